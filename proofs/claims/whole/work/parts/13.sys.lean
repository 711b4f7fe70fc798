/-! ===== the things of the system: the table of their tags =====
  0 WC, 1 RD, 2 BY, 3 PL, 4 PL_thick, 5 PL_board, 6 PL_place, 7 PL_rate
  8 PL_weight, 9 PL_kind, 10 PL_firstPhase, 11 PL_key, 12 PL_hookBoard, 13 PL_hookPlace, 14 PL_hears, 15 PL_damp
  16 MO, 17 MO_off, 18 MO_board, 19 MO_place, 20 MO_hookBoard, 21 MO_hookPlace, 22 MO_booked, 23 MO_past
  24 IM, 25 TR, 26 TR_rate, 27 TR_phase, 28 TR_off, 29 TR_board, 30 TR_place, 31 TR_boardMates
  32 TR_drive, 33 TR_pairFirst, 34 TR_pairSecond, 35 TR_firstHears, 36 TR_secondHears, 37 LK, 38 LK_joined, 39 AB
  40 AB_off, 41 RT, 42 HA, 43 HA_chosen, 44 HA_hookOf, 45 TW, 46 MD, 47 MD_fed
  48 MD_readTold, 49 MD_told, 50 MD_readThick, 51 MD_thick, 52 MD_readDamp, 53 MD_damp, 54 MD_readKey, 55 MD_key
  56 MD_readClock, 57 MD_readClockR, 58 MD_readHook, 59 MD_readHookR, 60 MD_readHears, 61 MD_readHearsR, 62 MD_hears, 63 MD_hearsR
  64 MD_board, 65 MD_x, 66 MD_rate, 67 MD_weight, 68 MD_kind, 69 MD_phase, 70 MD_off, 71 MD_book
  72 MD_hookBoard, 73 MD_hookX, 74 MD_phaseAt, 75 MD_phaseAtR, 76 MD_offAt, 77 MD_offAtR, 78 MD_kept, 79 MD_keptR
  80 MD_p, 81 MD_f, 82 MD_pulls, 83 MD_goes, 84 MD_set, 85 MD_pairs, 86 MD_offBy, 87 MD_offEach
  88 MD_offEachR, 89 MD_offWith, 90 OUT -/
def cb_tb : List cb_E := [
  (0, 9, [(2, 2), (0, 0), (2, 1), (0, 0), (1, 3), (1, 3), (2, 16), (2, 24), (0, 0), (2, 25), (2, 37), (2, 39), (2, 41), (2, 42), (2, 45)]),
  (0, 6, [(1, 2), (0, 0), (0, 0), (0, 0), (0, 0), (0, 0)]),
  (2, 600, [(0, 0)]),
  (0, 4, [(0, 0), (0, 0), (0, 0), (0, 0), (0, 0), (2, 4), (2, 5), (2, 6), (2, 7), (2, 8), (2, 9), (2, 10), (2, 11), (2, 12), (2, 13), (2, 14), (2, 15)]),
  (1, 4, [(0, 0)]),
  (1, 8, [(0, 0)]),
  (1, 8, [(0, 0)]),
  (1, 8, [(0, 0)]),
  (1, 8, [(0, 0)]),
  (1, 8, [(0, 0)]),
  (1, 8, [(0, 0)]),
  (1, 8, [(0, 0)]),
  (1, 6, [(0, 0)]),
  (1, 6, [(0, 0)]),
  (1, 64, [(0, 0)]),
  (1, 400, [(0, 0)]),
  (0, 3, [(0, 0), (2, 17), (2, 18), (2, 19), (2, 20), (2, 21), (2, 22), (2, 23)]),
  (1, 8, [(0, 0)]),
  (1, 8, [(0, 0)]),
  (1, 8, [(0, 0)]),
  (1, 6, [(0, 0)]),
  (1, 6, [(0, 0)]),
  (1, 8, [(0, 0)]),
  (1, 3200, [(0, 0)]),
  (5, 3, [(1, 16)]),
  (0, 7, [(1, 3), (1, 16), (0, 0), (0, 0), (2, 26), (2, 27), (2, 28), (2, 29), (2, 30), (0, 0), (5, 0), (2, 31), (2, 32), (0, 0), (2, 33), (2, 34), (2, 35), (2, 36)]),
  (1, 8, [(0, 0)]),
  (1, 8, [(0, 0)]),
  (1, 8, [(0, 0)]),
  (1, 8, [(0, 0)]),
  (1, 8, [(0, 0)]),
  (1, 8, [(0, 0)]),
  (1, 8, [(0, 0)]),
  (1, 28, [(0, 0)]),
  (1, 28, [(0, 0)]),
  (1, 28, [(0, 0)]),
  (1, 28, [(0, 0)]),
  (0, 2, [(0, 0), (2, 38)]),
  (1, 8, [(0, 0)]),
  (0, 0, [(2, 25), (2, 40)]),
  (1, 8, [(0, 0)]),
  (0, 5, [(2, 25)]),
  (0, 1, [(2, 25), (2, 43), (2, 44), (0, 0)]),
  (1, 4, [(0, 0)]),
  (1, 4, [(0, 0)]),
  (0, 8, [(2, 25)]),
  (0, 10, [(0, 0), (0, 0), (0, 0), (0, 0), (0, 0), (0, 0), (0, 0), (0, 0), (2, 47), (2, 48), (2, 49), (2, 50), (2, 51), (2, 52), (2, 53), (2, 54), (2, 55), (2, 56), (2, 58), (2, 60), (2, 62), (2, 64), (2, 65), (2, 66), (2, 67), (2, 68), (2, 69), (2, 70), (2, 71), (2, 72), (2, 73), (2, 74), (2, 76), (0, 0), (0, 0), (0, 0), (2, 78), (2, 80), (2, 81), (2, 82), (2, 83), (0, 0), (0, 0), (0, 0), (5, 0), (5, 0), (2, 84), (2, 85), (0, 0), (0, 0), (0, 0), (2, 86), (2, 87), (2, 89)]),
  (1, 600, [(0, 0)]),
  (1, 5, [(0, 0)]),
  (1, 5, [(0, 0)]),
  (1, 4, [(0, 0)]),
  (1, 4, [(0, 0)]),
  (1, 400, [(0, 0)]),
  (1, 400, [(0, 0)]),
  (1, 8, [(0, 0)]),
  (1, 8, [(0, 0)]),
  (6, 8, [(3, 57)]),
  (1, 6, [(0, 0)]),
  (6, 6, [(3, 59)]),
  (1, 2, [(0, 0)]),
  (6, 8, [(3, 61)]),
  (1, 8, [(0, 0)]),
  (6, 8, [(3, 63)]),
  (1, 8, [(0, 0)]),
  (1, 8, [(0, 0)]),
  (1, 8, [(0, 0)]),
  (1, 8, [(0, 0)]),
  (1, 8, [(0, 0)]),
  (1, 8, [(0, 0)]),
  (1, 8, [(0, 0)]),
  (1, 8, [(0, 0)]),
  (1, 8, [(0, 0)]),
  (1, 6, [(0, 0)]),
  (1, 6, [(0, 0)]),
  (6, 401, [(3, 75)]),
  (1, 8, [(0, 0)]),
  (6, 401, [(3, 77)]),
  (1, 8, [(0, 0)]),
  (6, 3, [(3, 79)]),
  (1, 6469, [(0, 0)]),
  (1, 8, [(0, 0)]),
  (1, 8, [(0, 0)]),
  (1, 8, [(0, 0)]),
  (3, 8, [(5, 0)]),
  (1, 8, [(0, 0)]),
  (1, 64, [(0, 0)]),
  (1, 201, [(0, 0)]),
  (6, 100, [(3, 88)]),
  (1, 201, [(0, 0)]),
  (1, 8, [(0, 0)]),
  (4, 1, [(4, 0)])]
theorem cb_tb_ok : cb_tok cb_tb = true := by decide +kernel
theorem cb_tw {i : Nat} {w : Cond} (h : tables_1[i]? = some w) : w ∈ lw_tbl := by unfold lw_tbl; exact List.mem_append_right _ (List.mem_of_getElem? h)
theorem cb_tp {i : Nat} {w : Cond} (h : (k2_sels lw_privs)[i]? = some w) : w ∈ lw_tbl := by unfold lw_tbl; exact List.mem_append_left _ (List.mem_of_getElem? h)
theorem cb_xw1 : ∀ w ∈ vx_atS RX9 353 "java/lang/IllegalArgumentException" ["java/lang/RuntimeException", "java/lang/Exception"], w ∈ lw_tbl ∧ (goodWord w = true ∨ cb_nw w = true) ∧ vx_ot w = true := by decide +kernel
theorem cb_nwT {w : Cond} (h : cb_nw w = true) : w.onTables = true := by
  cases w <;> first | rfl | (simp [cb_nw] at h)
/-! ===== System.arraycopy over ints ===== -/
def cb_cp (M : cb_M) (t i sp t' i' dp n : Nat) : cb_M := (fun t2 i2 k => if t2 = t' ∧ i2 = i' then va_cpy (M.1 t i) (M.1 t' i') sp dp n k else M.1 t2 i2 k, M.2)
def pt_cp : cb_PT := fun As a M K => match As with
  | [.inr (.inr (some (t, i))), .inl sp, .inr (.inr (some (t', i'))), .inl dp, .inl n] => cb_av (a.1 t i) (cb_av (a.1 t' i') (cb_ck (Nat.beq (cb_kd cb_tb t) 1) (cb_ck (Nat.beq (cb_kd cb_tb t') 1)
    ((¬ sp < 0 ∧ ¬ dp < 0 ∧ ¬ n < 0 ∧ sp.toNatClampNeg + n.toNatClampNeg ≤ cb_len cb_tb t i ∧ dp.toNatClampNeg + n.toNatClampNeg ≤ cb_len cb_tb t' i') ∧ K (.inl none) a (cb_cp M t i sp.toNatClampNeg t' i' dp.toNatClampNeg n.toNatClampNeg)))))
  | _ => False
theorem pt_cp_to {As : List cb_V} {a : cb_A} {M : cb_M} {K : cb_Out → cb_A → cb_M → Prop} (h : pt_cp As a M K) : ∃ (t i : Nat) (sp : Int32) (t' i' : Nat) (dp n : Int32), As = [cb_r t i, cb_i sp, cb_r t' i', cb_i dp, cb_i n] ∧ a.1 t i = true ∧ a.1 t' i' = true ∧ cb_kd cb_tb t = 1 ∧ cb_kd cb_tb t' = 1 ∧
    (¬ sp < 0 ∧ ¬ dp < 0 ∧ ¬ n < 0 ∧ sp.toNatClampNeg + n.toNatClampNeg ≤ cb_len cb_tb t i ∧ dp.toNatClampNeg + n.toNatClampNeg ≤ cb_len cb_tb t' i') ∧ K (.inl none) a (cb_cp M t i sp.toNatClampNeg t' i' dp.toNatClampNeg n.toNatClampNeg) := by
  unfold pt_cp at h
  split at h
  · obtain ⟨g1, h⟩ := h.to
    obtain ⟨g2, h⟩ := h.to
    obtain ⟨g3, h⟩ := h.to
    obtain ⟨g4, h⟩ := h.to
    exact ⟨_, _, _, _, _, _, _, rfl, g1, g2, Nat.eq_of_beq_eq_true g3, Nat.eq_of_beq_eq_true g4, h.1, h.2⟩
  · exact h.elim
theorem cb_int_sv {tb : List cb_E} (htb : cb_tok tb = true) {t : Nat} (hk : cb_kd tb t = 1) (M : cb_M) (i j : Nat) : cb_sv tb M t i j = cb_i (cb_gI M t i j) := by
  obtain ⟨T, hT⟩ := cb_tb_el htb (c := 0) hk (by omega) j
  unfold cb_sv
  rw [hT]
  rfl
theorem cb_csCp {d : cb_D} {X : cb_X} (B : cb_Bs d X) {idx : Nat} (hl : Cond.methodLink d.own idx arraycopyName ∈ lw_tbl) (hR : 1 ≤ d.fr ∧ 8 + (nativeFrameWords "java/lang/System" "arraycopy" 5 + 11) ≤ d.lo) : cb_CS cb_tb d X (1, idx, 5, 0, 0, pt_cp) := by
  intro a M As K H locs k n pc lc rest hlen hPT hP hS hsz hcat hk hms hdg kv kx
  obtain ⟨hx, hb, hml, hown, hK, hs0, hl0, hR1, hR2, hR3, hR4⟩ := id B
  obtain ⟨t, i, sp, t', i', dp, nn, rfl, g1, g2, g3, g4, ⟨h1, h2, h3, h4, h5⟩, hKK⟩ := pt_cp_to hPT
  · skip
    have toI : ∀ z : Int32, ¬ z < 0 → z.toInt = (z.toNatClampNeg : Int) := by
      intro z hz
      have hz0 : (0 : Int) ≤ z.toInt := by
        have := Int32.not_lt.mp hz
        simpa using Int32.le_iff_toInt_le.mp this
      show z.toInt = ((z.toInt.toNat : Nat) : Int)
      omega
    have eS : ∀ (t i : Nat), cb_kd cb_tb t = 1 → (fun j => cb_c X.G.ad (cb_sv cb_tb M t i j)) = fun j => Value.int (cb_gI M t i j) := fun t i hk => funext fun j => by rw [cb_int_sv cb_tb_ok hk]; rfl
    have hc0 := ((hP.1 t i g1).1).arr g3
    have hc1 := ((hP.1 t' i' g2).1).arr g4
    rw [eS t i g3] at hc0
    rw [eS t' i' g4] at hc1
    obtain ⟨-, k0, hk0, cm0, hkk0⟩ := (hK.2.2.2.1 1 (by omega) (by omega)).1 (cb_len cb_tb t i) (fun j => .int (cb_gI M t i j))
    obtain ⟨-, k1, hk1, cm1, hkk1⟩ := (hK.2.2.2.1 1 (by omega) (by omega)).1 (cb_len cb_tb t' i') (fun j => .int (cb_gI M t' i' j))
    intro T hT Y
    obtain ⟨vm', Y', step⟩ := Y.arraycopy hx hown (hK.1 _ hl rfl _) (hK.1 (.native arraycopyName) (cb_tw (i := 430) (by decide +kernel)) rfl _) (hK.1 (.static arraycopyName) (cb_tw (i := 429) (by decide +kernel)) rfl _) (hK.1 (.initialized "java/lang/System") (cb_tw (i := 22) (by decide +kernel)) rfl _) (src := X.G.ad t i) (dst := X.G.ad t' i') (srcPos := sp) (destPos := dp) (n := nn) (by rw [hT]; exact hc0) (by rw [hT]; exact hc1)
      (fun _ h => by cases h) (fun _ h => by cases h) (fun h => by cases h) (fun h => by cases h) hk0 hk1 hkk0 hkk1 (by simp [cb_ety, refKind]) h1 h2 h3
      (by rw [toI sp h1, toI nn h3, arrV_size]; omega)
      (by rw [toI dp h2, toI nn h3, arrV_size]; omega)
      (fun vm₁ _ j hj => by
        have e : (arrV (X.G.dA 1) (cb_len cb_tb t i) (fun j => Value.int (cb_gI M t i j))).slots.getD (sp.toNatClampNeg + j) .null = .int (cb_gI M t i (sp.toNatClampNeg + j)) := by
          rw [Array.getD_eq_getD_getElem?, arrV_read _ _ (by omega)]
          rfl
        refine ⟨?_, ?_⟩
        · rw [e]; rfl
        · rw [e]; exact trivial)
      (g := F0 X.m pc lc (cb_cs X.G.ad ([cb_r t i, cb_i sp, cb_r t' i', cb_i dp, cb_i nn].reverse ++ rest))) rfl (by rw [hml]; exact hsz) (rest := cb_cs X.G.ad rest) rfl (by rw [hb]; exact hdg) (by rw [hR1]; exact hR.1) (by
        have := cb_cat_sum X.G.ad rest
        rw [hR4]
        show 2 * 0 + _ + _ ≤ _
        rw [this]
        have := hR.2
        omega)
    have e1 : copied (arrV (X.G.dA 1) (cb_len cb_tb t i) (fun j => Value.int (cb_gI M t i j))) (arrV (X.G.dA 1) (cb_len cb_tb t' i') (fun j => Value.int (cb_gI M t' i' j))) sp dp nn = arrV (X.G.dA 1) (cb_len cb_tb t' i') (fun j => Value.int (va_cpy (cb_gI M t i) (cb_gI M t' i') sp.toNatClampNeg dp.toNatClampNeg nn.toNatClampNeg j)) := va_copied (fun z => .int z) _ _ _ _ h4
    rw [e1] at Y' step
    generalize hcell : arrV (X.G.dA 1) (cb_len cb_tb t' i') (fun j => Value.int (va_cpy (cb_gI M t i) (cb_gI M t' i') sp.toNatClampNeg dp.toNatClampNeg nn.toNatClampNeg j)) = cell at Y' step
    have hlt : X.G.ad t' i' < H.size := hP.lt g2
    have hheap : ((T.setVm vm').setCell (X.G.ad t' i') cell).heap = H.setIfInBounds (X.G.ad t' i') cell := by rw [← hT]; rfl
    have oq : ∀ q : Nat, q ≠ X.G.ad t' i' → (H.setIfInBounds (X.G.ad t' i') cell)[q]? = H[q]? := fun q hq => by simp [Array.getElem?_setIfInBounds, Ne.symm hq]
    have hnew : (H.setIfInBounds (X.G.ad t' i') cell)[X.G.ad t' i']? = some cell := by simp [Array.getElem?_setIfInBounds, hlt]
    have hP' : cb_P X.G cb_tb a (cb_cp M t i sp.toNatClampNeg t' i' dp.toNatClampNeg nn.toNatClampNeg) (H.setIfInBounds (X.G.ad t' i') cell) := by
      refine ⟨fun t2 i2 ha2 => ⟨?_, (hP.1 t2 i2 ha2).2⟩, hP.2.1, fun z hz => by simpa using hP.2.2 z hz⟩
      by_cases e : t2 = t' ∧ i2 = i'
      · obtain ⟨rfl, rfl⟩ := e
        refine cb_at.ofArr g4 ?_
        rw [hnew, ← hcell]
        congr 2
        funext j
        rw [cb_int_sv cb_tb_ok g4]
        simp [cb_c, cb_gI, cb_cp]
        rfl
      · refine (hP.1 t2 i2 ha2).1.kept (oq _ fun q => e (hP.2.1 _ _ _ _ ha2 g2 q)) fun j => ?_
        simp only [cb_sv, cb_gI, cb_gR, cb_gL, cb_cp, if_neg e]
    obtain ⟨t9, a1, b1⟩ := kv none a _ _ _ hKK hP' ⟨by simpa using hS.1, fun q g1 g9 => by
        rw [oq q (fun e => g9 (by rw [e]; exact (hP.1 t' i' g2).2))]
        exact hS.2.1 q g1 g9, fun q hq => by
        rcases List.mem_append.mp hq with h | h
        · exact hS.2.2 q h
        · obtain ⟨z, -, hz⟩ := List.mem_map.mp h
          rw [← hz]
          exact (hP.1 t' i' g2).2⟩ _ hheap Y'
    exact ⟨t9, step t9 a1, b1⟩
