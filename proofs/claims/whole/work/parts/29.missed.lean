/-! ===== who is missed, when to sell ===== -/
def fr_z (t j : Nat) : Bool := fr_q t j || (Nat.ble 37 t && Nat.ble t 44)
theorem fr_q_z : ∀ t j, fr_q t j = true → fr_z t j = true := fun t j h => by unfold fr_z; rw [h]; rfl
theorem wk_W_fz {M M' : cb_M} (h : cb_fr fr_z M M') {P n : Nat} (hW : wk_W M P n) : wk_W M' P n := by
  obtain ⟨⟨h1, h2, h3, h4⟩, hB, h5, h6, h7⟩ := hW
  refine ⟨⟨(h.ref 25 0 0).trans h1, h2, (h.1 25 0 2 rfl).trans h3, h4⟩, ?_, (h.ref 25 0 1).trans h5, ?_, (h.1 3 P 1 rfl).trans h7⟩
  · unfold wk_B at *
    rw [h.fn 29 0 (fun _ => rfl), h.fn 30 0 (fun _ => rfl)]
    exact hB
  · rw [h.fn 8 P (fun _ => rfl)]
    exact h6
theorem wk_c_fz {M M' : cb_M} (h : cb_fr fr_z M M') (P n : Nat) : wk_c M' P n = wk_c M P n := by
  unfold wk_c
  rw [h.fn 9 P (fun _ => rfl), h.fn 29 0 (fun _ => rfl), h.fn 30 0 (fun _ => rfl), h.fn 8 P (fun _ => rfl), h.fn 4 P (fun _ => rfl), h.fn 11 P (fun _ => rfl), h.fn 26 0 (fun _ => rfl), h.fn 14 P (fun _ => rfl)]
theorem wt_c_fz {M M' : cb_M} (h : cb_fr fr_z M M') (P n : Nat) : wt_c M' P n = wt_c M P n := by
  unfold wt_c
  rw [wk_c_fz h, h.fn 9 P (fun _ => rfl), h.fn 29 0 (fun _ => rfl), h.fn 8 P (fun _ => rfl), h.fn 11 P (fun _ => rfl), h.fn 26 0 (fun _ => rfl)]
theorem wb_s_fz {M M' : cb_M} (h : cb_fr fr_z M M') (P n : Nat) : wb_s M' P n = wb_s M P n := by
  unfold wb_s
  rw [h.1 16 0 0 rfl, h.fn 10 P (fun _ => rfl), h.fn 17 0 (fun _ => rfl)]
theorem wk_try_fz {M M' : cb_M} (h : cb_fr fr_z M M') (P n : Nat) (those : Int32) (k : Nat) : wk_try M' P n those k = wk_try M P n those k := by
  unfold wk_try
  rw [wt_c_fz h, wb_s_fz h, h.fn 15 P (fun _ => rfl), h.1 25 0 10 rfl]
theorem cb_fr.cp {S : Nat → Nat → Bool} {M M' : cb_M} (h : cb_fr S M M') {t i sp t' i' dp n : Nat} (hs : ∀ j, S t' j = true) : cb_fr S M (cb_cp M' t i sp t' i' dp n) := by
  refine ⟨fun t2 i2 j2 q => ?_, h.2⟩
  rw [cb_gI_cp, if_neg]
  · exact h.1 _ _ _ q
  · rintro ⟨rfl, rfl⟩
    rw [hs] at q
    cases q
theorem cb_cp8 (f g : wm_F) (i : Nat) (hi : i < 8) : va_cpy f g 0 0 8 i = f i := by
  unfold va_cpy
  rw [if_pos ⟨by omega, by omega⟩]
  congr 1
  omega
def wq_oth (a b : wm_F) (n l : Nat) : Int32 := wm_sum (fun i => if i = l then 0 else wm_abs (a i - b i)) n
def sp_X0_goneOtherwise : cb_Sp := fun _ r M K => match r with
  | [.inl y] => ∃ P n l, (wk_T M P n ∧ y = nI l ∧ l < n) ∧ K (some (cb_i (wq_oth (cb_gI M 28 0) (cb_gI M 40 0) n l))) M
  | _ => False
def pt_X0_goneOtherwise : cb_PT := cb_m 39 1 sp_X0_goneOtherwise
theorem rc_X0_goneOtherwise : cb_rc cb_tb RX0 pt_X0_goneOtherwise := cb_m_rc rfl rfl
def md_X0_goneOtherwise : cb_D := (RX0, cX0_goneOtherwise, 4, (some .int), (0, 0, 1, 20), [
  (0, .iconst 0, 1, 0, 0, 0, 0),
  (1, .istore_n 2, 1, 0, 2, 0, 0),
  (2, .iconst 0, 1, 0, 0, 0, 0),
  (3, .istore_n 3, 1, 0, 3, 0, 0),
  (4, .iload_n 3, 1, 0, 3, 0, 0),
  (5, .aload_n 0, 1, 0, 0, 0, 0),
  (6, .getfield 15, 3, 0, 0, 0, 312),
  (9, .getfield 62, 3, 0, 7, 2, 228),
  (12, .if_icmp .ge 36, 3, 0, 48, 0, 0),
  (15, .iload_n 3, 1, 0, 3, 0, 0),
  (16, .iload_n 1, 1, 0, 1, 0, 0),
  (17, .if_icmp .eq 25, 3, 0, 42, 0, 0),
  (20, .iload_n 2, 1, 0, 2, 0, 0),
  (21, .aload_n 0, 1, 0, 0, 0, 0),
  (22, .getfield 15, 3, 0, 0, 0, 312),
  (25, .getfield 109, 3, 0, 7, 6, 242),
  (28, .iload_n 3, 1, 0, 3, 0, 0),
  (29, .iaload, 1, 0, 0, 0, 0),
  (30, .aload_n 0, 1, 0, 0, 0, 0),
  (31, .getfield 9, 3, 0, 0, 1, 313),
  (34, .iload_n 3, 1, 0, 3, 0, 0),
  (35, .iaload, 1, 0, 0, 0, 0),
  (36, .isub, 1, 0, 0, 0, 0),
  (37, .invokestatic 119, 3, 0, 0, 0, 0),
  (40, .iadd, 1, 0, 0, 0, 0),
  (41, .istore_n 2, 1, 0, 2, 0, 0),
  (42, .iinc 3 1, 3, 1, 3, 0, 0),
  (45, .goto (-41), 3, 0, 4, 0, 0),
  (48, .iload_n 2, 1, 0, 2, 0, 0),
  (49, .ireturn, 1, 0, 0, 0, 0)],
  [(1, 119, 1, 0, 0, pt_J9_abs_0f7a4)], [])
set_option maxRecDepth 100000 in
theorem vd_X0_goneOtherwise : md_X0_goneOtherwise.cd.all (cb_vE md_X0_goneOtherwise) = true := by decide +kernel
theorem wd_X0_goneOtherwise : cb_wd yX0_goneOtherwise md_X0_goneOtherwise := ⟨cb_tw (i := 1247) (by decide +kernel), cb_tw (i := 7) (by decide +kernel), by decide, by decide⟩
theorem cs_X0_goneOtherwise : ∀ X, cb_Bs md_X0_goneOtherwise X → ∀ g ∈ md_X0_goneOtherwise.ga, cb_CS cb_tb md_X0_goneOtherwise X g := fun X B => List.forall_mem_cons.mpr ⟨cb_csS B ok_J9_abs_0f7a4 wd_J9_abs_0f7a4 (cb_tw (i := 1248) (by decide +kernel)) (cb_tw (i := 451) (by decide +kernel)) ⟨by decide, by decide⟩ (by decide +kernel), fun _ h => nomatch h⟩
theorem ok_X0_goneOtherwise : cb_MOK cb_tb yX0_goneOtherwise md_X0_goneOtherwise pt_X0_goneOtherwise := by
  refine cb_okm ⟨plainFor_of_name (by decide), rfl⟩ (by decide) cs_X0_goneOtherwise (by decide) (fun X n0 f i r M hr ha h => ?_)
  have h0 := cb_a1 (T := 39) rfl ha
  subst h0
  match r, hr, h with
  | [.inl y], hr, h =>
    obtain ⟨P, n, l, ⟨⟨hP, hP2, hn, hn8⟩, hy, hl⟩, h⟩ := h
    have loop : ∀ j, j ≤ n → ∀ (x m : Int32), x = nI j → m = wq_oth (cb_gI M 28 0) (cb_gI M 40 0) j l → cb_Gd cb_tb md_X0_goneOtherwise X 4 [some (cb_r 39 0), some (cb_i (y)), some (cb_i (m)), some (cb_i (x))] [] (cb_aS n0, f) M 0 0 := by
      refine cb_up (fun j => ∀ (x m : Int32), x = nI j → m = wq_oth (cb_gI M 28 0) (cb_gI M 40 0) j l → cb_Gd cb_tb md_X0_goneOtherwise X 4 [some (cb_r 39 0), some (cb_i (y)), some (cb_i (m)), some (cb_i (x))] [] (cb_aS n0, f) M 0 0) ?_ ?_
      · intro x m hx hm
        refine cb_run cb_tb_ok vd_X0_goneOtherwise (cuts := [4]) 90 ?_
        exact cb_lout hx hn (And.intro trivial (cb_eqK h hm))
      · intro j hj ih x m hx hm
        have hx8 : vp_in x 8 := by rw [hx]; exact cb_in8 hj hn8 (by decide)
        have hxc : x.toNatClampNeg = j := by rw [hx]; exact nI_clamp (by omega)
        refine cb_run cb_tb_ok vd_X0_goneOtherwise (cuts := [4]) 90 ?_
        refine cb_lin hx hn hj (by omega) (And.intro (fun q => ?_) (fun q => And.intro hx8 (And.intro hx8 (And.intro trivial ?_))))
        · have q : x = y := q
          rw [hx, hy] at q
          have q : j = l := (nI_eq (by omega) (by omega)).mp q
          refine ih _ _ (by rw [hx, nI_1]) ?_
          unfold wq_oth at *
          rw [wm_sum, if_pos q, hm, Int32.add_zero]
        · have q : ¬ x = y := q
          have q : ¬ j = l := fun w => q (by rw [hx, hy, w])
          refine ih _ _ (by rw [hx, nI_1]) ?_
          unfold wq_oth at *
          rw [wm_sum, if_neg q, hm, hxc]
    exact cb_run cb_tb_ok vd_X0_goneOtherwise (cuts := [4]) 40 (loop 0 (Nat.zero_le _) _ _ rfl rfl)
/-- the first of the greatest above 0: how great, which -/
def wq_most (g : Nat → Int32) : Nat → Int32 × Int32
  | 0 => (0, -1)
  | j + 1 => if (wq_most g j).1 < g j then (g j, nI j) else wq_most g j
def wk_mis (M : cb_M) (P n k j : Nat) : Int32 := wq_oth (wk_try M P n (wm_wo (wm_all (nI n)) (wm_b1 j)) k).2.2 (wk_on M P n k).2.2 n j
def sp_X0_mostMissed : cb_Sp := fun _ r M K => match r with
  | [.inl N] => ∃ P n k, (wk_Q M P n ∧ N = nI k ∧ k < 2 ^ 31) ∧ ∀ M', cb_fr fr_z M M' → K (some (cb_i (wq_most (wk_mis M P n k) n).2)) M'
  | _ => False
def pt_X0_mostMissed : cb_PT := cb_m 39 1 sp_X0_mostMissed
theorem rc_X0_mostMissed : cb_rc cb_tb RX0 pt_X0_mostMissed := cb_m_rc rfl rfl
def md_X0_mostMissed : cb_D := (RX0, cX0_mostMissed, 6, (some .int), (0, 0, 6, 133), [
  (0, .aload_n 0, 1, 0, 0, 0, 0),
  (1, .getfield 15, 3, 0, 0, 0, 312),
  (4, .iload_n 1, 1, 0, 1, 0, 0),
  (5, .invokevirtual 28, 3, 0, 0, 0, 0),
  (8, .aload_n 0, 1, 0, 0, 0, 0),
  (9, .getfield 15, 3, 0, 0, 0, 312),
  (12, .getfield 109, 3, 0, 7, 6, 242),
  (15, .iconst 0, 1, 0, 0, 0, 0),
  (16, .aload_n 0, 1, 0, 0, 0, 0),
  (17, .getfield 9, 3, 0, 0, 1, 313),
  (20, .iconst 0, 1, 0, 0, 0, 0),
  (21, .bipush 8, 2, 8, 0, 0, 0),
  (23, .invokestatic 110, 3, 0, 1, 0, 0),
  (26, .iconst 0, 1, 0, 0, 0, 0),
  (27, .istore_n 2, 1, 0, 2, 0, 0),
  (28, .iconst (-1), 1, (-1), 0, 0, 0),
  (29, .istore_n 3, 1, 0, 3, 0, 0),
  (30, .iconst 0, 1, 0, 0, 0, 0),
  (31, .istore 4, 2, 0, 4, 0, 0),
  (33, .iload 4, 2, 0, 4, 0, 0),
  (35, .aload_n 0, 1, 0, 0, 0, 0),
  (36, .getfield 15, 3, 0, 0, 0, 312),
  (39, .getfield 62, 3, 0, 7, 2, 228),
  (42, .if_icmp .ge 51, 3, 0, 93, 0, 0),
  (45, .aload_n 0, 1, 0, 0, 0, 0),
  (46, .aload_n 0, 1, 0, 0, 0, 0),
  (47, .getfield 15, 3, 0, 0, 0, 312),
  (50, .getfield 35, 3, 0, 7, 0, 219),
  (53, .invokevirtual 39, 3, 0, 2, 0, 0),
  (56, .iconst 1, 1, 1, 0, 0, 0),
  (57, .iload 4, 2, 0, 4, 0, 0),
  (59, .ishl, 1, 0, 0, 0, 0),
  (60, .iconst (-1), 1, (-1), 0, 0, 0),
  (61, .ixor, 1, 0, 0, 0, 0),
  (62, .iand, 1, 0, 0, 0, 0),
  (63, .iload_n 1, 1, 0, 1, 0, 0),
  (64, .invokevirtual 44, 3, 0, 3, 0, 0),
  (67, .aload_n 0, 1, 0, 0, 0, 0),
  (68, .iload 4, 2, 0, 4, 0, 0),
  (70, .invokevirtual 116, 3, 0, 4, 0, 0),
  (73, .istore 5, 2, 0, 5, 0, 0),
  (75, .iload 5, 2, 0, 5, 0, 0),
  (77, .iload_n 2, 1, 0, 2, 0, 0),
  (78, .if_icmp .le 9, 3, 0, 87, 0, 0),
  (81, .iload 5, 2, 0, 5, 0, 0),
  (83, .istore_n 2, 1, 0, 2, 0, 0),
  (84, .iload 4, 2, 0, 4, 0, 0),
  (86, .istore_n 3, 1, 0, 3, 0, 0),
  (87, .iinc 4 1, 3, 1, 4, 0, 0),
  (90, .goto (-57), 3, 0, 33, 0, 0),
  (93, .iload_n 3, 1, 0, 3, 0, 0),
  (94, .ireturn, 1, 0, 0, 0, 0)],
  [(0, 28, 2, 0, 0, pt_X7_goDays), (1, 110, 5, 0, 0, pt_cp), (0, 39, 1, 0, 0, pt_X4_allClocks), (0, 44, 3, 0, 0, pt_X0_tryOnly), (0, 116, 2, 0, 0, pt_X0_goneOtherwise)], [])
set_option maxRecDepth 100000 in
theorem vd_X0_mostMissed : md_X0_mostMissed.cd.all (cb_vE md_X0_mostMissed) = true := by decide +kernel
theorem wd_X0_mostMissed : cb_wd yX0_mostMissed md_X0_mostMissed := ⟨cb_tw (i := 1242) (by decide +kernel), cb_tw (i := 7) (by decide +kernel), by decide, by decide⟩
theorem cs_X0_mostMissed : ∀ X, cb_Bs md_X0_mostMissed X → ∀ g ∈ md_X0_mostMissed.ga, cb_CS cb_tb md_X0_mostMissed X g := fun X B => List.forall_mem_cons.mpr ⟨cb_csV B ok_X7_goDays wd_X7_goDays (cb_tw (i := 1016) (by decide +kernel)) (cb_tw (i := 892) (by decide +kernel)) (cb_tw (i := 893) (by decide +kernel)) rc_X7_goDays ⟨by decide, by decide⟩ (by decide +kernel), List.forall_mem_cons.mpr ⟨cb_csCp B (cb_tw (i := 1243) (by decide +kernel)) ⟨by decide, by decide⟩, List.forall_mem_cons.mpr ⟨cb_csV B ok_X4_allClocks wd_X4_allClocks (cb_tw (i := 1018) (by decide +kernel)) (cb_tw (i := 432) (by decide +kernel)) (cb_tw (i := 433) (by decide +kernel)) rc_X4_allClocks ⟨by decide, by decide⟩ (by decide +kernel), List.forall_mem_cons.mpr ⟨cb_csV B ok_X0_tryOnly wd_X0_tryOnly (cb_tw (i := 1019) (by decide +kernel)) (cb_tw (i := 1021) (by decide +kernel)) (cb_tp (i := 29) (by decide +kernel)) rc_X0_tryOnly ⟨by decide, by decide⟩ (by decide +kernel), List.forall_mem_cons.mpr ⟨cb_csV B ok_X0_goneOtherwise wd_X0_goneOtherwise (cb_tw (i := 1244) (by decide +kernel)) (cb_tw (i := 1246) (by decide +kernel)) (cb_tp (i := 43) (by decide +kernel)) rc_X0_goneOtherwise ⟨by decide, by decide⟩ (by decide +kernel), fun _ h => nomatch h⟩⟩⟩⟩⟩
theorem ok_X0_mostMissed : cb_MOK cb_tb yX0_mostMissed md_X0_mostMissed pt_X0_mostMissed := by
  refine cb_okm ⟨plainFor_of_name (by decide), rfl⟩ (by decide) cs_X0_mostMissed (by decide) (fun X n0 f i r M hr ha h => ?_)
  have h0 := cb_a1 (T := 39) rfl ha
  subst h0
  match r, hr, h with
  | [.inl N], hr, h =>
    obtain ⟨P, n, k, ⟨hQ, hN, hk⟩, h⟩ := h
    obtain ⟨hW, hph, m, hR⟩ := id hQ
    obtain ⟨hP, hP2, hn, hn8⟩ := id hW.1
    let H : Nat → Int32 × Int32 := wq_most (wk_mis M P n k)
    have loop : ∀ j, j ≤ n → ∀ (x : Int32) (M' : cb_M) (v : Option cb_V), x = nI j → cb_fr fr_z M M' → (∀ i, i < n → cb_gI M' 40 0 i = (wk_on M P n k).2.2 i) → cb_Gd cb_tb md_X0_mostMissed X 33 [some (cb_r 39 0), some (cb_i (N)), some (cb_i ((H j).1)), some (cb_i ((H j).2)), some (cb_i (x)), v] [] (cb_aS n0, f) M' 0 0 := by
      refine cb_up (fun j => ∀ (x : Int32) (M' : cb_M) (v : Option cb_V), x = nI j → cb_fr fr_z M M' → (∀ i, i < n → cb_gI M' 40 0 i = (wk_on M P n k).2.2 i) → cb_Gd cb_tb md_X0_mostMissed X 33 [some (cb_r 39 0), some (cb_i (N)), some (cb_i ((H j).1)), some (cb_i ((H j).2)), some (cb_i (x)), v] [] (cb_aS n0, f) M' 0 0) ?_ ?_
      · intro x M' v hx hF ho
        refine cb_run cb_tb_ok vd_X0_mostMissed (cuts := [33]) 90 ?_
        exact cb_lout hx ((hF.1 25 0 2 rfl).trans hn) (And.intro trivial (cb_eqK (h M' hF) rfl))
      · intro j hj ih x M' v hx hF ho
        have hW' := wk_W_fz hF hW
        refine cb_run cb_tb_ok vd_X0_mostMissed (cuts := [33]) 90 ?_
        refine cb_lin hx ((hF.1 25 0 2 rfl).trans hn) hj (by omega) (Exists.intro (some P) (And.intro hW'.1.1 (And.intro (cb_on (cb_aP hP2 rfl)) ?_)))
        refine And.intro (cb_on rfl) ⟨P, n, k, ⟨hW', hN, hk⟩, fun M2 hF2 hQ2 hu2 hs2 => And.intro (cb_on rfl) ⟨P, n, j, ⟨hQ2.1.1, hx, hj⟩, ?_⟩⟩
        have e1 : (wm_all (cb_gI M' 3 P 1) &&& ((1 : Int32) <<< (x &&& 31) ^^^ (-1))) = wm_wo (wm_all (nI n)) (wm_b1 j) := by rw [hW'.2.2.2.2, hx]; rfl
        have hs2 : wt_s M2 n = wk_try M' P n (wm_all (cb_gI M' 3 P 1) &&& ((1 : Int32) <<< (x &&& 31) ^^^ (-1))) k := hs2
        rw [e1, wk_try_fz hF] at hs2
        have ev : wq_oth (cb_gI M2 28 0) (cb_gI M2 40 0) n j = wk_mis M P n k j := by
          unfold wk_mis wq_oth
          refine wm_sum_cong (fun i hi => ?_)
          rw [← hs2, hF2.1 40 0 i rfl, ho i hi, show (wt_s M2 n).2.2 i = cb_gI M2 28 0 i from wn_tr_lt hi]
        have o2 : ∀ i, i < n → cb_gI M2 40 0 i = (wk_on M P n k).2.2 i := fun i hi => (hF2.1 40 0 i rfl).trans (ho i hi)
        have nx := ih (x + 1) M2 (some (cb_i (wq_oth (cb_gI M2 28 0) (cb_gI M2 40 0) n j))) (by rw [hx, nI_1]) (hF.trans (hF2.mono fr_q_z)) o2
        refine And.intro (fun q => ?_) (fun q => ?_)
        · have q : wq_oth (cb_gI M2 28 0) (cb_gI M2 40 0) n j ≤ (H j).1 := q
          rw [ev] at q
          have e2 : H (j + 1) = H j := if_neg (Int32.not_lt.mpr q)
          rw [e2] at nx
          exact nx
        · have q : ¬ wq_oth (cb_gI M2 28 0) (cb_gI M2 40 0) n j ≤ (H j).1 := q
          rw [ev] at q
          have e2 : H (j + 1) = (wk_mis M P n k j, nI j) := if_pos (cb_nle_lt q)
          rw [e2, ← ev, ← hx] at nx
          exact nx
    refine cb_run cb_tb_ok vd_X0_mostMissed (cuts := [33]) 90 ?_
    refine And.intro (cb_on rfl) ⟨P, n, m, k, ⟨hR, hph, hN, hk⟩, fun M2 hF2 hs2 hph2 => And.intro ⟨by decide, by decide, by decide, by decide, by decide⟩ ?_⟩
    refine loop 0 (Nat.zero_le _) _ _ _ rfl (((hF2.mono fr_t_q).mono fr_q_z).cp (fun _ => rfl)) (fun i hi => ?_)
    refine (cb_cp8 (cb_gI M2 28 0) _ i (by omega)).trans ?_
    rw [← show (wt_s M2 n).2.2 i = cb_gI M2 28 0 i from wn_tr_lt hi, hs2]
    rfl
/-- the first day on which it is right there, and not alone -/
def wq_sell (p : Nat → Bool) (k : Nat) : Int32 := match (List.range k).find? p with
  | some j => nI (j + 1)
  | none => -1
theorem wq_sell_none {p : Nat → Bool} {k : Nat} (h : (List.range k).any p = false) : wq_sell p k = -1 := by
  unfold wq_sell
  rw [List.find?_eq_none.mpr (fun x hx => by
    have := List.any_eq_false.mp h x hx
    simpa using this)]
theorem wq_sell_some {p : Nat → Bool} {k j : Nat} (hj : j < k) (h : (List.range j).any p = false) (hp : p j = true) : wq_sell p k = nI (j + 1) := by
  unfold wq_sell
  have e : List.range k = List.range j ++ (j :: (List.range (k - j - 1)).map (fun i => j + 1 + i)) := by
    have : k = j + (1 + (k - j - 1)) := by omega
    conv => lhs; rw [this, List.range_add, List.range_add]
    simp [List.map_map, Function.comp_def, Nat.add_assoc]
  rw [e, List.find?_append, List.find?_eq_none.mpr (fun x hx => by
    have := List.any_eq_false.mp h x hx
    simpa using this)]
  simp [hp]
def wk_sel (M : cb_M) (P n i g : Nat) : Bool := wm_rgt (cb_gI M 3 P 4) ((wk_on M P n (g + 1)).2.2 i) && !wm_rgt (cb_gI M 3 P 4) (wk_al M P i (g + 1))
theorem wn_days_day {c : wn_C} {u : wm_U} {dp : wm_F} {s : wm_S} : ∀ k, (wn_days c u dp s k).1 = s.1 + nI k
  | 0 => by rw [wn_days, nI_0, Int32.add_zero]
  | k + 1 => by
    show (wn_days c u dp s k).1 + 1 = _
    rw [wn_days_day k, Int32.add_assoc, nI_1]
def sp_X0_firstDayToSell : cb_Sp := fun _ r M K => match r with
  | [.inl x, .inl N] => ∃ P n i k, (wk_Q M P n ∧ N = nI k ∧ k < 2 ^ 30 ∧ x = nI i ∧ i < n ∧ cb_gI M 25 0 3 = cb_gI M 16 0 0) ∧ ∀ M', cb_fr fr_q M M' → K (some (cb_i (wq_sell (wk_sel M P n i) k))) M'
  | _ => False
def pt_X0_firstDayToSell : cb_PT := cb_m 39 2 sp_X0_firstDayToSell
theorem rc_X0_firstDayToSell : cb_rc cb_tb RX0 pt_X0_firstDayToSell := cb_m_rc rfl rfl
def md_X0_firstDayToSell : cb_D := (RX0, cX0_firstDayToSell, 5, (some .int), (0, 0, 5, 111), [
  (0, .aload_n 0, 1, 0, 0, 0, 0),
  (1, .getfield 15, 3, 0, 0, 0, 312),
  (4, .getfield 85, 3, 0, 7, 1, 225),
  (7, .getfield 89, 3, 0, 3, 1, 175),
  (10, .iload_n 1, 1, 0, 1, 0, 0),
  (11, .iaload, 1, 0, 0, 0, 0),
  (12, .istore_n 3, 1, 0, 3, 0, 0),
  (13, .iconst 1, 1, 1, 0, 0, 0),
  (14, .istore 4, 2, 0, 4, 0, 0),
  (16, .iload 4, 2, 0, 4, 0, 0),
  (18, .iload_n 2, 1, 0, 2, 0, 0),
  (19, .if_icmp .gt 60, 3, 0, 79, 0, 0),
  (22, .iload_n 3, 1, 0, 3, 0, 0),
  (23, .aload_n 0, 1, 0, 0, 0, 0),
  (24, .iload_n 1, 1, 0, 1, 0, 0),
  (25, .aload_n 0, 1, 0, 0, 0, 0),
  (26, .getfield 15, 3, 0, 0, 0, 312),
  (29, .getfield 124, 3, 0, 7, 3, 233),
  (32, .invokevirtual 97, 3, 0, 0, 0, 0),
  (35, .iadd, 1, 0, 0, 0, 0),
  (36, .istore_n 3, 1, 0, 3, 0, 0),
  (37, .aload_n 0, 1, 0, 0, 0, 0),
  (38, .getfield 15, 3, 0, 0, 0, 312),
  (41, .iconst 1, 1, 1, 0, 0, 0),
  (42, .invokevirtual 28, 3, 0, 1, 0, 0),
  (45, .aload_n 0, 1, 0, 0, 0, 0),
  (46, .getfield 15, 3, 0, 0, 0, 312),
  (49, .iload_n 1, 1, 0, 1, 0, 0),
  (50, .invokevirtual 125, 3, 0, 2, 0, 0),
  (53, .ifCond .eq 20, 3, 0, 73, 0, 0),
  (56, .aload_n 0, 1, 0, 0, 0, 0),
  (57, .getfield 15, 3, 0, 0, 0, 312),
  (60, .getfield 35, 3, 0, 7, 0, 219),
  (63, .iload_n 3, 1, 0, 3, 0, 0),
  (64, .invokevirtual 81, 3, 0, 3, 0, 0),
  (67, .ifCond .ne 6, 3, 0, 73, 0, 0),
  (70, .iload 4, 2, 0, 4, 0, 0),
  (72, .ireturn, 1, 0, 0, 0, 0),
  (73, .iinc 4 1, 3, 1, 4, 0, 0),
  (76, .goto (-60), 3, 0, 16, 0, 0),
  (79, .iconst (-1), 1, (-1), 0, 0, 0),
  (80, .ireturn, 1, 0, 0, 0, 0)],
  [(0, 97, 3, 0, 0, pt_X0_goneAlone), (0, 28, 2, 0, 0, pt_X7_goDays), (0, 125, 2, 0, 0, pt_X7_isRight), (0, 81, 2, 0, 0, pt_X4_isRightBy)], [])
set_option maxRecDepth 100000 in
theorem vd_X0_firstDayToSell : md_X0_firstDayToSell.cd.all (cb_vE md_X0_firstDayToSell) = true := by decide +kernel
theorem wd_X0_firstDayToSell : cb_wd yX0_firstDayToSell md_X0_firstDayToSell := ⟨cb_tw (i := 1283) (by decide +kernel), cb_tw (i := 7) (by decide +kernel), by decide, by decide⟩
theorem cs_X0_firstDayToSell : ∀ X, cb_Bs md_X0_firstDayToSell X → ∀ g ∈ md_X0_firstDayToSell.ga, cb_CS cb_tb md_X0_firstDayToSell X g := fun X B => List.forall_mem_cons.mpr ⟨cb_csV B ok_X0_goneAlone wd_X0_goneAlone (cb_tw (i := 1177) (by decide +kernel)) (cb_tw (i := 1179) (by decide +kernel)) (cb_tp (i := 42) (by decide +kernel)) rc_X0_goneAlone ⟨by decide, by decide⟩ (by decide +kernel), List.forall_mem_cons.mpr ⟨cb_csV B ok_X7_goDays wd_X7_goDays (cb_tw (i := 1016) (by decide +kernel)) (cb_tw (i := 892) (by decide +kernel)) (cb_tw (i := 893) (by decide +kernel)) rc_X7_goDays ⟨by decide, by decide⟩ (by decide +kernel), List.forall_mem_cons.mpr ⟨cb_csV B ok_X7_isRight wd_X7_isRight (cb_tw (i := 1284) (by decide +kernel)) (cb_tw (i := 469) (by decide +kernel)) (cb_tw (i := 470) (by decide +kernel)) rc_X7_isRight ⟨by decide, by decide⟩ (by decide +kernel), List.forall_mem_cons.mpr ⟨cb_csV B ok_X4_isRightBy wd_X4_isRightBy (cb_tw (i := 1183) (by decide +kernel)) (cb_tw (i := 473) (by decide +kernel)) (cb_tw (i := 474) (by decide +kernel)) rc_X4_isRightBy ⟨by decide, by decide⟩ (by decide +kernel), fun _ h => nomatch h⟩⟩⟩⟩
theorem ok_X0_firstDayToSell : cb_MOK cb_tb yX0_firstDayToSell md_X0_firstDayToSell pt_X0_firstDayToSell := by
  refine cb_okm ⟨plainFor_of_name (by decide), rfl⟩ (by decide) cs_X0_firstDayToSell (by decide) (fun X n0 f i r M hr ha h => ?_)
  have h0 := cb_a1 (T := 39) rfl ha
  subst h0
  match r, hr, h with
  | [.inl x, .inl N], hr, h =>
    obtain ⟨P, n, i, k, ⟨hQ, hN, hk, hx, hi, hday⟩, h⟩ := h
    obtain ⟨hW, hph, m, hR⟩ := id hQ
    obtain ⟨hP, hP2, hn, hn8⟩ := id hW.1
    have hx8 : vp_in x 8 := by rw [hx]; exact cb_in8 hi hn8 (by decide)
    have hxc : x.toNatClampNeg = i := by rw [hx]; exact nI_clamp (by omega)
    have loop : ∀ j, j ≤ k → ∀ (y o : Int32) (M' : cb_M), y = nI (j + 1) → o = wk_al M P i j → cb_fr fr_t M M' → wk_Ph M' n → wt_s M' n = wk_on M P n j → (List.range j).any (wk_sel M P n i) = false → cb_Gd cb_tb md_X0_firstDayToSell X 16 [some (cb_r 39 0), some (cb_i (x)), some (cb_i (N)), some (cb_i (o)), some (cb_i (y))] [] (cb_aS n0, f) M' 0 0 := by
      refine cb_up (fun j => ∀ (y o : Int32) (M' : cb_M), y = nI (j + 1) → o = wk_al M P i j → cb_fr fr_t M M' → wk_Ph M' n → wt_s M' n = wk_on M P n j → (List.range j).any (wk_sel M P n i) = false → cb_Gd cb_tb md_X0_firstDayToSell X 16 [some (cb_r 39 0), some (cb_i (x)), some (cb_i (N)), some (cb_i (o)), some (cb_i (y))] [] (cb_aS n0, f) M' 0 0) ?_ ?_
      · intro y o M' hy ho hF hp hs hz
        refine cb_run cb_tb_ok vd_X0_firstDayToSell (cuts := [16]) 90 ?_
        refine And.intro (fun _ => And.intro trivial (cb_eqK (h M' (hF.mono fr_t_q)) (wq_sell_none hz).symm)) (fun q => ?_)
        have q : ¬ N < y := q
        rw [hy, hN] at q
        exact absurd (nI_lt (by omega) (by omega)) q
      · intro j hj ih y o M' hy ho hF hp hs hz
        have hR' := wk_R_fr hF hR
        have hQ' := wk_Q_fr hF hQ hp
        refine cb_run cb_tb_ok vd_X0_firstDayToSell (cuts := [16]) 90 ?_
        refine And.intro (fun q => ?_) (fun _ => ?_)
        · have q : N < y := q
          rw [hy, hN] at q
          exact absurd q (nI_nlt (by omega) (by omega))
        refine And.intro (cb_on rfl) ⟨P, i, ⟨hR'.1.1, hP2, hx, by omega⟩, And.intro (cb_on rfl) ⟨P, n, m, 1, ⟨hR', hp, rfl, by decide⟩, fun M2 hF2 hs2 hp2 => ?_⟩⟩
        have hF3 := hF.trans hF2
        have hW2 := wk_W_fq (hF3.mono fr_t_q) hW
        have ed : cb_gI M' 25 0 3 = cb_gI M 16 0 0 + nI j := by
          have e : (wt_s M' n).1 = _ := congrArg Prod.fst hs
          rw [show (wt_s M' n).1 = cb_gI M' 25 0 3 from rfl] at e
          rw [e]
          unfold wk_on
          rw [wn_days_day, ← hday]
          rfl
        have eo : o + wn_gone (cb_gI M' 11 P) (cb_gI M' 7 P) (cb_gI M' 15 P) i (cb_gI M' 25 0 3) = wk_al M P i (j + 1) := by
          rw [ho, ed, hF.fn 11 P (fun _ => rfl), hF.fn 7 P (fun _ => rfl), hF.fn 15 P (fun _ => rfl)]
          rfl
        have es : wt_s M2 n = wk_on M P n (j + 1) := by
          rw [hs2, wt_c_fr hF, wt_u_fr hF, hs, hF.fn 15 P (fun _ => rfl)]
          rfl
        have er : cb_gI M2 28 0 x.toNatClampNeg = (wk_on M P n (j + 1)).2.2 i := by
          rw [hxc, ← es]
          exact (wn_tr_lt hi).symm
        have e3 : cb_gI M2 3 P 4 = cb_gI M 3 P 4 := hF3.1 3 P 4 rfl
        have nx : wk_sel M P n i j = false → cb_Gd cb_tb md_X0_firstDayToSell X 16 [some (cb_r 39 0), some (cb_i (x)), some (cb_i (N)), some (cb_i (o + wn_gone (cb_gI M' 11 P) (cb_gI M' 7 P) (cb_gI M' 15 P) i (cb_gI M' 25 0 3))), some (cb_i ((y + 1)))] [] (cb_aS n0, f) M2 0 0 := fun q => ih _ _ M2 (by rw [hy, nI_1]) eo hF3 hp2 es (by rw [cb_any_succ, hz, q]; rfl)
        refine And.intro (cb_on rfl) ⟨P, ⟨hW2.1.1, hP2, hx8⟩, cb_ifz (fun q => ?_) (fun q => Exists.intro (some P) (And.intro hW2.1.1 (And.intro (cb_on (cb_aP hP2 rfl)) (And.intro (fun q2 => ?_) (fun q2 => ?_)))))⟩
        · rw [e3, er] at q
          exact nx (by unfold wk_sel; rw [q]; rfl)
        · have q2 : ¬ cb_z (wm_rgt (cb_gI M2 3 P 4) (o + wn_gone (cb_gI M' 11 P) (cb_gI M' 7 P) (cb_gI M' 15 P) i (cb_gI M' 25 0 3))) = 0 := q2
          rw [eo, e3] at q2
          refine nx ?_
          unfold wk_sel
          cases hh : wm_rgt (cb_gI M 3 P 4) (wk_al M P i (j + 1)) with
          | true => simp
          | false => rw [hh] at q2; exact absurd rfl q2
        · have q2 : cb_z (wm_rgt (cb_gI M2 3 P 4) (o + wn_gone (cb_gI M' 11 P) (cb_gI M' 7 P) (cb_gI M' 15 P) i (cb_gI M' 25 0 3))) = 0 := Classical.not_not.mp q2
          rw [eo, e3] at q2
          rw [e3, er] at q
          refine And.intro trivial (cb_eqK (h M2 (hF3.mono fr_t_q)) ?_)
          rw [wq_sell_some hj hz (by unfold wk_sel; rw [q, cb_z_eq0.mp q2]; rfl)]
          exact hy
    refine cb_run cb_tb_ok vd_X0_firstDayToSell (cuts := [16]) 90 ?_
    refine Exists.intro (some 0) (And.intro hW.2.2.1 (And.intro hx8 (loop 0 (Nat.zero_le _) _ _ M rfl ?_ (cb_fr.refl M) hph rfl rfl)))
    rw [hxc]
    rfl
