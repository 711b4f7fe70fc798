/-! ===== things made: the seed table, what is born ===== -/
def cb_sd : List cb_E := [
  (0, 9, [(1, 2), (0, 0), (1, 1), (0, 0), (1, 3), (1, 3), (1, 16), (1, 24), (0, 0), (1, 25), (1, 37), (1, 39), (1, 41), (1, 42), (1, 45)]),
  (0, 6, [(1, 2), (0, 0), (0, 0), (0, 0), (0, 0), (0, 0)]),
  (2, 600, [(0, 0)]),
  (0, 4, [(0, 0), (0, 0), (0, 0), (0, 0), (0, 0), (1, 4), (1, 5), (1, 6), (1, 7), (1, 8), (1, 9), (1, 10), (1, 11), (1, 12), (1, 13), (1, 14), (1, 15)]),
  (1, 4, [(0, 0)]),
  (1, 8, [(0, 0)]),
  (1, 8, [(0, 0)]),
  (1, 8, [(0, 0)]),
  (1, 8, [(0, 0)]),
  (1, 8, [(0, 0)]),
  (1, 8, [(0, 0)]),
  (1, 8, [(0, 0)]),
  (1, 6, [(0, 0)]),
  (1, 6, [(0, 0)]),
  (1, 64, [(0, 0)]),
  (1, 400, [(0, 0)]),
  (0, 3, [(0, 0), (1, 17), (1, 18), (1, 19), (1, 20), (1, 21), (1, 22), (1, 23)]),
  (1, 8, [(0, 0)]),
  (1, 8, [(0, 0)]),
  (1, 8, [(0, 0)]),
  (1, 6, [(0, 0)]),
  (1, 6, [(0, 0)]),
  (1, 8, [(0, 0)]),
  (1, 3200, [(0, 0)]),
  (5, 3, [(1, 16)]),
  (0, 7, [(1, 3), (1, 16), (0, 0), (0, 0), (1, 26), (1, 27), (1, 28), (1, 29), (1, 30), (0, 0), (5, 0), (1, 31), (1, 32), (0, 0), (1, 33), (1, 34), (1, 35), (1, 36)]),
  (1, 8, [(0, 0)]),
  (1, 8, [(0, 0)]),
  (1, 8, [(0, 0)]),
  (1, 8, [(0, 0)]),
  (1, 8, [(0, 0)]),
  (1, 8, [(0, 0)]),
  (1, 8, [(0, 0)]),
  (1, 28, [(0, 0)]),
  (1, 28, [(0, 0)]),
  (1, 28, [(0, 0)]),
  (1, 28, [(0, 0)]),
  (0, 2, [(0, 0), (1, 38)]),
  (1, 8, [(0, 0)]),
  (0, 0, [(1, 25), (1, 40)]),
  (1, 8, [(0, 0)]),
  (0, 5, [(1, 25)]),
  (0, 1, [(1, 25), (1, 43), (1, 44), (0, 0)]),
  (1, 4, [(0, 0)]),
  (1, 4, [(0, 0)]),
  (0, 8, [(1, 25)]),
  (0, 10, [(0, 0), (0, 0), (0, 0), (0, 0), (0, 0), (0, 0), (0, 0), (0, 0), (1, 47), (1, 48), (1, 49), (1, 50), (1, 51), (1, 52), (1, 53), (1, 54), (1, 55), (1, 56), (1, 58), (1, 60), (1, 62), (1, 64), (1, 65), (1, 66), (1, 67), (1, 68), (1, 69), (1, 70), (1, 71), (1, 72), (1, 73), (1, 74), (1, 76), (0, 0), (0, 0), (0, 0), (1, 78), (1, 80), (1, 81), (1, 82), (1, 83), (0, 0), (0, 0), (0, 0), (5, 0), (5, 0), (1, 84), (1, 85), (0, 0), (0, 0), (0, 0), (1, 86), (1, 87), (1, 89)]),
  (1, 600, [(0, 0)]),
  (1, 5, [(0, 0)]),
  (1, 5, [(0, 0)]),
  (1, 4, [(0, 0)]),
  (1, 4, [(0, 0)]),
  (1, 400, [(0, 0)]),
  (1, 400, [(0, 0)]),
  (1, 8, [(0, 0)]),
  (1, 8, [(0, 0)]),
  (6, 8, [(1, 57)]),
  (1, 6, [(0, 0)]),
  (6, 6, [(1, 59)]),
  (1, 2, [(0, 0)]),
  (6, 8, [(1, 61)]),
  (1, 8, [(0, 0)]),
  (6, 8, [(1, 63)]),
  (1, 8, [(0, 0)]),
  (1, 8, [(0, 0)]),
  (1, 8, [(0, 0)]),
  (1, 8, [(0, 0)]),
  (1, 8, [(0, 0)]),
  (1, 8, [(0, 0)]),
  (1, 8, [(0, 0)]),
  (1, 8, [(0, 0)]),
  (1, 8, [(0, 0)]),
  (1, 6, [(0, 0)]),
  (1, 6, [(0, 0)]),
  (6, 401, [(1, 75)]),
  (1, 8, [(0, 0)]),
  (6, 401, [(1, 77)]),
  (1, 8, [(0, 0)]),
  (6, 3, [(1, 79)]),
  (1, 6469, [(0, 0)]),
  (1, 8, [(0, 0)]),
  (1, 8, [(0, 0)]),
  (1, 8, [(0, 0)]),
  (3, 8, [(5, 0)]),
  (1, 8, [(0, 0)]),
  (1, 64, [(0, 0)]),
  (1, 201, [(0, 0)]),
  (6, 100, [(1, 88)]),
  (1, 201, [(0, 0)]),
  (1, 8, [(0, 0)]),
  (4, 1, [(4, 0)])]
set_option maxRecDepth 100000 in
theorem cb_sd_ok : cb_tok cb_sd = true := by decide +kernel
def cb_ab (a : cb_A) (t i : Nat) : Nat → Nat → Bool := fun t' i' => a.1 t' i' || (Nat.beq t' t && Nat.beq i' i)
theorem cb_ab_to {a : cb_A} {t i t' i' : Nat} (h : cb_ab a t i t' i' = true) : a.1 t' i' = true ∨ (t' = t ∧ i' = i) := by
  unfold cb_ab at h
  rw [Bool.or_eq_true, Bool.and_eq_true] at h
  exact h.imp id (fun h => ⟨Nat.eq_of_beq_eq_true h.1, Nat.eq_of_beq_eq_true h.2⟩)
theorem cb_P.born {G : cb_G} {tb : List cb_E} {a : cb_A} {M : cb_M} {H H1 : Heap} {t i z : Nat} (h : cb_P G tb a M H) (hz : a.2 = some z) (had : G.ad t i = z) (hn : cb_at G tb M t i H1) (hs : H1.size = z + 1) (ho : ∀ q, q < z → H1[q]? = H[q]?) (hg : G.1 ≤ z) : cb_P G tb (cb_ab a t i, some (z + 1)) M H1 := by
  have hH := h.2.2 z hz
  have lt : ∀ t' i', a.1 t' i' = true → G.ad t' i' < z := fun t' i' ha => by
    have := h.lt ha
    omega
  refine ⟨fun t' i' ha => ?_, fun t1 i1 t2 i2 h1 h2 e => ?_, fun z' e => by cases e; exact hs⟩
  · rcases cb_ab_to ha with ha | ⟨rfl, rfl⟩
    · exact ⟨((h.1 t' i' ha).1).kept (ho _ (lt t' i' ha)) (fun _ => rfl), (h.1 t' i' ha).2⟩
    · exact ⟨hn, by rw [had]; exact hg⟩
  · rcases cb_ab_to h1 with g1 | ⟨g1, g1'⟩
    · rcases cb_ab_to h2 with g2 | ⟨g2, g2'⟩
      · exact h.2.1 _ _ _ _ g1 g2 e
      · have := lt t1 i1 g1
        rw [g2, g2'] at e
        omega
    · rcases cb_ab_to h2 with g2 | ⟨g2, g2'⟩
      · have := lt t2 i2 g2
        rw [g1, g1'] at e
        omega
      · exact ⟨g1.trans g2.symm, g1'.trans g2'.symm⟩
/-- nothing was written there yet -/
def cb_df (M : cb_M) (t i : Nat) : Prop := ∀ j, cb_gI M t i j = 0 ∧ cb_gR M t i j = none ∧ cb_gL M t i j = 0
theorem cb_fk_sd : ∀ t j, ¬ (cb_fk cb_sd t j).1 = 2 ∧ ¬ (cb_fk cb_sd t j).1 = 3 := by
  have key : cb_sd.all (fun e => e.2.2.all fun s => decide (¬ s.1 = 2 ∧ ¬ s.1 = 3)) = true := by decide +kernel
  have nth : ∀ (l : List (Nat × Nat)) (j : Nat), (l.all fun s => decide (¬ s.1 = 2 ∧ ¬ s.1 = 3)) = true → ¬ (cb_nth l j (9, 0)).1 = 2 ∧ ¬ (cb_nth l j (9, 0)).1 = 3 := by
    intro l
    induction l with
    | nil => intro j _; cases j <;> exact ⟨(by decide : ¬ (9 : Nat) = 2), (by decide : ¬ (9 : Nat) = 3)⟩
    | cons x l ih =>
      intro j h
      rw [List.all_cons, Bool.and_eq_true] at h
      cases j with
      | zero => exact of_decide_eq_true h.1
      | succ j => exact ih j h.2
  have ent : ∀ (l : List cb_E) (t : Nat), (l.all fun e => e.2.2.all fun s => decide (¬ s.1 = 2 ∧ ¬ s.1 = 3)) = true → ((cb_nth l t (9, 0, [])).2.2.all fun s => decide (¬ s.1 = 2 ∧ ¬ s.1 = 3)) = true := by
    intro l
    induction l with
    | nil => intro t _; cases t <;> rfl
    | cons x l ih =>
      intro t h
      rw [List.all_cons, Bool.and_eq_true] at h
      cases t with
      | zero => exact h.1
      | succ t => exact ih t h.2
  intro t j
  have := ent cb_sd t key
  unfold cb_fk
  split
  · exact nth _ j this
  · exact nth _ 0 this
theorem cb_sv_df {M : cb_M} {t i j : Nat} (h : cb_df M t i) {ty : FieldType} (ht : cb_tf ty (cb_fk cb_sd t j).1 = true) (ad : Nat → Nat → Nat) : cb_c ad (cb_sv cb_sd M t i j) = defaultValue ty := by
  obtain ⟨h1, h2, h3⟩ := h j
  obtain ⟨n2, n3⟩ := cb_fk_sd t j
  unfold cb_sv
  generalize cb_fk cb_sd t j = fk at *
  obtain ⟨kd, T⟩ := fk
  match kd, ht, n2, n3 with
  | 0, ht, _, _ =>
    show Value.int (cb_gI M t i j) = _
    rw [h1]
    cases ty <;> first | rfl | simp [cb_tf] at ht
  | 1, ht, _, _ =>
    show cb_c ad (Sum.inr (Sum.inr ((cb_gR M t i j).map fun k => (T, k)))) = _
    rw [h2]
    cases ty <;> first | rfl | simp [cb_tf] at ht
  | 2, _, n2, _ => exact absurd rfl n2
  | 3, _, _, n3 => exact absurd rfl n3
  | 4, ht, _, _ =>
    show Value.long (cb_gL M t i j) = _
    rw [h3]
    cases ty <;> first | rfl | simp [cb_tf] at ht
  | k + 5, ht, _, _ =>
    show Value.int (cb_gI M t i j) = _
    rw [h1]
    cases ty <;> first | rfl | simp [cb_tf] at ht
/-- what isn't there yet is as it will be born -/
def cb_U (a : cb_A) (M : cb_M) : Prop := ∀ t i, a.1 t i = false → cb_df M t i
section MK
variable {d : cb_D} {X : cb_X} {pc : Nat} {ls : cb_Ls} {st : List cb_V} {a : cb_A} {M : cb_M} {k n : Nat}
theorem cb_fm_born {H H1 : Heap} {locs : List Loc} {z : Nat} (hS : X.fm H locs) (hs : H1.size = z + 1) (hH : H.size = z) (ho : ∀ q, q < z → H1[q]? = H[q]?) : X.fm H1 locs := ⟨by have := hS.1; omega, fun q h1 h2 => (ho q (by have := hS.1; omega)).trans (hS.2.1 q h1 h2), hS.2.2⟩
/-- Object.<init> -/
theorem ct_obj {t i idx : Nat} (hd : decode d.cc pc = .ok (.invokespecial idx, 3)) (hl : Cond.methodLink d.own idx Lib.objectInit ∈ lw_tbl) (hi : Cond.instanceMethod Lib.objectInit ∈ lw_tbl) (hc : Cond.code Lib.objectInit ⟨#[0xb1]⟩ 1 none ∈ lw_tbl) (hg : goodWord (Cond.methodLink d.own idx Lib.objectInit) = true ∧ goodWord (Cond.instanceMethod Lib.objectInit) = true ∧ goodWord (Cond.code Lib.objectInit ⟨#[0xb1]⟩ 1 none) = true) (hf : 1 ≤ d.fr) (hlo : 20 ≤ d.lo) (hcat : cb_cat st ≤ 8) (h : cb_Gd cb_sd d X (pc + 3) ls st a M k n) : cb_Gd cb_sd d X pc ls (cb_r t i :: st) a M k n := by
  intro C H locs lc hP hS hL
  obtain ⟨hx, hb, hml, hown, hK, hs0, -, -, -, -, hR1, hR2, hR3, hR4⟩ := id C
  refine W.objInit hx hb hown (hK.1 _ hl hg.1 _) (hK.1 _ hi hg.2.1 _) (hK.1 _ hc hg.2.2 _) rfl (by rw [hml]; exact hL.1) rfl hd (by rw [hR1]; exact hf) ?_ (h C H locs lc hP hS hL)
  have e0 : 2 * (F0 X.m pc lc (cb_cs X.G.ad (cb_r t i :: st))).monitorRoom = 0 := rfl
  have := cb_cat_sum X.G.ad st
  rw [e0, hR4]
  rw [this]
  omega
/-- a row of numbers -/
theorem ct_newa {t i z N kd : Nat} {nn : Int32} {aty : ArrayType} (hz : a.2 = some z) (had : X.G.ad t i = z) (hk : cb_kd cb_sd t = kd + 1) (h6 : kd + 1 ≤ 6) (hlen : cb_len cb_sd t i = N) (hty : newarray.typeOf aty = cb_ety (kd + 1)) (hno : ∀ C, ¬ cb_ety (kd + 1) = .object C) (hw : Cond.arrayClass (cb_ety (kd + 1)) ∈ lw_tbl ∧ goodWord (Cond.arrayClass (cb_ety (kd + 1))) = true) (hn : nn = nI N) (hN : N ≤ 10000) (hcb : componentBytes (cb_ety (kd + 1)) ≤ 8) (hdv : ∀ j, cb_c X.G.ad (cb_sv cb_sd M t i j) = defaultValue (cb_ety (kd + 1))) (hmc : k + 1 ≤ d.mc) (hms : n + N ≤ d.ms) (hd : decode d.cc pc = .ok (.newarray aty, 2))
    (h : cb_Gd cb_sd d X (pc + 2) ls (cb_r t i :: st) (cb_ab a t i, some (z + 1)) M (k + 1) (n + N)) : cb_Gd cb_sd d X pc ls (cb_i nn :: st) a M k n := by
  intro C H locs lc hP hS hL
  obtain ⟨hx, hb, hml, hown, hK, hs0, -, -, -, -, hR1, hR2, hR3, hR4⟩ := id C
  have hH := hP.2.2 z hz
  have hzg : X.G.1 ≤ z := by have := hS.1; omega
  subst hn
  refine va_newaK hx hb (atype := aty) (by rw [hty]; exact hK.1 _ hw.1 hw.2 _) (g := F0 X.m pc lc (cb_cs X.G.ad (cb_i (nI N) :: st))) rfl hd rfl (nI_pos (by omega)) (nI_clamp (by omega)) (by rw [hty]; exact Nat.le_trans (Nat.mul_le_mul hN hcb) (by decide)) (by rw [hR2]; exact hmc) (by rw [hR3]; exact hms) hH (fun H1 cA e1 z1 o1 _ hfc => ?_)
  have hcA : cA = X.G.dA (kd + 1) := by
    have hra := (hK.2.2.2.1 (kd + 1) (by omega) h6).2
    rw [hty] at hfc
    unfold va_RA at hra
    split at hra
    · rename_i C' e'
      exact absurd e' (hno C')
    · exact Option.some.inj (hfc.symm.trans hra)
  have hat : cb_at X.G cb_sd M t i H1 := by
    refine cb_at.ofArr hk ?_
    rw [had, e1, hcA, hlen, hty]
    congr 1
    refine congrArg (arrV _ N) (funext fun j => ?_)
    exact (hdv j).symm
  have := h C H1 locs lc (hP.born hz had hat z1 o1 hzg) (cb_fm_born hS z1 hH o1) hL
  have e : cb_cs X.G.ad (cb_r t i :: st) = .ref z :: cb_cs X.G.ad st := by
    show Value.ref (X.G.ad t i) :: _ = _
    rw [had]
  rw [e] at this
  exact this
/-- an object -/
theorem ct_new {t i z N idx : Nat} {q : vw_C} (hz : a.2 = some z) (had : X.G.ad t i = z) (hk : cb_kd cb_sd t = 0) (hq : cb_cl[cb_x cb_sd t]? = some q) (hN : q.2.2 = N) (hw : Cond.classLink d.own idx q.1 ∈ lw_tbl ∧ Cond.instantiable q.1 N ∈ lw_tbl ∧ Cond.initialized q.1 ∈ lw_tbl) (hg : goodWord (Cond.classLink d.own idx q.1) = true ∧ goodWord (Cond.instantiable q.1 N) = true ∧ goodWord (Cond.initialized q.1) = true) (hdf : cb_df M t i) (hmc : k + 1 ≤ d.mc) (hms : n + N ≤ d.ms) (hd : decode d.cc pc = .ok (.new idx, 3))
    (h : cb_Gd cb_sd d X (pc + 3) ls (cb_r t i :: st) (cb_ab a t i, some (z + 1)) M (k + 1) (n + N)) : cb_Gd cb_sd d X pc ls st a M k n := by
  intro C H locs lc hP hS hL
  obtain ⟨hx, hb, hml, hown, hK, hs0, -, -, -, -, hR1, hR2, hR3, hR4⟩ := id C
  have hH := hP.2.2 z hz
  have hzg : X.G.1 ≤ z := by have := hS.1; omega
  have hKn := hK.2.2.1 _ q hq
  refine W.newcK hx hb hown (hK.1 _ hw.1 hg.1 _) (hK.1 _ hw.2.1 hg.2.1 _) (hK.1 _ hw.2.2 hg.2.2 _) (g := F0 X.m pc lc (cb_cs X.G.ad st)) rfl hd (by rw [hR2]; exact hmc) (by rw [hR3]; exact hms) hKn.2.1 hH (fun H1 kC hkC e1 z1 o1 => ?_)
  have hat : cb_at X.G cb_sd M t i H1 := by
    refine cb_at.ofObj hk ⟨q, hq, ?_⟩
    rw [had]
    exact (u_born (cb_ty.getD (cb_x cb_sd t) (fun _ => .double)) (cb_hts hK hq X.args) (fun _ h => h) hKn hkC e1 (cb_cok hq).2.1).to (fun j hj => (cb_sv_df hdf (cb_tb_slot cb_sd_ok hk hq hj) X.G.ad).symm)
  have := h C H1 locs lc (hP.born hz had hat z1 o1 hzg) (cb_fm_born hS z1 hH o1) hL
  have e : cb_cs X.G.ad (cb_r t i :: st) = .ref z :: cb_cs X.G.ad st := by
    show Value.ref (X.G.ad t i) :: _ = _
    rw [had]
  rw [e] at this
  exact this
end MK
