/-! ===== one instruction, cell by cell ===== -/
section ONE
variable {tb : List cb_E} {d : cb_D} {X : cb_X} {H : Heap} {locs : List Loc} {k n pc : Nat} {lc : Array Slot} {a : cb_A} {M : cb_M}
theorem cb_1get (C : cb_Cx tb d X) (hP : cb_P X.G tb a M H) {t i : Nat} (ha : a.1 t i = true) (hk : cb_kd tb t = 0) {j idx ed : Nat} {q : vw_C} (hq : cb_cl[cb_x tb t]? = some q) (hj : j < q.2.2) (hw : tables_1[ed]? = some (.fieldLink d.own idx (q.2.1 j).1 (q.2.1 j).2.1 (q.2.1 j).2.2.1)) (hd : decode d.cc pc = .ok (.getfield idx, 3)) {rest : List Value}
    (kk : X.go H locs k n (F0 X.m (pc + 3) lc (cb_c X.G.ad (cb_sv tb M t i j) :: rest))) : X.go H locs k n (F0 X.m pc lc (.ref (X.G.ad t i) :: rest)) := by
  obtain ⟨hx, hb, -, hown, hK, -⟩ := C
  obtain ⟨r, h1, cell, q1, q2, q3, q4⟩ := ((hP.1 t i ha).1).obj hk
  cases Option.some.inj (h1.symm.trans hq)
  obtain ⟨hS, hfc, kC, hkC, hkind⟩ := hK.2.2.1 _ q hq
  obtain ⟨cf, kf, fi, f, hi, hsl⟩ := hS j hj
  refine W.getf hx hb hown (cb_w hK hw rfl X.args) hi (u_facts hfc hkC (u_lays (cb_hts hK hq X.args) (fun _ h => h) hj) hi).1 q1 (by rw [q3]; exact fun h => by cases h) (v := cb_c X.G.ad (cb_sv tb M t i j)) ?_ rfl rfl hd kk
  rw [hsl, q4 j hj]
theorem cb_tf_fit {ty : FieldType} {kd : Nat} {M' : cb_M} {t i j T : Nat} {v : cb_V} (ad : Nat → Nat → Nat) (ht : cb_tf ty kd = true) (hf : cb_fk tb t j = (kd, T)) (hs : cb_st tb M t i j v = some M') : narrow ty (cb_c ad v) = cb_c ad v ∧ fits ty (cb_c ad v) = true := by
  unfold cb_st at hs
  rw [hf] at hs
  match kd, v, hs with
  | 0, .inl x, hs =>
    cases ty <;> first | exact ⟨rfl, rfl⟩ | simp [cb_tf] at ht
  | 1, .inr (.inr none), hs =>
    cases ty <;> first | exact ⟨rfl, rfl⟩ | simp [cb_tf] at ht
  | 1, .inr (.inr (some (t', i'))), hs =>
    cases ty <;> first | exact ⟨rfl, rfl⟩ | simp [cb_tf] at ht
  | 4, .inr (.inl x), hs =>
    cases ty <;> first | exact ⟨rfl, rfl⟩ | simp [cb_tf] at ht
  | 5, .inl x, hs =>
    cases ty <;> first
      | (simp only [] at hs
         split at hs
         · rename_i hx
           rcases hx with rfl | rfl <;> exact ⟨rfl, rfl⟩
         · cases hs)
      | simp [cb_tf] at ht
theorem cb_tb_slot (ht : cb_tok tb = true) {t : Nat} (hk : cb_kd tb t = 0) {q : vw_C} (hq : cb_cl[cb_x tb t]? = some q) {j : Nat} (hj : j < q.2.2) : cb_tf ((cb_ty.getD (cb_x tb t) (fun _ => .double)) j) (cb_fk tb t j).1 = true := by
  have hlt : t < tb.length := by
    rcases Nat.lt_or_ge t tb.length with h | h
    · exact h
    · exfalso
      have : ∀ (l : List cb_E) (n : Nat), l.length ≤ n → cb_nth l n (9, 0, []) = (9, 0, []) := by
        intro l
        induction l with
        | nil => intro n _; rfl
        | cons x l ih =>
          intro n hn
          cases n with
          | zero => simp at hn
          | succ n => exact ih n (by simpa using hn)
      unfold cb_kd at hk
      rw [this tb t h] at hk
      cases hk
  have hm := List.all_eq_true.mp ht _ (cb_nth_mem (d := (9, 0, [])) hlt)
  unfold cb_fk
  unfold cb_kd at hk
  unfold cb_x at hq ⊢
  generalize cb_nth tb t (9, 0, []) = e at hk hq hm ⊢
  obtain ⟨c0, c1, ks⟩ := e
  simp only [] at hk
  subst hk
  simp only [] at hq
  obtain ⟨q0, q1, N⟩ := q
  simp only [hq, Bool.and_eq_true, decide_eq_true_eq] at hm
  exact List.all_eq_true.mp hm.2 j (List.mem_range.mpr hj)
theorem cb_1put (htb : cb_tok tb = true) (C : cb_Cx tb d X) (hP : cb_P X.G tb a M H) (hS0 : X.fm H locs) {t i : Nat} (ha : a.1 t i = true) (hk : cb_kd tb t = 0) {j idx ed : Nat} {q : vw_C} (hq : cb_cl[cb_x tb t]? = some q) (hj : j < q.2.2) (hw : tables_1[ed]? = some (.fieldLink d.own idx (q.2.1 j).1 (q.2.1 j).2.1 (q.2.1 j).2.2.1)) (hfin : (q.2.1 j).2.2.2 = false) {v : cb_V} {M' : cb_M} (hs : cb_st tb M t i j v = some M') (hd : decode d.cc pc = .ok (.putfield idx, 3)) {rest : List Value}
    (kk : ∀ (H1 : Heap) (locs1 : List Loc), cb_P X.G tb a M' H1 → X.fm H1 locs1 → X.go H1 locs1 k n (F0 X.m (pc + 3) lc rest)) : X.go H locs k n (F0 X.m pc lc (cb_c X.G.ad v :: .ref (X.G.ad t i) :: rest)) := by
  obtain ⟨hx, hb, -, hown, hK, -⟩ := C
  obtain ⟨r, h1, cell, q1, q2, q3, q4⟩ := ((hP.1 t i ha).1).obj hk
  cases Option.some.inj (h1.symm.trans hq)
  obtain ⟨hS, hfc, kC, hkC, hkind⟩ := hK.2.2.1 _ q hq
  obtain ⟨cf, kf, fi, f, hi, hsl⟩ := hS j hj
  have hts := cb_hts hK hq X.args
  have hlay := hts _ (u_in_lay hj)
  unfold u_lay at hlay
  rw [if_neg (by rw [hfin]; decide)] at hlay
  have hst := (u_facts hfc hkC (u_lays hts (fun _ h => h) hj) hi).1
  obtain ⟨hn, hfit⟩ := cb_tf_fit (T := (cb_fk tb t j).2) X.G.ad (cb_tb_slot htb hk hq hj) rfl hs
  have h6 := u_store hfc hkC hkind hlay hi ((cb_cok hq).2.1 j hj) hn hfit
  refine W.putK hx hb (f := f) ⟨hown, cb_w hK hw rfl X.args, ⟨_, _, _, hi⟩, hst⟩ (by rw [q2]; exact h6) q1 q3 (by rw [hsl]; exact k2_hasslot (q4 j hj)) rfl rfl hd fun H' e1 e2 e3 => ?_
  rw [hsl] at e1 ⊢
  refine kk H' _ (hP.put ha hs (cb_at.ofObj hk ⟨q, hq, ?_⟩) e2 e3) (hS0.put e2 e3 (hP.1 t i ha).2)
  rw [← cb_updV hs]
  exact ⟨_, e1, q2, q3, t_set q4 (cb_apart hK hq) hj _⟩
theorem cb_1arr (C : cb_Cx tb d X) (hP : cb_P X.G tb a M H) {t i kd : Nat} (ha : a.1 t i = true) (hk : cb_kd tb t = kd + 1) (h6 : kd + 1 ≤ 6) : H[X.G.ad t i]? = some (arrV (X.G.dA (kd + 1)) (cb_len tb t i) (fun j => cb_c X.G.ad (cb_sv tb M t i j))) ∧ X.s.isArrayOf (arrV (X.G.dA (kd + 1)) (cb_len tb t i) (fun j => cb_c X.G.ad (cb_sv tb M t i j))) (cb_ety (kd + 1)) :=
  ⟨((hP.1 t i ha).1).arr hk, (C.2.2.2.2.1.2.2.2.1 (kd + 1) (by omega) h6).1 _ _⟩
theorem cb_1in {x : Int32} {N : Nat} {cA : ClassId} {f : Nat → Value} (h : vp_in x N) : ¬ (x < 0 ∨ (arrV cA N f).slots.size ≤ x.toNatClampNeg) := by rw [arrV_size]; exact h
theorem cb_1rd {x : Int32} {N : Nat} {cA : ClassId} {f : Nat → Value} (h : vp_in x N) : (arrV cA N f).slots[x.toNatClampNeg]? = some (f x.toNatClampNeg) := arrV_read _ _ (Nat.not_le.mp fun q => h (Or.inr q))
/-- what is behind a store into an array -/
theorem cb_1st (hP : cb_P X.G tb a M H) (hS0 : X.fm H locs) {t i kd j : Nat} (ha : a.1 t i = true) (hk : cb_kd tb t = kd + 1) {v : cb_V} {M' : cb_M} (hs : cb_st tb M t i j v = some M') {H' : Heap} {w : Value} (hw : w = cb_c X.G.ad v)
    (e1 : H'[X.G.ad t i]? = some ((arrV (X.G.dA (kd + 1)) (cb_len tb t i) (fun j => cb_c X.G.ad (cb_sv tb M t i j))).setSlot j w)) (e2 : H'.size = H.size) (e3 : ∀ q, q ≠ X.G.ad t i → H'[q]? = H[q]?) : cb_P X.G tb a M' H' ∧ X.fm H' (locs ++ [⟨X.G.ad t i, j⟩]) := by
  refine ⟨hP.put ha hs (cb_at.ofArr hk ?_) e2 e3, hS0.put e2 e3 (hP.1 t i ha).2⟩
  rw [e1, arrV_store, hw, cb_updV hs]
end ONE
