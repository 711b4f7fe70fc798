/-! ===== the class: image ===== -/
theorem cb_nth_ge {α : Type} (d : α) : ∀ (l : List α) (n : Nat), l.length ≤ n → cb_nth l n d = d
  | [], n, _ => by cases n <;> rfl
  | x :: l, 0, h => by simp at h
  | x :: l, n + 1, h => cb_nth_ge d l n (by simpa using h)
/-- who speaks of a moment's things -/
def im_w (t j : Nat) (s : Nat × Nat) : Bool := match s with
  | (1, T) => !(Nat.ble 16 T && Nat.ble T 23) || (Nat.beq t 24 || (Nat.beq t 25 && Nat.beq j 1))
  | (2, T) => !(Nat.ble 16 T && Nat.ble T 23) || (Nat.beq t 0 || Nat.beq t 16)
  | (3, T) => !(Nat.ble 16 T && Nat.ble T 23)
  | _ => true
set_option maxRecDepth 100000 in
theorem im_w_all : ((List.range 92).all fun t => (List.range 61).all fun j => im_w t j (cb_fk cb_tb t j)) = true := by decide +kernel
set_option maxRecDepth 100000 in
theorem im_tb_len : (cb_tb.all fun e => Nat.ble e.2.2.length 60) = true := by decide +kernel
theorem im_w_at (t j : Nat) : im_w t j (cb_fk cb_tb t j) = true := by
  by_cases ht : t < 91
  · by_cases hj : j < 61
    · exact List.all_eq_true.mp (List.all_eq_true.mp im_w_all t (List.mem_range.mpr (by omega))) j (List.mem_range.mpr hj)
    · have h0 := List.all_eq_true.mp (List.all_eq_true.mp im_w_all t (List.mem_range.mpr (by omega))) 0 (List.mem_range.mpr (by omega))
      unfold cb_fk at h0 ⊢
      have hl : (cb_nth cb_tb t (9, 0, [])).2.2.length ≤ 60 := by
        have key : ∀ (l : List cb_E) (t : Nat), (l.all fun e => Nat.ble e.2.2.length 60) = true → (cb_nth l t (9, 0, [])).2.2.length ≤ 60 := by
          intro l
          induction l with
          | nil => intro t _; cases t <;> exact Nat.zero_le _
          | cons x l ih =>
            intro t h
            rw [List.all_cons, Bool.and_eq_true] at h
            cases t with
            | zero => exact Nat.le_of_ble_eq_true h.1
            | succ t => exact ih t h.2
        exact key cb_tb t im_tb_len
      split
      · rw [cb_nth_ge (9, 0) _ j (by omega)]
        rfl
      · rename_i e
        split at h0
        · rename_i e'
          exact absurd e' e
        · generalize cb_nth (cb_nth cb_tb t (9, 0, [])).2.2 0 (9, 0) = s at h0 ⊢
          obtain ⟨kd, T⟩ := s
          match kd, h0 with
          | 0, _ => rfl
          | 1, h0 =>
            have h0 : (!(Nat.ble 16 T && Nat.ble T 23) || (Nat.beq t 24 || (Nat.beq t 25 && false))) = true := h0
            rw [Bool.and_false, Bool.or_false] at h0
            show (!(Nat.ble 16 T && Nat.ble T 23) || (Nat.beq t 24 || (Nat.beq t 25 && Nat.beq j 1))) = true
            rw [Bool.or_eq_true] at h0 ⊢
            exact h0.imp id (fun h => by rw [h]; rfl)
          | 2, h0 => exact h0
          | 3, h0 => exact h0
          | _ + 4, _ => rfl
  · have e : cb_nth cb_tb t (9, 0, []) = (9, 0, []) := cb_nth_ge _ cb_tb t (Nat.le_trans (show cb_tb.length ≤ 91 by decide) (Nat.not_lt.mp ht))
    unfold cb_fk
    rw [e]
    rfl
theorem im_aS {m t i : Nat} (h1 : 16 ≤ t) (h2 : t ≤ 23) : cb_aS m t i = Nat.ble i m := by
  have : t = 16 ∨ t = 17 ∨ t = 18 ∨ t = 19 ∨ t = 20 ∨ t = 21 ∨ t = 22 ∨ t = 23 := by omega
  rcases this with rfl | rfl | rfl | rfl | rfl | rfl | rfl | rfl <;> rfl
theorem im_aS2 {m m' t i : Nat} (h : ¬ (16 ≤ t ∧ t ≤ 23)) : cb_aS m t i = cb_aS m' t i := by
  have key : ∀ t, t < 91 → ¬ (16 ≤ t ∧ t ≤ 23) → ¬ cb_nth cb_cnt t 1 = 0 := by decide +kernel
  have : ¬ cb_nth cb_cnt t 1 = 0 := by
    by_cases w : t < 91
    · exact key t w h
    · rw [cb_nth_ge 1 cb_cnt t (Nat.le_trans (show cb_cnt.length ≤ 91 by decide) (Nat.not_lt.mp w))]
      decide
  unfold cb_aS
  split
  · rename_i e
    exact absurd e this
  · rfl
/-- the images -/
def im_I (M : cb_M) (m c : Nat) : Prop := m ≤ 3 ∧ c ≤ m ∧ (∀ j, cb_gR M 24 0 j = if j < m then some (j + 1) else none) ∧ cb_gI M 0 0 8 = nI c
/-- who speaks of whom -/
theorem im_refs {M : cb_M} {m c : Nat} (h : im_I M m c) {t i j T I : Nat} (ha : cb_aS m t i = true) (e : cb_sv cb_tb M t i j = cb_r T I) (h1 : 16 ≤ T) (h2 : T ≤ 23) : I ≤ m ∨ (t = 25 ∧ i = 0 ∧ j = 1 ∧ T = 16 ∧ cb_gR M 25 0 1 = some I) := by
  obtain ⟨h3, hc, h24, -⟩ := h
  have hw := im_w_at t j
  have i0 : t = 0 ∨ t = 24 ∨ t = 25 → i = 0 := fun w => by
    rcases w with rfl | rfl | rfl <;> exact cb_a1 rfl ha
  have b1 : (Nat.ble 16 T && Nat.ble T 23) = true := by
    rw [Bool.and_eq_true]
    exact ⟨Nat.ble_eq.mpr h1, Nat.ble_eq.mpr h2⟩
  unfold cb_sv at e
  have fke : t = 25 → j = 1 → cb_fk cb_tb t j = (1, 16) := fun w1 w2 => by subst w1 w2; rfl
  generalize cb_fk cb_tb t j = fk at e hw fke
  obtain ⟨kd, T'⟩ := fk
  match kd, e, hw, fke with
  | 0, e, _, _ => cases e
  | 1, e, hw, fke =>
    have e : (Sum.inr (Sum.inr ((cb_gR M t i j).map fun k => (T', k))) : cb_V) = cb_r T I := e
    cases er : cb_gR M t i j with
    | none => rw [er] at e; cases e
    | some k =>
      rw [er] at e
      have e1 : T' = T := by injection e with e; injection e with e; injection e with e; injection e
      have e2 : k = I := by injection e with e; injection e with e; injection e with e; injection e
      subst e1 e2
      have hw : (!(Nat.ble 16 T' && Nat.ble T' 23) || (Nat.beq t 24 || (Nat.beq t 25 && Nat.beq j 1))) = true := hw
      rw [b1, Bool.or_eq_true, Bool.or_eq_true, Bool.and_eq_true] at hw
      rcases hw with hw | hw | ⟨hw, hw2⟩
      · cases hw
      · have := Nat.eq_of_beq_eq_true hw
        subst this
        have := i0 (by omega)
        subst this
        rw [h24 j] at er
        split at er
        · injection er with er
          exact Or.inl (by omega)
        · cases er
      · have := Nat.eq_of_beq_eq_true hw
        subst this
        have := Nat.eq_of_beq_eq_true hw2
        subst this
        have := i0 (by omega)
        subst this
        have e16 := fke rfl rfl
        injection e16 with _ e16
        exact Or.inr ⟨rfl, rfl, rfl, e16, er⟩
  | 2, e, hw, _ =>
    have e : (cb_r T' i : cb_V) = cb_r T I := e
    have e1 : T' = T := by injection e with e; injection e with e; injection e with e; injection e
    have e2 : i = I := by injection e with e; injection e with e; injection e with e; injection e
    subst e1 e2
    have hw : (!(Nat.ble 16 T' && Nat.ble T' 23) || (Nat.beq t 0 || Nat.beq t 16)) = true := hw
    rw [b1, Bool.or_eq_true, Bool.or_eq_true] at hw
    rcases hw with hw | hw | hw
    · cases hw
    · have := Nat.eq_of_beq_eq_true hw
      have := i0 (by omega)
      exact Or.inl (by omega)
    · have := Nat.eq_of_beq_eq_true hw
      subst this
      rw [im_aS (by omega) (by omega)] at ha
      exact Or.inl (Nat.le_of_ble_eq_true ha)
  | 3, e, hw, _ =>
    have e : (cb_r T' j : cb_V) = cb_r T I := e
    have e1 : T' = T := by injection e with e; injection e with e; injection e with e; injection e
    subst e1
    have hw : (!(Nat.ble 16 T' && Nat.ble T' 23)) = true := hw
    rw [b1] at hw
    cases hw
  | 4, e, _, _ => cases e
  | _ + 5, e, _, _ => cases e
theorem im_nrf {M : cb_M} {m c : Nat} {f : Option Nat} (h : im_I M m c) (h25 : ¬ cb_gR M 25 0 1 = some (m + 1)) : cb_nrf cb_tb (cb_aS m, f) M (m + 1) := by
  have nz : ∀ t i, (16 ≤ t → t ≤ 23 → ¬ i = m + 1) → cb_mz t i (m + 1) = false := fun t i w => by
    cases e : cb_mz t i (m + 1) with
    | false => rfl
    | true =>
      obtain ⟨a1, a2, a3⟩ := cb_mz_iff.mp e
      exact absurd a3 (w a1 a2)
  intro t i ha
  have ha : cb_aS m t i = true := ha
  refine ⟨nz t i (fun h1 h2 => ?_), fun j T I e => nz T I (fun h1 h2 w => ?_)⟩
  · rw [im_aS h1 h2] at ha
    have := Nat.le_of_ble_eq_true ha
    omega
  · subst w
    rcases im_refs h ha e h1 h2 with w | ⟨-, -, -, -, w⟩
    · omega
    · exact h25 w
/-- other addresses, another memory, the same heap -/
theorem cb_P.re {G : cb_G} {tb : List cb_E} {a : cb_A} {M M' : cb_M} {H : Heap} {ad : Nat → Nat → Nat} (had : ∀ t i, a.1 t i = true → ad t i = G.ad t i) (hc : ∀ t i, a.1 t i = true → ∀ j, cb_c ad (cb_sv tb M' t i j) = cb_c G.ad (cb_sv tb M t i j)) (h : cb_P G tb a M H) : cb_P (G.1, ad, G.2.2) tb a M' H := by
  refine ⟨fun t i ha => ⟨?_, ?_⟩, fun t i t' i' h1 h2 e => ?_, h.2.2⟩
  · have hat := (h.1 t i ha).1
    have e : (fun j => cb_c (cb_G.ad (G.1, ad, G.2.2)) (cb_sv tb M' t i j)) = fun j => cb_c G.ad (cb_sv tb M t i j) := funext fun j => hc t i ha j
    have e2 : cb_G.ad (G.1, ad, G.2.2) t i = G.ad t i := had t i ha
    unfold cb_at at *
    rw [e, e2]
    exact hat
  · have e2 : cb_G.ad (G.1, ad, G.2.2) t i = G.ad t i := had t i ha
    rw [e2]
    exact (h.1 t i ha).2
  · have e1 : cb_G.ad (G.1, ad, G.2.2) t i = G.ad t i := had t i h1
    have e2 : cb_G.ad (G.1, ad, G.2.2) t' i' = G.ad t' i' := had t' i' h2
    rw [e1, e2] at e
    exact h.2.1 t i t' i' h1 h2 e
theorem cb_P.g9 {G : cb_G} {M : cb_M} {m c : Nat} {f : Option Nat} {H : Heap} (hI : im_I M m c) (h : cb_P G cb_tb (cb_aS m, f) M H) : ∃ G1 o, cb_alk G G1 ∧ ¬ o = some (m + 1) ∧ cb_P G1 cb_tb (cb_aS m, f) (cb_sR M 25 0 1 o) H := by
  have same : cb_sR M 25 0 1 (cb_gR M 25 0 1) = M := by
    unfold cb_sR cb_gR
    refine Prod.ext rfl (Prod.ext (funext fun t => funext fun i => funext fun j => ?_) rfl)
    show (if t = 25 ∧ i = 0 ∧ j = 1 then M.2.1 25 0 1 else M.2.1 t i j) = M.2.1 t i j
    split
    · rename_i w
      rw [w.1, w.2.1, w.2.2]
    · rfl
  by_cases e : cb_gR M 25 0 1 = some (m + 1)
  · have h3 := hI.1
    refine ⟨(G.1, fun t i => if t = 16 ∧ i = 9 then G.ad 16 (m + 1) else G.ad t i, G.2.2), some 9, ⟨rfl, rfl, fun t i w => if_neg (by omega)⟩, fun w => by injection w with w; omega, h.re (fun t i ha => if_neg fun w => ?_) (fun t i ha j => ?_)⟩
    · have ha : cb_aS m t i = true := ha
      rw [w.1, w.2, im_aS (by omega) (by omega)] at ha
      have := Nat.le_of_ble_eq_true ha
      omega
    · have ha : cb_aS m t i = true := ha
      by_cases w : t = 25 ∧ i = 0 ∧ j = 1
      · obtain ⟨rfl, rfl, rfl⟩ := w
        have e1 : cb_sv cb_tb (cb_sR M 25 0 1 (some 9)) 25 0 1 = cb_r 16 9 := rfl
        have e2 : cb_sv cb_tb M 25 0 1 = cb_r 16 (m + 1) := by
          show (Sum.inr (Sum.inr ((cb_gR M 25 0 1).map fun k => (16, k))) : cb_V) = _
          rw [e]
          rfl
        rw [e1, e2]
        rfl
      · rw [cb_sv_sR w]
        have hr := fun T I => im_refs (T := T) (I := I) hI ha (j := j)
        generalize cb_sv cb_tb M t i j = v at hr
        match v, hr with
        | .inl x, _ => rfl
        | .inr (.inl x), _ => rfl
        | .inr (.inr none), _ => rfl
        | .inr (.inr (some (T, I))), hr =>
          show Value.ref (if T = 16 ∧ I = 9 then G.ad 16 (m + 1) else G.ad T I) = Value.ref (G.ad T I)
          rw [if_neg]
          intro q
          rcases hr T I rfl (by omega) (by omega) with w2 | ⟨w2, w3, w4, -⟩
          · omega
          · exact w ⟨w2, w3, w4⟩
  · exact ⟨G, cb_gR M 25 0 1, cb_alk.refl G, e, by rw [same]; exact h⟩
