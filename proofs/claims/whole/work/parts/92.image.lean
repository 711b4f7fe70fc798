/-! ===== the class: image ===== -/
theorem cb_nth_ge {α : Type} (d : α) : ∀ (l : List α) (n : Nat), l.length ≤ n → cb_nth l n d = d
  | [], n, _ => by cases n <;> rfl
  | x :: l, 0, h => by simp at h
  | x :: l, n + 1, h => cb_nth_ge d l n (by simpa using h)
/-- who speaks of a moment's things -/
def im_w (t j : Nat) (s : Nat × Nat) : Bool := match s with
  | (1, T) => !(Nat.ble 16 T && Nat.ble T 23) || (Nat.beq t 24 || (Nat.beq t 25 && Nat.beq j 1))
  | (2, T) => !(Nat.ble 16 T && Nat.ble T 23) || (Nat.beq t 0 || Nat.beq t 16)
  | (3, T) => !(Nat.ble 16 T && Nat.ble T 23)
  | _ => true
set_option maxRecDepth 100000 in
theorem im_w_all : ((List.range 92).all fun t => (List.range 61).all fun j => im_w t j (cb_fk cb_tb t j)) = true := by decide +kernel
set_option maxRecDepth 100000 in
theorem im_tb_len : (cb_tb.all fun e => Nat.ble e.2.2.length 60) = true := by decide +kernel
theorem im_w_at (t j : Nat) : im_w t j (cb_fk cb_tb t j) = true := by
  by_cases ht : t < 91
  · by_cases hj : j < 61
    · exact List.all_eq_true.mp (List.all_eq_true.mp im_w_all t (List.mem_range.mpr (by omega))) j (List.mem_range.mpr hj)
    · have h0 := List.all_eq_true.mp (List.all_eq_true.mp im_w_all t (List.mem_range.mpr (by omega))) 0 (List.mem_range.mpr (by omega))
      unfold cb_fk at h0 ⊢
      have hl : (cb_nth cb_tb t (9, 0, [])).2.2.length ≤ 60 := by
        have key : ∀ (l : List cb_E) (t : Nat), (l.all fun e => Nat.ble e.2.2.length 60) = true → (cb_nth l t (9, 0, [])).2.2.length ≤ 60 := by
          intro l
          induction l with
          | nil => intro t _; cases t <;> exact Nat.zero_le _
          | cons x l ih =>
            intro t h
            rw [List.all_cons, Bool.and_eq_true] at h
            cases t with
            | zero => exact Nat.le_of_ble_eq_true h.1
            | succ t => exact ih t h.2
        exact key cb_tb t im_tb_len
      split
      · rw [cb_nth_ge (9, 0) _ j (by omega)]
        rfl
      · rename_i e
        split at h0
        · rename_i e'
          exact absurd e' e
        · generalize cb_nth (cb_nth cb_tb t (9, 0, [])).2.2 0 (9, 0) = s at h0 ⊢
          obtain ⟨kd, T⟩ := s
          match kd, h0 with
          | 0, _ => rfl
          | 1, h0 =>
            have h0 : (!(Nat.ble 16 T && Nat.ble T 23) || (Nat.beq t 24 || (Nat.beq t 25 && false))) = true := h0
            rw [Bool.and_false, Bool.or_false] at h0
            show (!(Nat.ble 16 T && Nat.ble T 23) || (Nat.beq t 24 || (Nat.beq t 25 && Nat.beq j 1))) = true
            rw [Bool.or_eq_true] at h0 ⊢
            exact h0.imp id (fun h => by rw [h]; rfl)
          | 2, h0 => exact h0
          | 3, h0 => exact h0
          | _ + 4, _ => rfl
  · have e : cb_nth cb_tb t (9, 0, []) = (9, 0, []) := cb_nth_ge _ cb_tb t (Nat.le_trans (show cb_tb.length ≤ 91 by decide) (Nat.not_lt.mp ht))
    unfold cb_fk
    rw [e]
    rfl
theorem im_aS {m t i : Nat} (h1 : 16 ≤ t) (h2 : t ≤ 23) : cb_aS m t i = Nat.ble i m := by
  have : t = 16 ∨ t = 17 ∨ t = 18 ∨ t = 19 ∨ t = 20 ∨ t = 21 ∨ t = 22 ∨ t = 23 := by omega
  rcases this with rfl | rfl | rfl | rfl | rfl | rfl | rfl | rfl <;> rfl
theorem im_aS2 {m m' t i : Nat} (h : ¬ (16 ≤ t ∧ t ≤ 23)) : cb_aS m t i = cb_aS m' t i := by
  have key : ∀ t, t < 91 → ¬ (16 ≤ t ∧ t ≤ 23) → ¬ cb_nth cb_cnt t 1 = 0 := by decide +kernel
  have : ¬ cb_nth cb_cnt t 1 = 0 := by
    by_cases w : t < 91
    · exact key t w h
    · rw [cb_nth_ge 1 cb_cnt t (Nat.le_trans (show cb_cnt.length ≤ 91 by decide) (Nat.not_lt.mp w))]
      decide
  unfold cb_aS
  split
  · rename_i e
    exact absurd e this
  · rfl
/-- the images, and the wall's moment -/
def im_I (M : cb_M) (m c : Nat) : Prop := m ≤ 3 ∧ c ≤ m ∧ (∀ j, cb_gR M 24 0 j = if j < m then some (j + 1) else none) ∧ cb_gR M 25 0 1 = some 0 ∧ cb_gI M 0 0 8 = nI c
theorem im_nrf {M : cb_M} {m c : Nat} {f : Option Nat} (h : im_I M m c) : cb_nrf cb_tb (cb_aS m, f) M (m + 1) := by
  obtain ⟨h3, hc, h24, h25, -⟩ := h
  have nz : ∀ t i, (16 ≤ t → t ≤ 23 → ¬ i = m + 1) → cb_mz t i (m + 1) = false := fun t i w => by
    cases e : cb_mz t i (m + 1) with
    | false => rfl
    | true =>
      obtain ⟨a1, a2, a3⟩ := cb_mz_iff.mp e
      exact absurd a3 (w a1 a2)
  intro t i ha
  have ha : cb_aS m t i = true := ha
  refine ⟨nz t i (fun h1 h2 => ?_), fun j T I e => nz T I (fun h1 h2 => ?_)⟩
  · rw [im_aS h1 h2] at ha
    have := Nat.le_of_ble_eq_true ha
    omega
  · have hw := im_w_at t j
    have i0 : t = 0 ∨ t = 24 ∨ t = 25 → i = 0 := fun w => by
      rcases w with rfl | rfl | rfl <;> exact cb_a1 rfl ha
    have b1 : (Nat.ble 16 T && Nat.ble T 23) = true := by
      rw [Bool.and_eq_true]
      exact ⟨Nat.ble_eq.mpr h1, Nat.ble_eq.mpr h2⟩
    unfold cb_sv at e
    generalize cb_fk cb_tb t j = fk at e hw
    obtain ⟨kd, T'⟩ := fk
    match kd, e, hw with
    | 0, e, _ => cases e
    | 1, e, hw =>
      have e : (Sum.inr (Sum.inr ((cb_gR M t i j).map fun k => (T', k))) : cb_V) = cb_r T I := e
      cases er : cb_gR M t i j with
      | none => rw [er] at e; cases e
      | some k =>
        rw [er] at e
        have e1 : T' = T := by injection e with e; injection e with e; injection e with e; injection e
        have e2 : k = I := by injection e with e; injection e with e; injection e with e; injection e
        subst e1 e2
        have hw : (!(Nat.ble 16 T' && Nat.ble T' 23) || (Nat.beq t 24 || (Nat.beq t 25 && Nat.beq j 1))) = true := hw
        rw [b1, Bool.or_eq_true, Bool.or_eq_true, Bool.and_eq_true] at hw
        rcases hw with hw | hw | ⟨hw, hw2⟩
        · cases hw
        · have := Nat.eq_of_beq_eq_true hw
          subst this
          have := i0 (by omega)
          subst this
          rw [h24 j] at er
          split at er
          · injection er with er
            omega
          · cases er
        · have := Nat.eq_of_beq_eq_true hw
          subst this
          have := Nat.eq_of_beq_eq_true hw2
          subst this
          have := i0 (by omega)
          subst this
          rw [h25] at er
          injection er with er
          omega
    | 2, e, hw =>
      have e : (cb_r T' i : cb_V) = cb_r T I := e
      have e1 : T' = T := by injection e with e; injection e with e; injection e with e; injection e
      have e2 : i = I := by injection e with e; injection e with e; injection e with e; injection e
      subst e1 e2
      have hw : (!(Nat.ble 16 T' && Nat.ble T' 23) || (Nat.beq t 0 || Nat.beq t 16)) = true := hw
      rw [b1, Bool.or_eq_true, Bool.or_eq_true] at hw
      rcases hw with hw | hw | hw
      · cases hw
      · have := Nat.eq_of_beq_eq_true hw
        have := i0 (by omega)
        omega
      · have := Nat.eq_of_beq_eq_true hw
        subst this
        rw [im_aS (by omega) (by omega)] at ha
        have := Nat.le_of_ble_eq_true ha
        omega
    | 3, e, hw =>
      have e : (cb_r T' j : cb_V) = cb_r T I := e
      have e1 : T' = T := by injection e with e; injection e with e; injection e with e; injection e
      subst e1
      have hw : (!(Nat.ble 16 T' && Nat.ble T' 23)) = true := hw
      rw [b1] at hw
      cases hw
    | 4, e, _ => cases e
    | _ + 5, e, _ => cases e
