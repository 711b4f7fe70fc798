/-! ===== image, restore: of both ===== -/
/-- all but the images -/
def re_B (M : cb_M) (P Q : Nat) (A : rd_P) (t : Nat) : Prop := (cb_gR M 0 0 4 = some P ∧ cb_gR M 0 0 5 = some Q ∧ P < 2 ∧ Q < 2 ∧ ¬ P = Q) ∧ re_W A ∧ re_V M P A ∧ re_S M A ∧ re_T M t ∧ cb_gI M 0 0 3 = cb_gI M 46 0 3 ∧ cb_gI M 46 0 41 = 255 ∧ cb_gI M 46 0 44 = 0 ∧ cb_gI M 46 0 45 = 0
theorem re_B_iff {M : cb_M} {m : Nat} : re_R M m ↔ ∃ P Q A c t, re_B M P Q A t ∧ re_mo M A 0 (mo_g M) ∧ (im_I M m c ∧ cb_gI M 46 0 34 = nI c) ∧ ∀ k, k < c → re_mo M A (k + 1) (cb_gI M 79 k) := by
  constructor
  · rintro ⟨P, Q, A, c, t, h1, h2, h3, h4, h5, h6, h7, h8, h9, h10⟩
    exact ⟨P, Q, A, c, t, ⟨h1, h2, h3, h4, h8, h9, h10⟩, h5, h6, h7⟩
  · rintro ⟨P, Q, A, c, t, ⟨h1, h2, h3, h4, h8, h9, h10⟩, h5, h6, h7⟩
    exact ⟨P, Q, A, c, t, h1, h2, h3, h4, h5, h6, h7, h8, h9, h10⟩
/-- cells of the rest -/
def re_sb (t j : Nat) : Bool := Nat.ble t 15 && (!Nat.beq t 1 && !(Nat.beq t 0 && Nat.beq j 8)) || ((Nat.beq t 46 && (Nat.beq j 1 || (Nat.beq j 3 || (Nat.beq j 41 || (Nat.beq j 44 || Nat.beq j 45))))) || (Nat.beq t 47 || (Nat.beq t 49 || (Nat.beq t 51 || (Nat.beq t 53 || (Nat.beq t 55 || (Nat.beq t 63 || (Nat.beq t 66 || (Nat.beq t 67 || Nat.beq t 68)))))))))
theorem re_sb_to {t j : Nat} (h : re_sb t j = true) : t < 16 ∧ ¬ (t = 0 ∧ j = 8) ∨ (t = 46 ∧ ¬ (j = 0 ∨ j = 33 ∨ j = 34 ∨ j = 35)) ∨ t = 47 ∨ t = 49 ∨ t = 51 ∨ t = 53 ∨ t = 55 ∨ t = 63 ∨ t = 66 ∨ t = 67 ∨ t = 68 := by
  unfold re_sb at h
  by_cases w : t = 0 ∧ j = 8
  · obtain ⟨rfl, rfl⟩ := w
    cases h
  · simp only [Bool.or_eq_true, Bool.and_eq_true, Nat.beq_eq, Nat.ble_eq] at h
    omega
theorem re_B_keep {M M' : cb_M} {P Q t : Nat} {A : rd_P} (hI : ∀ t i j, re_sb t j = true → cb_gI M' t i j = cb_gI M t i j) (hR : ∀ j, cb_gR M' 0 0 j = cb_gR M 0 0 j) (h : re_B M P Q A t) : re_B M' P Q A t := by
  have fn : ∀ t i, (∀ j, re_sb t j = true) → cb_gI M' t i = cb_gI M t i := fun t i w => funext fun j => hI t i j (w j)
  obtain ⟨h1, h2, h3, h4, h8, h9, h10⟩ := h
  refine ⟨?_, h2, ?_, ?_, ?_, ?_, ?_⟩
  · rw [hR 4, hR 5]
    exact h1
  · unfold re_V
    rw [fn 3 P (fun _ => rfl), fn 4 P (fun _ => rfl), fn 7 P (fun _ => rfl), fn 8 P (fun _ => rfl), fn 9 P (fun _ => rfl), fn 10 P (fun _ => rfl), fn 11 P (fun _ => rfl), fn 14 P (fun _ => rfl), fn 15 P (fun _ => rfl)]
    exact h3
  · unfold re_S
    have e63 : ∀ i, cb_gI M' 63 i = cb_gI M 63 i := fun i => fn 63 i (fun _ => rfl)
    simp only [e63]
    rw [fn 49 0 (fun _ => rfl), fn 51 0 (fun _ => rfl), fn 66 0 (fun _ => rfl), fn 67 0 (fun _ => rfl), fn 68 0 (fun _ => rfl), fn 55 0 (fun _ => rfl), fn 53 0 (fun _ => rfl)]
    exact h4
  · unfold re_T
    rw [fn 2 0 (fun _ => rfl), fn 47 0 (fun _ => rfl), hI 0 0 1 rfl, hI 46 0 1 rfl]
    exact h8
  · rw [hI 0 0 3 rfl, hI 46 0 3 rfl]
    exact h9
  · rw [hI 46 0 41 rfl, hI 46 0 44 rfl, hI 46 0 45 rfl]
    exact h10
/-- a moment copied, cells copied -/
theorem re_mo_cp {M M' : cb_M} {A : rd_P} {q q' : Nat} {r r' : Nat → Int32} (hn : A.n ≤ 8) (hh : A.h ≤ 6) (h : re_mo M A q r) (hr : ∀ a, a < 6469 → r' a = r a) (h16 : cb_gI M' 16 q' 0 = cb_gI M 16 q 0)
    (hc : ∀ d, d ≤ 400 → cb_gI M 16 q 0 = nI d → (∀ i, i < 8 → cb_gI M' 17 q' i = cb_gI M 17 q i ∧ cb_gI M' 18 q' i = cb_gI M 18 q i ∧ cb_gI M' 19 q' i = cb_gI M 19 q i ∧ cb_gI M' 22 q' i = cb_gI M 22 q i) ∧ (∀ l, l < 6 → cb_gI M' 20 q' l = cb_gI M 20 q l ∧ cb_gI M' 21 q' l = cb_gI M 21 q l) ∧ ∀ x, x < d * 8 → cb_gI M' 23 q' x = cb_gI M 23 q x) : re_mo M' A q' r' := by
  obtain ⟨d, ⟨d0, d1, d2⟩, d3, d4, d5⟩ := h
  obtain ⟨c1, c2, c3⟩ := hc d d0 d1
  refine ⟨d, ⟨d0, h16.trans d1, (hr 0 (by omega)).trans d2⟩, fun i hi => ?_, fun l hl => ?_, fun e i he hi => ?_⟩
  · obtain ⟨k1, k2, k3, k4⟩ := c1 i (by omega)
    have hp : wm_pof A.c.2.2.2.2.2 (cb_gI M' 17 q') i = wm_pof A.c.2.2.2.2.2 (cb_gI M 17 q) i := by
      unfold wm_pof
      rw [k1]
    rw [hr _ (by omega), hr _ (by omega), hr _ (by omega), hr _ (by omega), hr _ (by omega), hp, k1, k2, k3, k4]
    exact d3 i hi
  · obtain ⟨k1, k2⟩ := c2 l (by omega)
    rw [hr _ (by omega), hr _ (by omega), k1, k2]
    exact d4 l hl
  · have k := c3 (e * 8 + i) (by omega)
    have hp : wm_pof A.c.2.2.2.2.2 (fun i => cb_gI M' 23 q' (e * 8 + i)) i = wm_pof A.c.2.2.2.2.2 (fun i => cb_gI M 23 q (e * 8 + i)) i := by
      show wm_fmod (_ + cb_gI M' 23 q' (e * 8 + i)) 1000 = wm_fmod (_ + cb_gI M 23 q (e * 8 + i)) 1000
      rw [k]
    rw [hr _ (by omega), hr _ (by omega), hp, k]
    exact d5 e i he hi
theorem re_mo_eq {M M' : cb_M} {A : rd_P} {q : Nat} {r r' : Nat → Int32} (hn : A.n ≤ 8) (hh : A.h ≤ 6) (hr : ∀ a, a < 6469 → r' a = r a) (hI : ∀ t j, 16 ≤ t → t ≤ 23 → cb_gI M' t q j = cb_gI M t q j) (h : re_mo M A q r) : re_mo M' A q r' := re_mo_cp hn hh h hr (hI 16 0 (by omega) (by omega)) (fun d _ _ => ⟨fun i _ => ⟨hI 17 i (by omega) (by omega), hI 18 i (by omega) (by omega), hI 19 i (by omega) (by omega), hI 22 i (by omega) (by omega)⟩, fun l _ => ⟨hI 20 l (by omega) (by omega), hI 21 l (by omega) (by omega)⟩, fun x _ => hI 23 x (by omega) (by omega)⟩)
theorem mo_copy_ne (M : cb_M) {q q2 d t i j : Nat} (h : ¬ (16 ≤ t ∧ t ≤ 23 ∧ i = q)) : cb_gI (mo_copy M q q2 d) t i j = cb_gI M t i j := by
  unfold mo_copy
  rw [cb_gI_cp, if_neg (by omega), cb_gI_cp, if_neg (by omega), cb_gI_cp, if_neg (by omega), cb_gI_cp, if_neg (by omega), cb_gI_cp, if_neg (by omega), cb_gI_cp, if_neg (by omega), cb_gI_cp, if_neg (by omega), cb_gs_ne (by omega)]
theorem mo_copy_16 (M : cb_M) (q q2 d : Nat) : cb_gI (mo_copy M q q2 d) 16 q 0 = cb_gI M 16 q2 0 := by
  unfold mo_copy
  rw [cb_gI_cp, if_neg (by omega), cb_gI_cp, if_neg (by omega), cb_gI_cp, if_neg (by omega), cb_gI_cp, if_neg (by omega), cb_gI_cp, if_neg (by omega), cb_gI_cp, if_neg (by omega), cb_gI_cp, if_neg (by omega), cb_gs_eq]
theorem mo_copy_at (M : cb_M) {q q2 d : Nat} (hq : ¬ q = q2) : (∀ i, i < 8 → cb_gI (mo_copy M q q2 d) 17 q i = cb_gI M 17 q2 i ∧ cb_gI (mo_copy M q q2 d) 18 q i = cb_gI M 18 q2 i ∧ cb_gI (mo_copy M q q2 d) 19 q i = cb_gI M 19 q2 i ∧ cb_gI (mo_copy M q q2 d) 22 q i = cb_gI M 22 q2 i) ∧ (∀ l, l < 6 → cb_gI (mo_copy M q q2 d) 20 q l = cb_gI M 20 q2 l ∧ cb_gI (mo_copy M q q2 d) 21 q l = cb_gI M 21 q2 l) ∧ ∀ x, x < d * 8 → cb_gI (mo_copy M q q2 d) 23 q x = cb_gI M 23 q2 x := by
  unfold mo_copy
  refine ⟨fun i hi => ⟨?_, ?_, ?_, ?_⟩, fun l hl => ⟨?_, ?_⟩, fun x hx => ?_⟩
  · rw [cb_gI_cp, if_neg (by omega), cb_gI_cp, if_neg (by omega), cb_gI_cp, if_neg (by omega), cb_gI_cp, if_neg (by omega), cb_gI_cp, if_neg (by omega), cb_gI_cp, if_neg (by omega), cb_gI_cp, if_pos ⟨rfl, rfl⟩, va_cpy_0 hi, cb_gs_ne (by omega)]
  · rw [cb_gI_cp, if_neg (by omega), cb_gI_cp, if_neg (by omega), cb_gI_cp, if_neg (by omega), cb_gI_cp, if_neg (by omega), cb_gI_cp, if_neg (by omega), cb_gI_cp, if_pos ⟨rfl, rfl⟩, va_cpy_0 hi, cb_gI_cp, if_neg (by omega), cb_gs_ne (by omega)]
  · rw [cb_gI_cp, if_neg (by omega), cb_gI_cp, if_neg (by omega), cb_gI_cp, if_neg (by omega), cb_gI_cp, if_neg (by omega), cb_gI_cp, if_pos ⟨rfl, rfl⟩, va_cpy_0 hi, cb_gI_cp, if_neg (by omega), cb_gI_cp, if_neg (by omega), cb_gs_ne (by omega)]
  · rw [cb_gI_cp, if_neg (by omega), cb_gI_cp, if_pos ⟨rfl, rfl⟩, va_cpy_0 hi, cb_gI_cp, if_neg (by omega), cb_gI_cp, if_neg (by omega), cb_gI_cp, if_neg (by omega), cb_gI_cp, if_neg (by omega), cb_gI_cp, if_neg (by omega), cb_gs_ne (by omega)]
  · rw [cb_gI_cp, if_neg (by omega), cb_gI_cp, if_neg (by omega), cb_gI_cp, if_neg (by omega), cb_gI_cp, if_pos ⟨rfl, rfl⟩, va_cpy_0 hl, cb_gI_cp, if_neg (by omega), cb_gI_cp, if_neg (by omega), cb_gI_cp, if_neg (by omega), cb_gs_ne (by omega)]
  · rw [cb_gI_cp, if_neg (by omega), cb_gI_cp, if_neg (by omega), cb_gI_cp, if_pos ⟨rfl, rfl⟩, va_cpy_0 hl, cb_gI_cp, if_neg (by omega), cb_gI_cp, if_neg (by omega), cb_gI_cp, if_neg (by omega), cb_gI_cp, if_neg (by omega), cb_gs_ne (by omega)]
  · rw [cb_gI_cp, if_pos ⟨rfl, rfl⟩, va_cpy_0 hx, cb_gI_cp, if_neg (by omega), cb_gI_cp, if_neg (by omega), cb_gI_cp, if_neg (by omega), cb_gI_cp, if_neg (by omega), cb_gI_cp, if_neg (by omega), cb_gI_cp, if_neg (by omega), cb_gs_ne (by omega)]
