/-! ===== the class and the reference: one wall ===== -/
def re_W (A : rd_P) : Prop := (A.nb ≤ 4 ∧ A.n ≤ 8 ∧ A.h ≤ 6) ∧ (∀ i, i < A.n → (∃ k, k ≤ 200 ∧ A.c.2.2.1 i = nI k - 100) ∧ (∃ k, 1 ≤ k ∧ k ≤ 20 ∧ A.c.2.2.2.1 i = nI k) ∧ (∃ k, 1 ≤ k ∧ k ≤ 30 ∧ A.ky i = nI k) ∧ ∃ k, k ≤ 999 ∧ A.c.2.2.2.2.2 i = nI k) ∧ (∀ x, x < 400 → ∃ k, k ≤ 50 ∧ A.dp x = nI k) ∧ ∃ s, s < 2 ^ A.n ∧ A.so = nI s
/-- the class's plan -/
def re_V (M : cb_M) (P : Nat) (A : rd_P) : Prop := (cb_gI M 3 P 0 = nI A.nb ∧ cb_gI M 3 P 1 = nI A.n ∧ cb_gI M 3 P 2 = nI A.h ∧ cb_gI M 3 P 3 = A.so ∧ cb_gI M 3 P 4 = A.w) ∧ (∀ b, b < A.nb → cb_gI M 4 P b = A.th b) ∧ (∀ i, i < A.n → cb_gI M 7 P i = A.c.2.2.1 i ∧ cb_gI M 8 P i = A.c.2.2.2.1 i ∧ cb_gI M 9 P i = A.c.2.2.2.2.1 i ∧ cb_gI M 10 P i = A.c.2.2.2.2.2 i ∧ cb_gI M 11 P i = A.ky i) ∧ (∀ i j, i < A.n → j < A.n → cb_gI M 14 P (i * 8 + j) = A.he (i * 8 + j)) ∧ ∀ x, x < 400 → cb_gI M 15 P x = A.dp x
/-- the reference's plan -/
def re_S (M : cb_M) (A : rd_P) : Prop := (cb_gI M 49 0 0 = nI A.nb ∧ cb_gI M 49 0 1 = nI A.n ∧ cb_gI M 49 0 2 = nI A.h ∧ cb_gI M 49 0 3 = A.w ∧ cb_gI M 49 0 4 = A.so) ∧ (∀ b, b < A.nb → cb_gI M 51 0 b = A.th b) ∧ (∀ i, i < A.n → cb_gI M 66 0 i = A.c.2.2.1 i ∧ cb_gI M 67 0 i = A.c.2.2.2.1 i ∧ cb_gI M 68 0 i = A.c.2.2.2.2.1 i ∧ cb_gI M 55 0 i = A.ky i) ∧ (∀ i j, i < A.n → j < A.n → cb_gI M 63 i j = A.he (i * 8 + j)) ∧ ∀ x, x < 400 → cb_gI M 53 0 x = A.dp x
/-- a moment of the class, and the cells of the reference -/
def re_mo (M : cb_M) (A : rd_P) (q : Nat) (r : Nat → Int32) : Prop := ∃ d, (d ≤ 400 ∧ cb_gI M 16 q 0 = nI d ∧ r 0 = nI d) ∧
  (∀ i, i < A.n → r (1 + 5 * i) = wm_pof A.c.2.2.2.2.2 (cb_gI M 17 q) i ∧ r (1 + 5 * i + 1) = cb_gI M 17 q i ∧ r (1 + 5 * i + 2) = cb_gI M 18 q i ∧ r (1 + 5 * i + 3) = cb_gI M 19 q i ∧ r (1 + 5 * i + 4) = cb_gI M 22 q i ∧ wO_b (350 * d) (cb_gI M 17 q i) ∧ vp_in (cb_gI M 18 q i) A.nb ∧ vp_in (cb_gI M 19 q i) 20) ∧
  (∀ l, l < A.h → r (41 + 2 * l) = cb_gI M 20 q l ∧ r (41 + 2 * l + 1) = cb_gI M 21 q l ∧ vp_in (cb_gI M 20 q l) A.nb ∧ vp_in (cb_gI M 21 q l) 20) ∧
  ∀ e i, e < d → i < A.n → r (53 + 16 * e + 2 * i) = wm_pof A.c.2.2.2.2.2 (fun i => cb_gI M 23 q (e * 8 + i)) i ∧ r (53 + 16 * e + 2 * i + 1) = cb_gI M 23 q (e * 8 + i) ∧ wO_b (350 * e) (cb_gI M 23 q (e * 8 + i))
/-- a byte of the tape, and what was fed -/
def re_by (x y : Int32) : Prop := ∃ k, k < 256 ∧ y = nI k ∧ x = if k < 128 then nI k else nI k - 256
def re_T (M : cb_M) (t : Nat) : Prop := (cb_gI M 0 0 1 = nI t ∧ cb_gI M 46 0 1 = nI t ∧ t ≤ 600) ∧ ∀ j, j < t → re_by (cb_gI M 2 0 j) (cb_gI M 47 0 j)
def re_R (M : cb_M) (m : Nat) : Prop := ∃ P Q A c t, (cb_gR M 0 0 4 = some P ∧ cb_gR M 0 0 5 = some Q ∧ P < 2 ∧ Q < 2 ∧ ¬ P = Q) ∧ re_W A ∧ re_V M P A ∧ re_S M A ∧ re_mo M A 0 (mo_g M) ∧ (im_I M m c ∧ cb_gI M 46 0 34 = nI c) ∧ (∀ k, k < c → re_mo M A (k + 1) (cb_gI M 79 k)) ∧ re_T M t ∧ cb_gI M 0 0 3 = cb_gI M 46 0 3 ∧ cb_gI M 46 0 41 = 255 ∧ cb_gI M 46 0 44 = 0 ∧ cb_gI M 46 0 45 = 0
/-- what the two speak of -/
def re_rel (t j : Nat) : Bool := (Nat.ble t 24 && !Nat.beq t 1) || ((Nat.beq t 46 && (Nat.beq j 1 || (Nat.beq j 3 || (Nat.beq j 33 || (Nat.beq j 34 || (Nat.beq j 41 || (Nat.beq j 44 || Nat.beq j 45))))))) || (Nat.beq t 47 || (Nat.beq t 49 || (Nat.beq t 51 || (Nat.beq t 53 || (Nat.beq t 55 || ((Nat.ble 63 t && Nat.ble t 73) || (Nat.beq t 75 || (Nat.beq t 77 || Nat.beq t 79)))))))))
theorem mo_c_rel (s : Nat) : re_rel (mo_c s).1 (mo_c s).2.2 = true := by
  by_cases h0 : s < 53
  · have : ∀ s, s < 53 → re_rel (mo_c s).1 (mo_c s).2.2 = true := by decide
    exact this s h0
  · obtain ⟨d, i, r, hi, hr, rfl⟩ : ∃ d i r, i < 8 ∧ r < 2 ∧ s = 53 + 16 * d + 2 * i + r := ⟨(s - 53) / 16, (s - 53) / 2 % 8, (s - 53) % 2, by omega, by omega, by omega⟩
    rcases (show r = 0 ∨ r = 1 by omega) with rfl | rfl
    · rw [Nat.add_zero, (mo_c_d hi).1]
      rfl
    · rw [(mo_c_d hi).2]
      rfl
theorem re_keep {M M' : cb_M} {m : Nat} (hI : ∀ t i j, re_rel t j = true → cb_gI M' t i j = cb_gI M t i j) (hR : ∀ t i j, t = 0 ∨ t = 24 → cb_gR M' t i j = cb_gR M t i j) (h : re_R M m) : re_R M' m := by
  have fn : ∀ t i, (∀ j, re_rel t j = true) → cb_gI M' t i = cb_gI M t i := fun t i w => funext fun j => hI t i j (w j)
  have emo : mo_g M' = mo_g M := funext fun s => hI _ _ _ (mo_c_rel s)
  obtain ⟨P, Q, A, c, t, h1, h2, h3, h4, h5, ⟨h6, h6'⟩, h7, h8, h9, h10⟩ := h
  have g : ∀ q r, re_mo M' A q r = re_mo M A q r := fun q r => by
    unfold re_mo
    rw [fn 16 q (fun _ => rfl), fn 17 q (fun _ => rfl), fn 18 q (fun _ => rfl), fn 19 q (fun _ => rfl), fn 20 q (fun _ => rfl), fn 21 q (fun _ => rfl), fn 22 q (fun _ => rfl), fn 23 q (fun _ => rfl)]
  refine ⟨P, Q, A, c, t, ?_, h2, ?_, ?_, ?_, ⟨?_, ?_⟩, fun k hk => ?_, ?_, ?_, ?_⟩
  · rw [hR 0 0 4 (Or.inl rfl), hR 0 0 5 (Or.inl rfl)]
    exact h1
  · unfold re_V
    rw [fn 3 P (fun _ => rfl), fn 4 P (fun _ => rfl), fn 7 P (fun _ => rfl), fn 8 P (fun _ => rfl), fn 9 P (fun _ => rfl), fn 10 P (fun _ => rfl), fn 11 P (fun _ => rfl), fn 14 P (fun _ => rfl), fn 15 P (fun _ => rfl)]
    exact h3
  · unfold re_S
    have e63 : ∀ i, cb_gI M' 63 i = cb_gI M 63 i := fun i => fn 63 i (fun _ => rfl)
    simp only [e63]
    rw [fn 49 0 (fun _ => rfl), fn 51 0 (fun _ => rfl), fn 66 0 (fun _ => rfl), fn 67 0 (fun _ => rfl), fn 68 0 (fun _ => rfl), fn 55 0 (fun _ => rfl), fn 53 0 (fun _ => rfl)]
    exact h4
  · rw [emo, g]
    exact h5
  · obtain ⟨a1, a2, a3, a4⟩ := h6
    exact ⟨a1, a2, fun j => (hR 24 0 j (Or.inr rfl)).trans (a3 j), (hI 0 0 8 rfl).trans a4⟩
  · exact (hI 46 0 34 rfl).trans h6'
  · rw [g, fn 79 k (fun _ => rfl)]
    exact h7 k hk
  · unfold re_T
    rw [fn 2 0 (fun _ => rfl), fn 47 0 (fun _ => rfl), hI 0 0 1 rfl, hI 46 0 1 rfl]
    exact h8
  · rw [hI 0 0 3 rfl, hI 46 0 3 rfl]
    exact h9
  · rw [hI 46 0 41 rfl, hI 46 0 44 rfl, hI 46 0 45 rfl]
    exact h10
theorem re_rel_Z {t j : Nat} (h : re_rel t j = true) : fr_Z t j = false := by
  cases e : fr_Z t j with
  | false => rfl
  | true =>
    unfold fr_Z at e
    unfold re_rel at h
    simp only [Bool.or_eq_true, Bool.and_eq_true, Nat.beq_eq, Nat.ble_eq, Bool.not_eq_true'] at e h
    omega
theorem re_rel_X {t j : Nat} (h : re_rel t j = true) : fr_X t j = false := by
  cases e : fr_X t j with
  | false => rfl
  | true =>
    unfold fr_X at e
    unfold re_rel at h
    simp only [Bool.or_eq_true, Bool.and_eq_true, Nat.beq_eq, Nat.ble_eq, Bool.not_eq_true'] at e h
    omega
theorem re_Z {M M' : cb_M} {m : Nat} (hF : cb_fx fr_Z M M') (h : re_R M m) : re_R M' m := re_keep (fun t i j w => hF.1 t i j (re_rel_Z w)) (fun t i j w => hF.2.1 t i j (by omega)) h
theorem re_X {M M' : cb_M} {m : Nat} (hF : cb_fr fr_X M M') (h : re_R M m) : re_R M' m := re_keep (fun t i j w => hF.1 t i j (re_rel_X w)) (fun t i j _ => hF.ref t i j) h
theorem re_100 {x : Int32} (h : ∃ k, 1 ≤ k ∧ k ≤ 20 ∧ x = nI k) : 1 ≤ 100 * x := by
  obtain ⟨k, h1, h2, rfl⟩ := h
  have key : ∀ k, k < 21 → 1 ≤ k → 1 ≤ 100 * nI k := by decide
  exact key k (by omega) h1
/-- one wall -/
theorem re_get {M : cb_M} {m : Nat} (h : re_R M m) : ∃ P n hh nb, wa_I M P n hh nb ∧ mi_I M n hh nb ∧ va M P n hh nb = mv M n hh nb ∧ wO (mv M n hh nb) ∧ (∀ i, i < n → ∃ c, c ≤ 20 ∧ cb_gI M 67 0 i = nI c) ∧ n ≤ 8 ∧ hh ≤ 6 := by
  obtain ⟨P, Q, A, c, t, ⟨hP, hQ, hP2, hQ2, hPQ⟩, ⟨⟨w1, w2, w3⟩, w4, w5, so, hso, hso'⟩, ⟨⟨v0, v1, v2, v3, v4⟩, v5, v6, v7, v8⟩, ⟨⟨s0, s1, s2, s3, s4⟩, s5, s6, s7, s8⟩, ⟨d, ⟨hd, d1, d2⟩, m1, m2, m3⟩, -, -, -, -, k1, k2, k3⟩ := h
  have c0 : cb_gI M 46 0 33 = nI d := d2
  have ci : ∀ i, i < A.n → cb_gI M 69 0 i = wm_pof A.c.2.2.2.2.2 (cb_gI M 17 0) i ∧ cb_gI M 70 0 i = cb_gI M 17 0 i ∧ cb_gI M 64 0 i = cb_gI M 18 0 i ∧ cb_gI M 65 0 i = cb_gI M 19 0 i ∧ cb_gI M 71 0 i = cb_gI M 22 0 i := fun i hi => by
    obtain ⟨e1, e2, e3, e4, e5⟩ := mo_c_i i (by omega)
    obtain ⟨a1, a2, a3, a4, a5, -⟩ := m1 i hi
    unfold mo_g at a1 a2 a3 a4 a5
    rw [e1] at a1
    rw [e2] at a2
    rw [e3] at a3
    rw [e4] at a4
    rw [e5] at a5
    exact ⟨a1, a2, a3, a4, a5⟩
  have ch : ∀ l, l < A.h → cb_gI M 72 0 l = cb_gI M 20 0 l ∧ cb_gI M 73 0 l = cb_gI M 21 0 l := fun l hl => by
    obtain ⟨e1, e2⟩ := mo_c_h l (by omega)
    obtain ⟨a1, a2, -⟩ := m2 l hl
    unfold mo_g at a1 a2
    rw [e1] at a1
    rw [e2] at a2
    exact ⟨a1, a2⟩
  have hpow : 2 ^ A.n ≤ 256 := Nat.le_trans (Nat.pow_le_pow_right (by decide) w2) (by decide)
  have hwt : ∀ i, i < A.n → 1 ≤ 100 * A.c.2.2.2.1 i := fun i hi => re_100 (w4 i hi).2.1
  have hpof : ∀ i, i < A.n → wm_pof (cb_gI M 10 P) (cb_gI M 17 0) i = wm_pof A.c.2.2.2.2.2 (cb_gI M 17 0) i := fun i hi => by
    unfold wm_pof
    rw [(v6 i hi).2.2.2.1]
  refine ⟨P, A.n, A.h, A.nb, ⟨hP, ⟨hP2, v1, w2, fun i hi => ⟨⟨vp_in_mono (m1 i hi).2.2.2.2.2.2.1 w1, (m1 i hi).2.2.2.2.2.2.2⟩, ?_⟩⟩, ⟨v2, w3, v0, w1, fun l hl => ⟨vp_in_mono (m2 l hl).2.2.1 w1, (m2 l hl).2.2.2⟩⟩, fun i hi => (m1 i hi).2.2.2.2.2.2.1, fun l hl => (m2 l hl).2.2.1, ⟨so, by omega, v3.trans hso'⟩, d, hd, d1⟩, ?_, ?_, ?_, fun i hi => ?_, w2, w3⟩
  · rw [(v6 i hi).2.1]
    exact hwt i hi
  · refine ⟨⟨s1, w2, fun i hi => ⟨?_, ?_, ?_, ?_⟩⟩, ⟨s2, w3, s0, w1⟩, fun i hi => ⟨?_, ?_⟩, fun l hl => ⟨?_, ?_⟩, ⟨so, hso, s4.trans hso'⟩, ⟨d, hd, c0⟩, k1, k2, k3⟩
    · rw [(ci i hi).2.2.1]
      exact vp_in_mono (m1 i hi).2.2.2.2.2.2.1 w1
    · rw [(ci i hi).2.2.2.1]
      exact (m1 i hi).2.2.2.2.2.2.2
    · rw [(s6 i hi).2.1]
      exact hwt i hi
    · rw [(s6 i hi).2.2.2]
      exact (w4 i hi).2.2.1
    · rw [(ci i hi).2.2.1]
      exact (m1 i hi).2.2.2.2.2.2.1
    · rw [(ci i hi).1]
      exact wm_fmod_ph _
    · rw [(ch l hl).1]
      exact (m2 l hl).2.2.1
    · rw [(ch l hl).2]
      exact (m2 l hl).2.2.2
  · unfold va mv wb_s mk_b
    rw [wn_tr_ext fun i hi => ((v6 i hi).2.2.1).trans (s6 i hi).2.2.1.symm, wn_tr_ext fun i hi => ((v6 i hi).2.1).trans (s6 i hi).2.1.symm, wn_tr_ext fun i hi => ((v6 i hi).2.2.2.2).trans (s6 i hi).2.2.2.symm, wn_tr_ext fun i hi => ((v6 i hi).1).trans (s6 i hi).1.symm, wn_tr_ext fun b hb => (v5 b hb).trans (s5 b hb).symm, wn_tr_ext fun x hx => (v8 x hx).trans (s8 x hx).symm, wn_tr_ext fun i hi => (ci i hi).2.2.1.symm, wn_tr_ext fun i hi => (ci i hi).2.2.2.1.symm, wn_tr_ext fun l hl => (ch l hl).1.symm, wn_tr_ext fun l hl => (ch l hl).2.symm, wn_tr_ext fun i hi => (ci i hi).2.2.2.2.symm, wn_tr_ext fun i hi => (hpof i hi).trans (ci i hi).1.symm, wn_tr_ext fun i hi => (ci i hi).2.1.symm, d1, c0, v4, s3, v3, s4]
    have eh : (fun i j => if i < A.n ∧ j < A.n then cb_gI M 14 P (i * 8 + j) else 0) = fun i j => if i < A.n ∧ j < A.n then cb_gI M 63 i j else 0 := funext fun i => funext fun j => by
      split
      · rename_i w
        rw [v7 i j w.1 w.2, s7 i j w.1 w.2]
      · rfl
    rw [eh]
  · refine ⟨fun i hi => ?_, fun i hi => ?_, fun x hx => ?_⟩
    · have hi : i < A.n := hi
      show wO_b 140000 (wn_tr A.n (cb_gI M 70 0) i)
      rw [wn_tr_lt hi, (ci i hi).2.1]
      exact wO_b_mono (m1 i hi).2.2.2.2.2.1 (by omega)
    · have hi : i < A.n := hi
      show wO_b 100 (wn_tr A.n (cb_gI M 66 0) i)
      rw [wn_tr_lt hi, (s6 i hi).1]
      obtain ⟨k, hk, e⟩ := (w4 i hi).1
      rw [e]
      exact wO_r (by omega)
    · show 0 ≤ (wn_tr 400 (cb_gI M 53 0) x).toInt ∧ (wn_tr 400 (cb_gI M 53 0) x).toInt ≤ 50
      rw [wn_tr_lt hx, s8 x hx]
      obtain ⟨k, hk, e⟩ := w5 x hx
      rw [e, nI_toInt (by omega)]
      omega
  · rw [(s6 i hi).2.1]
    obtain ⟨k, -, hk, e⟩ := (w4 i hi).2.1
    exact ⟨k, hk, e⟩
