/-! ===== undo: of both ===== -/
theorem fr_U_lo {t j : Nat} (h : t < 46) : fr_U t j = false := by
  cases e : fr_U t j with
  | false => rfl
  | true =>
    unfold fr_U at e
    simp only [Bool.or_eq_true, Bool.and_eq_true, Nat.beq_eq, Nat.ble_eq] at e
    omega
theorem re_day {M : cb_M} {m : Nat} (hR : re_R M m) {P n h nb : Nat} (hA : wa_I M P n h nb) : ∃ d, d ≤ 400 ∧ cb_gI M 16 0 0 = nI d ∧ cb_gI M 46 0 33 = nI d := by
  obtain ⟨P', Q', A, c, t, h1, h2, h3, h4, h5, -⟩ := hR
  obtain ⟨z, ⟨z0, z1, z2⟩, -⟩ := (re_nw_iff h2.1.2.1 h2.1.2.2).mp h5
  exact ⟨z, z0, z1, z2⟩
theorem re_undo {M : cb_M} {m : Nat} (hR : re_R M m) (N : Int32) : sp_X9_undo [cb_i N] M (re_post re_cI sp_X10_undo [cb_i N] m) := by
  obtain ⟨P, n, h, nb, hA, hM, hv, hO, hwt, hn, hh⟩ := re_get hR
  obtain ⟨d, hd, hday, hday'⟩ := re_day hR hA
  refine Exists.intro P (Exists.intro n (Exists.intro h (Exists.intro nb (Exists.intro d (And.intro ⟨hA, hday, hd⟩ ?_)))))
  refine And.intro (fun w => Exists.intro _ (And.intro rfl (Exists.intro n (Exists.intro h (Exists.intro nb (Exists.intro d (And.intro ⟨hM, hday', hd⟩ (wg_rN (by decide) w (re_tT hR rfl))))))))) (fun k k1 k2 ke => ?_)
  refine And.intro (fun d0 Z => Exists.intro n (Exists.intro h (Exists.intro nb (Exists.intro d (And.intro ⟨hM, hday', hd⟩ (wg_rY (by decide) k1 k2 ke (And.intro (fun _ => re_tR hR rfl) (fun w => absurd w (by omega))))))))) (fun dp => ?_)
  obtain ⟨e, he⟩ : ∃ e, e = d - min k d := ⟨_, rfl⟩
  have hed : e < d := by omega
  rw [← he]
  obtain ⟨M1, hM1⟩ : ∃ M1, M1 = cb_cp (cb_sI M 16 0 0 (nI e)) 23 0 (e * 8) 17 0 0 n := ⟨_, rfl⟩
  rw [← hM1]
  have k1' : ∀ t i j, ¬ (t = 17 ∧ i = 0) → ¬ (t = 16 ∧ i = 0 ∧ j = 0) → cb_gI M1 t i j = cb_gI M t i j := fun t i j w1 w2 => by
    rw [hM1, cb_gI_cp, if_neg w1, cb_gs_ne w2]
  have k16 : cb_gI M1 16 0 0 = nI e := by
    rw [hM1, cb_gI_cp, if_neg (by omega), cb_gs_eq]
  have k17 : ∀ a, a < n → cb_gI M1 17 0 a = cb_gI M 23 0 (e * 8 + a) := fun a ha => by
    rw [hM1, cb_gI_cp, if_pos ⟨rfl, rfl⟩]
    unfold va_cpy
    rw [if_pos (by omega), cb_gs_ne (by omega), show a - 0 = a by omega]
  obtain ⟨g1, g2⟩ := re_hi (M := M) (M' := M1) (fun t i j w => k1' t i j (by omega) (by omega)) n h nb
  intro Z
  refine Exists.intro n (Exists.intro h (Exists.intro nb (Exists.intro d (And.intro ⟨g1 hM, (k1' 46 0 33 (by omega) (by omega)).trans hday', hd⟩ (wg_rY (by decide) k1 k2 ke (And.intro (fun w => absurd w (by omega)) (fun _ M9 hF h0 h33 hrow => ⟨rfl, h0, re_fr hF, ?_⟩)))))))
  have hF : cb_fr fr_U M1 (re_lz M9 M1.2.2) := (re_frZ hF).2
  have hrow : ∀ i, i < n → cb_gI M9 69 0 i = cb_gI M1 75 (d - min k d) i ∧ cb_gI M9 70 0 i = cb_gI M1 77 (d - min k d) i := hrow
  refine re_R.un (Z := M1.2.2) ?_
  obtain ⟨M2, hM2⟩ : ∃ M2, M2 = re_lz M9 M1.2.2 := ⟨_, rfl⟩
  have h0 : cb_gI M2 46 0 0 = 0 := by rw [hM2]; exact h0
  have h33 : cb_gI M2 46 0 33 = nI (d - min k d) := by rw [hM2]; exact h33
  have hrow : ∀ i, i < n → cb_gI M2 69 0 i = cb_gI M1 75 (d - min k d) i ∧ cb_gI M2 70 0 i = cb_gI M1 77 (d - min k d) i := by rw [hM2]; exact hrow
  rw [← hM2] at hF ⊢
  clear hM2
  rw [← he] at h33 hrow
  refine re_now (M := M) (fun t i j hs => ?_) (fun t i j w => ?_) hR (fun P' A d9 e9 hW hV hS hnw => ⟨e, ?_⟩)
  · rw [hF.1 t i j (re_st_Y hs).2]
    exact k1' t i j (fun w => hs.2.1 (by omega)) (fun w => hs.2.1 (by omega))
  · rw [hF.ref, hM1]
    rfl
  · obtain ⟨n1, n2, -⟩ := re_nh hR hA hW e9 hV
    have ed : d = d9 := re_nI (hday.symm.trans hnw.1.2.1) (by omega) (by have := hnw.1.1; omega)
    subst ed
    subst n1
    obtain ⟨⟨d0, d1, d2⟩, d3, d4, d5⟩ := hnw
    have lo : ∀ t i j, t < 46 → cb_gI M2 t i j = cb_gI M1 t i j := fun t i j w => hF.1 t i j (fr_U_lo w)
    have kf : ∀ t i, t < 46 → ¬ (t = 17 ∧ i = 0) → ¬ t = 16 → cb_gI M2 t i = cb_gI M t i := fun t i w w1 w2 => funext fun j => (lo t i j w).trans (k1' t i j w1 (by omega))
    have hf : ∀ t i, (∀ j, fr_U t j = false) → 46 ≤ t → cb_gI M2 t i = cb_gI M t i := fun t i w w2 => funext fun j => (hF.1 t i j (w j)).trans (k1' t i j (by omega) (by omega))
    refine ⟨⟨by omega, (lo 16 0 0 (by omega)).trans k16, h33⟩, fun i hi => ?_, fun l hl => ?_, fun x i hx hi => ?_⟩
    · obtain ⟨q1, q2, q3, q4, q5, q6, q7, q8⟩ := d3 i hi
      obtain ⟨p1, p2, p3⟩ := d5 e i hed hi
      obtain ⟨r1, r2⟩ := hrow i hi
      have e17 : cb_gI M2 17 0 i = cb_gI M 23 0 (e * 8 + i) := (lo 17 0 i (by omega)).trans (k17 i hi)
      rw [k1' 75 e i (by omega) (by omega)] at r1
      rw [k1' 77 e i (by omega) (by omega)] at r2
      refine ⟨?_, ?_, ?_, ?_, ?_, ?_, ?_, ?_⟩
      · unfold wm_pof
        rw [r1, e17]
        exact p1
      · rw [r2, e17]
        exact p2
      · rw [hf 64 0 (fun _ => rfl) (by omega), kf 18 0 (by omega) (by omega) (by omega)]
        exact q3
      · rw [hf 65 0 (fun _ => rfl) (by omega), kf 19 0 (by omega) (by omega) (by omega)]
        exact q4
      · rw [hf 71 0 (fun _ => rfl) (by omega), kf 22 0 (by omega) (by omega) (by omega)]
        exact q5
      · rw [e17]
        exact p3
      · rw [kf 18 0 (by omega) (by omega) (by omega)]
        exact q7
      · rw [kf 19 0 (by omega) (by omega) (by omega)]
        exact q8
    · rw [hf 72 0 (fun _ => rfl) (by omega), hf 73 0 (fun _ => rfl) (by omega), kf 20 0 (by omega) (by omega) (by omega), kf 21 0 (by omega) (by omega) (by omega)]
      exact d4 l hl
    · rw [hf 75 x (fun _ => rfl) (by omega), hf 77 x (fun _ => rfl) (by omega), kf 23 0 (by omega) (by omega) (by omega)]
      exact d5 x i (by omega) hi
