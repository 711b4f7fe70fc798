/-! ===== days, undo: of both ===== -/
theorem wm_fmod_add {f o b : Int32} (hf : 0 ≤ f.toInt ∧ f.toInt ≤ 999) (ho : wO_b 500000000 o) (hb : wO_b 350 b) : wm_fmod (wm_fmod (f + o) 1000 + b) 1000 = wm_fmod (f + (o + b)) 1000 := by
  unfold wO_b at *
  have e1 : (f + o).toInt = f.toInt + o.toInt := i32_add (by omega) (by omega)
  have e2 : (o + b).toInt = o.toInt + b.toInt := i32_add (by omega) (by omega)
  have e3 : (f + (o + b)).toInt = f.toInt + (o.toInt + b.toInt) := by rw [i32_add (by rw [e2]; omega) (by rw [e2]; omega), e2]
  have e4 := wm_fmod_int (f + o)
  rw [e1] at e4
  have e5 : (wm_fmod (f + o) 1000 + b).toInt = (f.toInt + o.toInt) % 1000 + b.toInt := by rw [i32_add (by rw [e4]; omega) (by rw [e4]; omega), e4]
  refine Int32.toInt_inj.mp ?_
  rw [wm_fmod_int, wm_fmod_int, e5, e3]
  omega
set_option maxRecDepth 8000 in
theorem wn_days_pof {c : wn_C} {u : wm_U} {dp : wm_F} {s : wm_S} {i B : Nat} {f : Int32} (hf : 0 ≤ f.toInt ∧ f.toInt ≤ 999) (hr : wO_b 100 (c.rt i)) (hd : ∀ x, x < 400 → 0 ≤ (dp x).toInt ∧ (dp x).toInt ≤ 50) (hs : wO_b B (s.2.2 i)) (h0 : s.2.1 i = wm_fmod (f + s.2.2 i) 1000) : ∀ k, B + 350 * k < 400000000 → (wn_days c u dp s k).2.1 i = wm_fmod (f + (wn_days c u dp s k).2.2 i) 1000
  | 0, _ => h0
  | k + 1, h => by
    have ih := wn_days_pof (u := u) hf hr hd hs h0 k (by omega)
    have ib := wn_days_b (u := u) hr hd hs k (by omega)
    have hb := wn_by_b (u := u) (ph := (wn_days c u dp s k).2.1) (day := (wn_days c u dp s k).1) hr hd (wn_days c u dp s k).1
    show (if i < c.n ∧ wn_go c u (wn_days c u dp s k).1 (wn_days c u dp s k).2.1 i = true then wm_fmod ((wn_days c u dp s k).2.1 i + wn_by c u (wm_dmp dp (wn_days c u dp s k).1) (wn_days c u dp s k).1 (wn_days c u dp s k).2.1 i) 1000 else (wn_days c u dp s k).2.1 i) = wm_fmod (f + (if i < c.n ∧ wn_go c u (wn_days c u dp s k).1 (wn_days c u dp s k).2.1 i = true then (wn_days c u dp s k).2.2 i + wn_by c u (wm_dmp dp (wn_days c u dp s k).1) (wn_days c u dp s k).1 (wn_days c u dp s k).2.1 i else (wn_days c u dp s k).2.2 i)) 1000
    split
    · rw [ih]
      exact wm_fmod_add hf (wO_b_mono ib (by omega)) hb
    · exact ih
theorem re_lo_D {t j : Nat} (h : 46 ≤ t) : fr_D t j = false := by
  cases e : fr_D t j with
  | false => rfl
  | true =>
    unfold fr_D fr_Z fr_o at e
    simp only [Bool.or_eq_true, Bool.and_eq_true, Nat.beq_eq, Nat.ble_eq] at e
    omega
theorem re_st_D {t i j : Nat} (h : re_st t i j) : fr_D t j = false ∨ (t < 25 ∧ ¬ i = 0) := by
  cases e : fr_D t j with
  | false => exact Or.inl rfl
  | true =>
    obtain ⟨h1, h2, -⟩ := h
    unfold fr_D fr_Z fr_o at e
    unfold re_rel at h1
    simp only [Bool.or_eq_true, Bool.and_eq_true, Nat.beq_eq, Nat.ble_eq, Bool.not_eq_true'] at e h1
    exact Or.inr (by omega)
theorem re_st_Y {t i j : Nat} (h : re_st t i j) : fr_Y t j = false ∧ fr_U t j = false := by
  obtain ⟨h1, h2, h3, h4⟩ := h
  have hx := re_rel_X h1
  unfold re_rel at h1
  simp only [Bool.or_eq_true, Bool.and_eq_true, Nat.beq_eq, Nat.ble_eq, Bool.not_eq_true'] at h1
  constructor
  · cases e : fr_Y t j with
    | false => rfl
    | true =>
      unfold fr_Y fr_K at e
      rw [hx] at e
      simp only [Bool.or_eq_true, Bool.and_eq_true, Nat.beq_eq, Nat.ble_eq, Bool.false_eq_true, false_or] at e
      omega
  · cases e : fr_U t j with
    | false => rfl
    | true =>
      unfold fr_U at e
      simp only [Bool.or_eq_true, Bool.and_eq_true, Nat.beq_eq, Nat.ble_eq] at e
      omega
theorem fr_Y_lo {t j : Nat} (h : t < 46) : fr_Y t j = false := by
  cases e : fr_Y t j with
  | false => rfl
  | true =>
    unfold fr_Y fr_K fr_X at e
    simp only [Bool.or_eq_true, Bool.and_eq_true, Nat.beq_eq, Nat.ble_eq] at e
    omega
/-- the days that went, of both -/
theorem re_nwd {M M1 M2 : cb_M} {A : rd_P} {P n h nb d k : Nat} (hW : re_W A) (hV : re_V M P A) (hS : re_S M A) (hnw : re_nw M A d) (e1 : n = A.n) (hk : d + k ≤ 400) (hO : wO (mv M n h nb)) (h1 : vd_days M n d (vq_on (mv M n h nb)) k M1) (h2 : md_days M1 n d (vq_on (mv M n h nb)) k M2) : re_nw M2 A (d + k) := by
  obtain ⟨⟨d0, d1, d2⟩, d3, d4, d5⟩ := hnw
  obtain ⟨a1, a2, a3, a4, a5, a6⟩ := h1
  obtain ⟨b1, b2, b3, b4, b5, -⟩ := h2
  subst e1
  have lo : ∀ t i j, t < 46 → cb_gI M2 t i j = cb_gI M1 t i j := fun t i j w => b1.1 t i j (fr_Y_lo w)
  have lof : ∀ t i, t < 46 → cb_gI M2 t i = cb_gI M1 t i := fun t i w => funext fun j => lo t i j w
  have lD : ∀ t i, (∀ j, fr_D t j = false) → cb_gI M1 t i = cb_gI M t i := fun t i w => funext fun j => a1.1 t i j (w j)
  have hi1 : ∀ t i j, 46 ≤ t → cb_gI M1 t i j = cb_gI M t i j := fun t i j w => a1.1 t i j (re_lo_D w)
  have hY : ∀ t i, (∀ j, fr_Y t j = false) → 46 ≤ t → cb_gI M2 t i = cb_gI M t i := fun t i w w2 => funext fun j => (b1.1 t i j (w j)).trans (hi1 t i j w2)
  obtain ⟨S, hS0⟩ : ∃ S, S = vq_on (mv M A.n h nb) := ⟨_, rfl⟩
  rw [← hS0] at a4 a6 b3 b5
  have hbd : ∀ k i, i < A.n → k ≤ 400 → wO_b (350 * (d + k)) ((S k).2.2 i) ∧ (S k).2.1 i = wm_fmod (A.c.2.2.2.2.2 i + (S k).2.2 i) 1000 := fun k i hi hk => by
    have hs : wO_b (350 * d) ((mv M A.n h nb).s.2.2 i) := by
      show wO_b (350 * d) (wn_tr A.n (cb_gI M 70 0) i)
      rw [wn_tr_lt hi, (d3 i hi).2.1]
      exact (d3 i hi).2.2.2.2.2.1
    have h0 : (mv M A.n h nb).s.2.1 i = wm_fmod (A.c.2.2.2.2.2 i + (mv M A.n h nb).s.2.2 i) 1000 := by
      show wn_tr A.n (cb_gI M 69 0) i = wm_fmod (A.c.2.2.2.2.2 i + wn_tr A.n (cb_gI M 70 0) i) 1000
      rw [wn_tr_lt hi, wn_tr_lt hi, (d3 i hi).1, (d3 i hi).2.1]
      rfl
    obtain ⟨f, hf, ef⟩ := (hW.2.1 i hi).2.2.2
    have hf9 : 0 ≤ (A.c.2.2.2.2.2 i).toInt ∧ (A.c.2.2.2.2.2 i).toInt ≤ 999 := by
      rw [ef, nI_toInt (by omega)]
      omega
    rw [hS0]
    refine ⟨wO_b_mono (wn_days_b (c := vc (mv M A.n h nb)) (u := wu_all (mv M A.n h nb).n) (dp := (mv M A.n h nb).dp) (hO.2.1 i hi) hO.2.2 hs k (by omega)) (by omega), ?_⟩
    exact wn_days_pof (c := vc (mv M A.n h nb)) (u := wu_all (mv M A.n h nb).n) (dp := (mv M A.n h nb).dp) hf9 (hO.2.1 i hi) hO.2.2 hs h0 k (by omega)
  refine ⟨⟨hk, (lo 16 0 0 (by omega)).trans a3, b2⟩, fun i hi => ?_, fun l hl => ?_, fun e i he hi => ?_⟩
  · obtain ⟨q1, q2, q3, q4, q5, q6, q7, q8⟩ := d3 i hi
    obtain ⟨g1, g2⟩ := hbd k i hi (by omega)
    have e17 : cb_gI M2 17 0 i = (S k).2.2 i := (lo 17 0 i (by omega)).trans (a4 i hi)
    refine ⟨?_, ?_, ?_, ?_, ?_, ?_, ?_, ?_⟩
    · unfold wm_pof
      rw [(b3 i hi).1, g2, e17]
    · rw [(b3 i hi).2, e17]
    · rw [hY 64 0 (fun _ => rfl) (by omega), lof 18 0 (by omega), lD 18 0 (fun _ => rfl)]
      exact q3
    · rw [hY 65 0 (fun _ => rfl) (by omega), lof 19 0 (by omega), lD 19 0 (fun _ => rfl)]
      exact q4
    · rw [hY 71 0 (fun _ => rfl) (by omega), lof 22 0 (by omega), lD 22 0 (fun _ => rfl)]
      exact q5
    · rw [e17]
      exact g1
    · rw [lof 18 0 (by omega), lD 18 0 (fun _ => rfl)]
      exact q7
    · rw [lof 19 0 (by omega), lD 19 0 (fun _ => rfl)]
      exact q8
  · rw [hY 72 0 (fun _ => rfl) (by omega), hY 73 0 (fun _ => rfl) (by omega), lof 20 0 (by omega), lof 21 0 (by omega), lD 20 0 (fun _ => rfl), lD 21 0 (fun _ => rfl)]
    exact d4 l hl
  · have hn8 := hW.1.2.1
    by_cases w : e < d
    · obtain ⟨q1, q2, q3⟩ := d5 e i w hi
      have e23 : cb_gI M2 23 0 (e * 8 + i) = cb_gI M 23 0 (e * 8 + i) := (lo 23 0 _ (by omega)).trans (a5 _ (by omega))
      refine ⟨?_, ?_, ?_⟩
      · unfold wm_pof at q1 ⊢
        show cb_gI M2 75 e i = wm_fmod (A.c.2.2.2.2.2 i + cb_gI M2 23 0 (e * 8 + i)) 1000
        rw [e23, b4 75 e i (Or.inl rfl) w, hi1 75 e i (by omega)]
        exact q1
      · rw [e23, b4 77 e i (Or.inr rfl) w, hi1 77 e i (by omega)]
        exact q2
      · rw [e23]
        exact q3
    · obtain ⟨x, rfl⟩ : ∃ x, e = d + x := ⟨e - d, by omega⟩
      obtain ⟨g1, g2⟩ := hbd x i hi (by omega)
      have e23 : cb_gI M2 23 0 ((d + x) * 8 + i) = (S x).2.2 i := (lo 23 0 _ (by omega)).trans (a6 x (by omega) i hi)
      obtain ⟨p1, p2⟩ := b5 x (by omega) i hi
      refine ⟨?_, ?_, ?_⟩
      · show cb_gI M2 75 (d + x) i = wm_fmod (A.c.2.2.2.2.2 i + cb_gI M2 23 0 ((d + x) * 8 + i)) 1000
        rw [p1, g2, e23]
      · rw [p2, e23]
      · rw [e23]
        exact g1
theorem re_days {M : cb_M} {m : Nat} (hR : re_R M m) (N : Int32) : sp_X9_days [cb_i N] M (re_post re_cI sp_X10_days [cb_i N] m) := by
  obtain ⟨P, n, h, nb, hA, hM, hv, hO, hwt, hn, hh⟩ := re_get hR
  obtain ⟨-, -, -, -, -, -, d, hd, hday⟩ := id hA
  obtain ⟨-, -, -, -, -, ⟨d', hd', hday'⟩, -⟩ := id hM
  have hdd : d = d' ∧ cb_gI M 46 0 33 = nI d := by
    obtain ⟨P', Q', A, c, t, h1, h2, h3, h4, h5, -⟩ := hR
    obtain ⟨z, ⟨z0, z1, z2⟩, -⟩ := (re_nw_iff h2.1.2.1 h2.1.2.2).mp h5
    have e1 := re_nI (hday.symm.trans z1) (by omega) (by omega)
    have e2 := re_nI (hday'.symm.trans z2) (by omega) (by omega)
    exact ⟨e1.trans e2.symm, by rw [e1]; exact z2⟩
  refine Exists.intro P (Exists.intro n (Exists.intro h (Exists.intro nb (Exists.intro d (And.intro ⟨hA, hday, hd⟩ ?_)))))
  refine And.intro (fun w => Exists.intro _ (And.intro rfl (Exists.intro n (Exists.intro h (Exists.intro nb (Exists.intro d (And.intro ⟨hM, hdd.2, hd⟩ (wg_rN (by decide) w (re_tT hR rfl))))))))) (fun k k1 k2 ke => ?_)
  intro M1 h1 Z
  have hi1 : ∀ t i j, 46 ≤ t → cb_gI M1 t i j = cb_gI M t i j := fun t i j w => h1.1.1 t i j (re_lo_D w)
  obtain ⟨g1, g2⟩ := re_hi hi1 n h nb
  refine Exists.intro n (Exists.intro h (Exists.intro nb (Exists.intro d (And.intro ⟨g1 hM, (hi1 46 0 33 (by omega)).trans hdd.2, hd⟩ (wg_rY (by decide) k1 k2 ke (fun M2 h2 => ⟨rfl, h2.2.2.2.2.2, re_fr h2.1, ?_⟩))))))
  have g3 : mv (re_lz M1 Z) n h nb = mv M n h nb := g2
  rw [g3] at h2
  have h2 : md_days M1 n d (vq_on (mv M n h nb)) (min k (400 - d)) (re_lz M2 M1.2.2) := ⟨(re_frZ h2.1).2, h2.2⟩
  refine re_R.un (Z := M1.2.2) ?_
  rw [hv] at h1
  refine re_now (M := M) (fun t i j hs => ?_) (fun t i j w => ?_) hR (fun P' A d9 e hW hV hS hnw => ⟨d + min k (400 - d), ?_⟩)
  · rw [h2.1.1 t i j (re_st_Y hs).1]
    rcases re_st_D hs with w | w
    · exact h1.1.1 t i j w
    · exact h1.2.1 t i j w.1 w.2
  · rw [h2.1.ref]
    exact h1.1.2.1 t i j (by omega)
  · obtain ⟨n1, n2, -⟩ := re_nh hR hA hW e hV
    have e9 : d = d9 := re_nI (hday.symm.trans hnw.1.2.1) (by omega) (by have := hnw.1.1; omega)
    subst e9
    exact re_nwd hW hV hS hnw n1 (by omega) hO h1 h2
