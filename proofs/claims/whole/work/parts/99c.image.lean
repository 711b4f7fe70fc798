/-! ===== image, restore: the relation stays ===== -/
theorem mo_c_sb (s : Nat) : re_sb (mo_c s).1 (mo_c s).2.2 = false ∧ 46 ≤ (mo_c s).1 ∧ ¬ (mo_c s).1 = 79 := by
  by_cases h0 : s < 53
  · have : ∀ s, s < 53 → re_sb (mo_c s).1 (mo_c s).2.2 = false ∧ 46 ≤ (mo_c s).1 ∧ ¬ (mo_c s).1 = 79 := by decide
    exact this s h0
  · obtain ⟨d, i, r, hi, hr, rfl⟩ : ∃ d i r, i < 8 ∧ r < 2 ∧ s = 53 + 16 * d + 2 * i + r := ⟨(s - 53) / 16, (s - 53) / 2 % 8, (s - 53) % 2, by omega, by omega, by omega⟩
    rcases (show r = 0 ∨ r = 1 by omega) with rfl | rfl
    · rw [Nat.add_zero, (mo_c_d hi).1]
      exact ⟨rfl, (by decide : 46 ≤ 75), (by decide : ¬ 75 = 79)⟩
    · rw [(mo_c_d hi).2]
      exact ⟨rfl, (by decide : 46 ≤ 77), (by decide : ¬ 77 = 79)⟩
theorem re_new {M : cb_M} {m : Nat} {o : Option Nat} (hR : re_R M m) (hc : cb_gI M 0 0 8 = nI m) (hm : m < 3) : re_R (im_new (cb_sR M 25 0 1 o) m) (m + 1) := by
  obtain ⟨P, Q, A, c, t, hB, hmo, ⟨⟨i1, i2, i3, i4⟩, h34⟩, himg⟩ := re_B_iff.mp hR
  have ec : c = m := re_nI (i4.symm.trans hc) (by omega) (by omega)
  subst ec
  obtain ⟨M0, hM0⟩ : ∃ M0, M0 = im_new (cb_sR M 25 0 1 o) c := ⟨_, rfl⟩
  rw [← hM0]
  have kI : ∀ t i j, ¬ (16 ≤ t ∧ t ≤ 23 ∧ i = c + 1) → cb_gI M0 t i j = cb_gI M t i j := fun t i j w => by
    rw [hM0]
    exact if_neg (fun e => w (cb_mz_iff.mp e))
  have kR : ∀ j, cb_gR M0 0 0 j = cb_gR M 0 0 j := fun j => by
    rw [hM0]
    unfold im_new
    rw [cb_gR_sR, if_neg (by omega)]
    show (if cb_mz 0 0 (c + 1) = true then none else cb_gR (cb_sR M 25 0 1 o) 0 0 j) = _
    rw [if_neg (by intro w; have := cb_mz_iff.mp w; omega), cb_gR_sR, if_neg (by omega)]
  have kR2 : ∀ j, cb_gR M0 24 0 j = if j = c then some (c + 1) else cb_gR M 24 0 j := fun j => by
    rw [hM0]
    unfold im_new
    rw [cb_gR_sR]
    by_cases e : j = c
    · rw [if_pos ⟨rfl, rfl, e⟩, if_pos e]
    · rw [if_neg (fun w => e w.2.2), if_neg e]
      show (if cb_mz 24 0 (c + 1) = true then none else cb_gR (cb_sR M 25 0 1 o) 24 0 j) = _
      rw [if_neg (by intro w; have := cb_mz_iff.mp w; omega), cb_gR_sR, if_neg (by omega)]
  have hn := hB.2.1.1
  refine re_B_iff.mpr ⟨P, Q, A, c, t, re_B_keep (fun t i j w => kI t i j (by have := re_sb_to w; omega)) kR hB, re_mo_eq hn.2.1 hn.2.2 (fun a _ => kI _ _ _ (by have := (mo_c_sb a).2.1; omega)) (fun t j _ _ => kI t 0 j (by omega)) hmo, ⟨⟨by omega, by omega, fun j => ?_, (kI 0 0 8 (by omega)).trans i4⟩, (kI 46 0 34 (by omega)).trans h34⟩, fun k hk => re_mo_eq hn.2.1 hn.2.2 (fun a _ => kI 79 k a (by omega)) (fun t j _ _ => kI t (k + 1) j (by omega)) (himg k hk)⟩
  rw [kR2 j, i3 j]
  by_cases e : j = c
  · rw [if_pos e, if_pos (by omega), e]
  · rw [if_neg e]
    by_cases w : j < c
    · rw [if_pos w, if_pos (by omega)]
    · rw [if_neg w, if_neg (by omega)]
theorem re_img {M M2 : cb_M} {m c d : Nat} (hR : re_R M m) (hc : cb_gI M 0 0 8 = nI c) (hc3 : c < 3) (hcm : c < m) (hd : cb_gI M 16 0 0 = nI d) (hd4 : d ≤ 400) (h34 : cb_gI M2 46 0 34 = nI (c + 1)) (h2 : M2.2 = (im_end M c d).2) (hI2 : ∀ t i j, ¬ (t = 46 ∧ i = 0 ∧ (j = 0 ∨ j = 34 ∨ j = 35)) → ¬ (t = 79 ∧ i = c) → cb_gI M2 t i j = cb_gI (im_end M c d) t i j) (h79 : ∀ a, a < 6469 → cb_gI M2 79 c a = mo_g (im_end M c d) a) : re_R M2 m := by
  obtain ⟨P, Q, A, c', t, hB, hmo, ⟨⟨i1, i2, i3, i4⟩, -⟩, himg⟩ := re_B_iff.mp hR
  have ec : c' = c := re_nI (i4.symm.trans hc) (by omega) (by omega)
  subst ec
  have k1 : ∀ t i j, ¬ (16 ≤ t ∧ t ≤ 23 ∧ i = c' + 1) → ¬ (t = 0 ∧ i = 0 ∧ j = 8) → cb_gI (im_end M c' d) t i j = cb_gI M t i j := fun t i j w1 w2 => by
    unfold im_end
    rw [cb_gs_ne w2, mo_copy_ne M w1]
  have k2 : ∀ t i j, 16 ≤ t → t ≤ 23 → cb_gI M2 t i j = cb_gI (mo_copy M (c' + 1) 0 d) t i j := fun t i j w1 w2 => by
    rw [hI2 t i j (by omega) (by omega)]
    unfold im_end
    rw [cb_gs_ne (by omega)]
  have kR : ∀ t i j, cb_gR M2 t i j = cb_gR M t i j := fun t i j => by
    unfold cb_gR
    rw [h2]
    rfl
  have hn := hB.2.1.1
  have hg : ∀ a, mo_g (im_end M c' d) a = mo_g M a := fun a => k1 _ _ _ (by have := (mo_c_sb a).2.1; omega) (by have := (mo_c_sb a).2.1; omega)
  have hg2 : ∀ a, mo_g M2 a = mo_g M a := fun a => (hI2 _ _ _ (fun w => by
    have h1 := mo_c_ne a
    exact h1.2 ⟨w.1, by omega⟩) (fun w => (mo_c_sb a).2.2 w.1)).trans (hg a)
  refine re_B_iff.mpr ⟨P, Q, A, c' + 1, t, re_B_keep (fun t i j w => ?_) (fun j => kR 0 0 j) hB, re_mo_eq hn.2.1 hn.2.2 (fun a _ => hg2 a) (fun t j w1 w2 => ?_) hmo, ⟨⟨i1, by omega, fun j => (kR 24 0 j).trans (i3 j), ?_⟩, h34⟩, fun k hk => ?_⟩
  · have := re_sb_to w
    rw [hI2 t i j (by omega) (by omega), k1 t i j (by omega) (by omega)]
  · rw [k2 t 0 j w1 w2, mo_copy_ne M (by omega)]
  · rw [hI2 0 0 8 (by omega) (by omega)]
    unfold im_end
    rw [cb_gs_eq]
  · by_cases e : k = c'
    · subst e
      refine re_mo_cp hn.2.1 hn.2.2 hmo (fun a ha => (h79 a ha).trans (hg a)) ?_ (fun d' hd' ed => ?_)
      · rw [k2 16 (k + 1) 0 (by omega) (by omega), mo_copy_16]
      · have : d' = d := re_nI (ed.symm.trans hd) (by omega) (by omega)
        subst this
        obtain ⟨q1, q2, q3⟩ := mo_copy_at M (q := k + 1) (q2 := 0) (d := d') (by omega)
        refine ⟨fun i hi => ⟨?_, ?_, ?_, ?_⟩, fun l hl => ⟨?_, ?_⟩, fun x hx => ?_⟩
        · rw [k2 17 (k + 1) i (by omega) (by omega)]; exact (q1 i hi).1
        · rw [k2 18 (k + 1) i (by omega) (by omega)]; exact (q1 i hi).2.1
        · rw [k2 19 (k + 1) i (by omega) (by omega)]; exact (q1 i hi).2.2.1
        · rw [k2 22 (k + 1) i (by omega) (by omega)]; exact (q1 i hi).2.2.2
        · rw [k2 20 (k + 1) l (by omega) (by omega)]; exact (q2 l hl).1
        · rw [k2 21 (k + 1) l (by omega) (by omega)]; exact (q2 l hl).2
        · rw [k2 23 (k + 1) x (by omega) (by omega)]; exact q3 x hx
    · refine re_mo_eq hn.2.1 hn.2.2 (fun a _ => ?_) (fun t j w1 w2 => ?_) (himg k (by omega))
      · rw [hI2 79 k a (by omega) (by omega), k1 79 k a (by omega) (by omega)]
      · rw [k2 t (k + 1) j w1 w2, mo_copy_ne M (by omega)]
theorem re_rest {M M2 : cb_M} {m c d : Nat} (hR : re_R M m) (hc : cb_gI M 0 0 8 = nI c) (hc3 : c ≤ 3) (hc0 : 0 < c) (hd : cb_gI M 16 c 0 = nI d) (hd4 : d ≤ 400) (h34 : cb_gI M2 46 0 34 = nI (c - 1)) (h2 : M2.2 = (mo_copy (cb_sI M 0 0 8 (nI (c - 1))) 0 c d).2) (hI2 : ∀ t i j, ¬ (t = 46 ∧ i = 0 ∧ (j = 0 ∨ j = 34 ∨ j = 35)) → (∀ a, a < 6469 → ¬ mo_c a = (t, i, j)) → cb_gI M2 t i j = cb_gI (mo_copy (cb_sI M 0 0 8 (nI (c - 1))) 0 c d) t i j) (hg : ∀ a, a < 6469 → mo_g M2 a = cb_gI (mo_copy (cb_sI M 0 0 8 (nI (c - 1))) 0 c d) 79 (c - 1) a) : re_R M2 m := by
  obtain ⟨P, Q, A, c', t, hB, hmo, ⟨⟨i1, i2, i3, i4⟩, -⟩, himg⟩ := re_B_iff.mp hR
  have ec : c' = c := re_nI (i4.symm.trans hc) (by omega) (by omega)
  subst ec
  have k1 : ∀ t i j, ¬ (16 ≤ t ∧ t ≤ 23 ∧ i = 0) → ¬ (t = 0 ∧ i = 0 ∧ j = 8) → cb_gI (mo_copy (cb_sI M 0 0 8 (nI (c' - 1))) 0 c' d) t i j = cb_gI M t i j := fun t i j w1 w2 => by
    rw [mo_copy_ne _ w1, cb_gs_ne w2]
  have nc : ∀ t i j, re_sb t j = true ∨ t < 46 ∨ t = 79 → ∀ a, a < 6469 → ¬ mo_c a = (t, i, j) := fun t i j w a _ e => by
    obtain ⟨s1, s2, s3⟩ := mo_c_sb a
    rw [e] at s1 s2 s3
    rcases w with w | w | w
    · have s1 : re_sb t j = false := s1
      rw [w] at s1
      cases s1
    · have s2 : 46 ≤ t := s2
      omega
    · exact s3 w
  have kR : ∀ t i j, cb_gR M2 t i j = cb_gR M t i j := fun t i j => by
    unfold cb_gR
    rw [h2]
    rfl
  have k2 : ∀ t i j, 16 ≤ t → t ≤ 23 → cb_gI M2 t i j = cb_gI (mo_copy (cb_sI M 0 0 8 (nI (c' - 1))) 0 c' d) t i j := fun t i j w1 w2 => hI2 t i j (by omega) (nc t i j (by omega))
  have hn := hB.2.1.1
  refine re_B_iff.mpr ⟨P, Q, A, c' - 1, t, re_B_keep (fun t i j w => ?_) (fun j => kR 0 0 j) hB, ?_, ⟨⟨i1, by omega, fun j => (kR 24 0 j).trans (i3 j), ?_⟩, h34⟩, fun k hk => ?_⟩
  · have := re_sb_to w
    rw [hI2 t i j (by omega) (nc t i j (Or.inl w)), k1 t i j (by omega) (by omega)]
  · have hmc := himg (c' - 1) (by omega)
    rw [show c' - 1 + 1 = c' by omega] at hmc
    refine re_mo_cp (M := M) (q := c') hn.2.1 hn.2.2 hmc (fun a ha => (hg a ha).trans (k1 79 (c' - 1) a (by omega) (by omega))) ?_ (fun d' hd' ed => ?_)
    · rw [k2 16 0 0 (by omega) (by omega), mo_copy_16, cb_gs_ne (by omega)]
    · have : d' = d := re_nI (ed.symm.trans hd) (by omega) (by omega)
      subst this
      obtain ⟨q1, q2, q3⟩ := mo_copy_at (cb_sI M 0 0 8 (nI (c' - 1))) (q := 0) (q2 := c') (d := d') (by omega)
      have z : ∀ t j, 16 ≤ t → cb_gI (cb_sI M 0 0 8 (nI (c' - 1))) t c' j = cb_gI M t c' j := fun t j w => cb_gs_ne (by omega)
      refine ⟨fun i hi => ⟨?_, ?_, ?_, ?_⟩, fun l hl => ⟨?_, ?_⟩, fun x hx => ?_⟩
      · rw [k2 17 0 i (by omega) (by omega), (q1 i hi).1, z 17 i (by omega)]
      · rw [k2 18 0 i (by omega) (by omega), (q1 i hi).2.1, z 18 i (by omega)]
      · rw [k2 19 0 i (by omega) (by omega), (q1 i hi).2.2.1, z 19 i (by omega)]
      · rw [k2 22 0 i (by omega) (by omega), (q1 i hi).2.2.2, z 22 i (by omega)]
      · rw [k2 20 0 l (by omega) (by omega), (q2 l hl).1, z 20 l (by omega)]
      · rw [k2 21 0 l (by omega) (by omega), (q2 l hl).2, z 21 l (by omega)]
      · rw [k2 23 0 x (by omega) (by omega), q3 x hx, z 23 x (by omega)]
  · rw [hI2 0 0 8 (by omega) (nc 0 0 8 (by omega)), mo_copy_ne _ (by omega), cb_gs_eq]
  · refine re_mo_eq hn.2.1 hn.2.2 (fun a _ => ?_) (fun t j w1 w2 => ?_) (himg k (by omega))
    · rw [hI2 79 k a (by omega) (nc 79 k a (by omega)), k1 79 k a (by omega) (by omega)]
    · rw [k2 t (k + 1) j w1 w2, k1 t (k + 1) j (by omega) (by omega)]
