/-! ===== feed: of both ===== -/
theorem by_sr (X : BitVec 32) {s : Nat} (hs : s = 0 ∨ s = 8 ∨ s = 16 ∨ s = 24) : (X.sshiftRight s).toNat % 256 = (X.toNat / 2 ^ s) % 256 := by
  have h1 : (X.sshiftRight s).toInt = X.toInt / ((2 ^ s : Nat) : Int) := by
    rw [BitVec.toInt_sshiftRight, Int.shiftRight_eq_div_pow]
  have h2 := BitVec.toInt_eq_toNat_cond X
  have h3 := BitVec.toInt_eq_toNat_cond (X.sshiftRight s)
  have h4 := X.isLt
  have h5 := (X.sshiftRight s).isLt
  generalize (X.sshiftRight s).toNat = z at *
  generalize (X.sshiftRight s).toInt = zi at *
  generalize X.toNat = n at *
  generalize X.toInt = ni at *
  subst h1
  rcases hs with rfl | rfl | rfl | rfl <;> split at h2 <;> split at h3 <;> omega
theorem by_y (x : Int32) {s : Nat} (hs : s = 0 ∨ s = 8 ∨ s = 16 ∨ s = 24) : (x >>> nI s) &&& 255 = nI ((x.toBitVec.toNat / 2 ^ s) % 256) := by
  rw [← by_sr x.toBitVec hs]
  refine Int32.toBitVec_inj.mp (BitVec.eq_of_toNat_eq ?_)
  have e1 : (x >>> nI s).toBitVec = x.toBitVec.sshiftRight s := by
    rw [Int32.toBitVec_shiftRight]
    rcases hs with rfl | rfl | rfl | rfl <;> rfl
  have e2 : ((255 : Int32).toBitVec).toNat = 2 ^ 8 - 1 := rfl
  rw [Int32.toBitVec_and, BitVec.toNat_and, e1, e2, Nat.and_two_pow_sub_one_eq_mod]
  have hb : (x.toBitVec.sshiftRight s).toNat % 256 < 256 := Nat.mod_lt _ (by decide)
  generalize (x.toBitVec.sshiftRight s).toNat % 256 = k at hb
  show k = (nI k).toBitVec.toNat
  have key : ∀ k, k < 256 → k = (nI k).toBitVec.toNat := by decide +kernel
  exact key k hb
theorem by_x (x : Int32) {r : Nat} (hr : r < 4) : wf_b x r = if (x.toBitVec.toNat / 2 ^ (24 - 8 * r)) % 256 < 128 then nI ((x.toBitVec.toNat / 2 ^ (24 - 8 * r)) % 256) else nI ((x.toBitVec.toNat / 2 ^ (24 - 8 * r)) % 256) - 256 := by
  have e1 : (cb_ush x (nI (24 - 8 * r))).toInt8.toBitVec = BitVec.ofNat 8 ((x.toBitVec.toNat / 2 ^ (24 - 8 * r)) % 256) := by
    refine BitVec.eq_of_toNat_eq ?_
    have e0 : (cb_ush x (nI (24 - 8 * r))).toBitVec = x.toBitVec >>> (24 - 8 * r) := by
      have : r = 0 ∨ r = 1 ∨ r = 2 ∨ r = 3 := by omega
      rcases this with rfl | rfl | rfl | rfl <;> rfl
    rw [Int32.toBitVec_toInt8, e0, BitVec.signExtend_eq_setWidth_of_le _ (by decide), BitVec.toNat_setWidth, BitVec.toNat_ushiftRight, Nat.shiftRight_eq_div_pow, BitVec.toNat_ofNat]
    omega
  have hb : (x.toBitVec.toNat / 2 ^ (24 - 8 * r)) % 256 < 256 := Nat.mod_lt _ (by decide)
  generalize (x.toBitVec.toNat / 2 ^ (24 - 8 * r)) % 256 = k at e1 hb
  have e2 : wf_b x r = (Int8.ofBitVec (BitVec.ofNat 8 k)).toInt32 := by
    unfold wf_b
    have e3 : (cb_ush x (nI (24 - 8 * r))).toInt8 = Int8.ofBitVec (BitVec.ofNat 8 k) := Int8.toBitVec_inj.mp e1
    rw [e3]
    have key : ∀ k, k < 256 → vp_nar .byte (Int8.ofBitVec (BitVec.ofNat 8 k)).toInt32 = (Int8.ofBitVec (BitVec.ofNat 8 k)).toInt32 := by decide +kernel
    exact key k hb
  rw [e2]
  have key : ∀ k, k < 256 → (Int8.ofBitVec (BitVec.ofNat 8 k)).toInt32 = if k < 128 then nI k else nI k - 256 := by decide +kernel
  exact key k hb
theorem by_xy (x : Int32) {r : Nat} (hr : r < 4) : re_by (wf_b x r) ((x >>> nI (24 - 8 * r)) &&& 255) := ⟨(x.toBitVec.toNat / 2 ^ (24 - 8 * r)) % 256, Nat.mod_lt _ (by decide), by_y x (by omega), by_x x hr⟩
theorem wf_put_ne (M : cb_M) (t : Nat) (x : Int32) {T i j : Nat} (h1 : ¬ (T = 2 ∧ i = 0 ∧ t ≤ j ∧ j < t + 4)) (h2 : ¬ (T = 0 ∧ i = 0 ∧ j = 1)) : cb_gI (wf_put M t x) T i j = cb_gI M T i j := by
  unfold wf_put wf_p1
  rw [cb_gs_ne (by omega), cb_gs_ne (by omega), cb_gs_ne (by omega), cb_gs_ne (by omega), cb_gs_ne (by omega), cb_gs_ne (by omega), cb_gs_ne (by omega), cb_gs_ne (by omega)]
theorem wf_put_at (M : cb_M) (t : Nat) (x : Int32) {r : Nat} (hr : r < 4) : cb_gI (wf_put M t x) 2 0 (t + r) = wf_b x r := by
  unfold wf_put wf_p1
  have : r = 0 ∨ r = 1 ∨ r = 2 ∨ r = 3 := by omega
  rcases this with rfl | rfl | rfl | rfl
  · rw [cb_gs_ne (by omega), cb_gs_ne (by omega), cb_gs_ne (by omega), cb_gs_ne (by omega), cb_gs_ne (by omega), cb_gs_ne (by omega), cb_gs_ne (by omega), cb_gs_eq]
  · rw [cb_gs_ne (by omega), cb_gs_ne (by omega), cb_gs_ne (by omega), cb_gs_ne (by omega), cb_gs_ne (by omega), cb_gs_eq]
  · rw [cb_gs_ne (by omega), cb_gs_ne (by omega), cb_gs_ne (by omega), cb_gs_eq]
  · rw [cb_gs_ne (by omega), cb_gs_eq]
theorem wf_feed_ne (M : cb_M) (t : Nat) (a b c d e : Int32) {T i j : Nat} (h1 : ¬ (T = 2 ∧ i = 0 ∧ t ≤ j ∧ j < t + 20)) (h2 : ¬ (T = 0 ∧ i = 0 ∧ j = 1)) : cb_gI (wf_feed M t a b c d e) T i j = cb_gI M T i j := by
  unfold wf_feed
  rw [wf_put_ne _ _ _ (by omega) h2, wf_put_ne _ _ _ (by omega) h2, wf_put_ne _ _ _ (by omega) h2, wf_put_ne _ _ _ (by omega) h2, wf_put_ne _ _ _ (by omega) h2]
theorem mf_s : ∀ r, r < 4 → (24 - 8 * cb_rem (nI r) 4) &&& 31 = nI (24 - 8 * r) ∧ (24 - 8 * cb_rem (nI (4 + r)) 4) &&& 31 = nI (24 - 8 * r) ∧ (24 - 8 * cb_rem (nI (8 + r)) 4) &&& 31 = nI (24 - 8 * r) ∧ (24 - 8 * cb_rem (nI (12 + r)) 4) &&& 31 = nI (24 - 8 * r) ∧ (24 - 8 * cb_rem (nI (16 + r)) 4) &&& 31 = nI (24 - 8 * r) := by decide +kernel
theorem wf_feed_by (M : cb_M) (t : Nat) (a b c d e : Int32) {k : Nat} (hk : k < 20) : re_by (cb_gI (wf_feed M t a b c d e) 2 0 (t + k)) (mf_b a b c d e k) := by
  unfold wf_feed mf_b mf_v
  obtain ⟨q, r, hq, hr, rfl⟩ : ∃ q r, q < 5 ∧ r < 4 ∧ k = 4 * q + r := ⟨k / 4, k % 4, by omega, by omega, by omega⟩
  obtain ⟨s0, s1, s2, s3, s4⟩ := mf_s r hr
  have : q = 0 ∨ q = 1 ∨ q = 2 ∨ q = 3 ∨ q = 4 := by omega
  rcases this with rfl | rfl | rfl | rfl | rfl
  · rw [show 4 * 0 + r = r by omega, if_pos (by omega), s0, wf_put_ne _ _ _ (by omega) (by omega), wf_put_ne _ _ _ (by omega) (by omega), wf_put_ne _ _ _ (by omega) (by omega), wf_put_ne _ _ _ (by omega) (by omega), wf_put_at _ _ _ hr]
    exact by_xy a hr
  · rw [show 4 * 1 + r = 4 + r by omega, if_neg (by omega), if_pos (by omega), s1, show t + (4 + r) = t + 4 + r by omega, wf_put_ne _ _ _ (by omega) (by omega), wf_put_ne _ _ _ (by omega) (by omega), wf_put_ne _ _ _ (by omega) (by omega), wf_put_at _ _ _ hr]
    exact by_xy b hr
  · rw [show 4 * 2 + r = 8 + r by omega, if_neg (by omega), if_neg (by omega), if_pos (by omega), s2, show t + (8 + r) = t + 8 + r by omega, wf_put_ne _ _ _ (by omega) (by omega), wf_put_ne _ _ _ (by omega) (by omega), wf_put_at _ _ _ hr]
    exact by_xy c hr
  · rw [show 4 * 3 + r = 12 + r by omega, if_neg (by omega), if_neg (by omega), if_neg (by omega), if_pos (by omega), s3, show t + (12 + r) = t + 12 + r by omega, wf_put_ne _ _ _ (by omega) (by omega), wf_put_at _ _ _ hr]
    exact by_xy d hr
  · rw [show 4 * 4 + r = 16 + r by omega, if_neg (by omega), if_neg (by omega), if_neg (by omega), if_neg (by omega), s4, show t + (16 + r) = t + 16 + r by omega, wf_put_at _ _ _ hr]
    exact by_xy e hr
theorem wf_feed_t (M : cb_M) (t : Nat) (a b c d e : Int32) : cb_gI (wf_feed M t a b c d e) 0 0 1 = nI (t + 20) := by
  unfold wf_feed
  rw [wf_put_t]
theorem re_feed {M : cb_M} {m : Nat} (hR : re_R M m) (a b c d e : Int32) : sp_X9_feed [cb_i a, cb_i b, cb_i c, cb_i d, cb_i e] M (re_post re_c0 sp_X10_feed [cb_i a, cb_i b, cb_i c, cb_i d, cb_i e] m) := by
  obtain ⟨P, Q, A, cc, t, ⟨h1, hW, hV, hS, ⟨⟨t1, t2, t6⟩, tb⟩, h9, h10⟩, hmo, ⟨⟨i1, i2, i3, i4⟩, h34⟩, himg⟩ := re_B_iff.mp hR
  refine Exists.intro t (And.intro ⟨t1, t6⟩ (And.intro (fun w Z => Exists.intro t (And.intro ⟨t2, t6⟩ (And.intro (fun _ => re_tR hR rfl) (fun w2 => absurd w2 (by omega))))) (fun w => ?_)))
  obtain ⟨M1, hM1⟩ : ∃ M1, M1 = wf_feed M t a b c d e := ⟨_, rfl⟩
  rw [← hM1]
  have k1 : ∀ T i j, ¬ T = 2 → ¬ (T = 0 ∧ j = 1) → cb_gI M1 T i j = cb_gI M T i j := fun T i j w1 w2 => by
    rw [hM1]
    exact wf_feed_ne M t a b c d e (by omega) (by omega)
  intro Z
  refine Exists.intro t (And.intro ⟨(k1 46 0 1 (by omega) (by omega)).trans t2, t6⟩ (And.intro (fun w2 => absurd w (by omega)) (fun _ M9 hF h0 hn hold hnew => ⟨rfl, h0, re_fr hF, ?_⟩)))
  have hF : cb_fr fr_F M1 (re_lz M9 M1.2.2) := (re_frZ hF).2
  refine re_R.un (Z := M1.2.2) ?_
  obtain ⟨M2, hM2⟩ : ∃ M2, M2 = re_lz M9 M1.2.2 := ⟨_, rfl⟩
  have h0 : cb_gI M2 46 0 0 = 0 := by rw [hM2]; exact h0
  have hn : cb_gI M2 46 0 1 = nI (t + 20) := by rw [hM2]; exact hn
  have hold : ∀ j, ¬ (t ≤ j ∧ j < t + 20) → cb_gI M2 47 0 j = cb_gI M1 47 0 j := by rw [hM2]; exact hold
  have hnew : ∀ k, k < 20 → cb_gI M2 47 0 (t + k) = mf_b a b c d e k := by rw [hM2]; exact hnew
  rw [← hM2] at hF ⊢
  clear hM2
  have f0 : ∀ T j, ¬ T = 47 → ¬ (T = 46 ∧ (j = 0 ∨ j = 1)) → fr_F T j = false := fun T j w1 w2 => by
    cases e : fr_F T j with
    | false => rfl
    | true =>
      unfold fr_F at e
      simp only [Bool.or_eq_true, Bool.and_eq_true, Nat.beq_eq] at e
      omega
  have k2 : ∀ T i j, ¬ T = 2 → ¬ (T = 0 ∧ j = 1) → ¬ T = 47 → ¬ (T = 46 ∧ (j = 0 ∨ j = 1)) → cb_gI M2 T i j = cb_gI M T i j := fun T i j w1 w2 w3 w4 => (hF.1 T i j (f0 T j w3 w4)).trans (k1 T i j w1 w2)
  have kf : ∀ T i, ¬ T = 2 → ¬ T = 0 → ¬ T = 47 → ¬ T = 46 → cb_gI M2 T i = cb_gI M T i := fun T i w1 w2 w3 w4 => funext fun j => k2 T i j w1 (by omega) w3 (by omega)
  have kR : ∀ T i j, cb_gR M2 T i j = cb_gR M T i j := fun T i j => by
    rw [hF.ref, hM1]
    rfl
  have hnn := hW.1
  refine re_B_iff.mpr ⟨P, Q, A, cc, t + 20, ⟨?_, hW, ?_, ?_, ⟨⟨?_, hn, by omega⟩, fun j hj => ?_⟩, ?_, ?_⟩, re_mo_eq hnn.2.1 hnn.2.2 (fun s _ => k2 _ _ _ (by have := (mo_c_sb s).2.1; omega) (by have := (mo_c_sb s).2.1; omega) ?_ ?_) (fun T j _ _ => k2 T 0 j (by omega) (by omega) (by omega) (by omega)) hmo, ⟨⟨i1, i2, fun j => (kR 24 0 j).trans (i3 j), (k2 0 0 8 (by omega) (by omega) (by omega) (by omega)).trans i4⟩, (k2 46 0 34 (by omega) (by omega) (by omega) (by omega)).trans h34⟩, fun x hx => re_mo_eq hnn.2.1 hnn.2.2 (fun s _ => k2 79 x s (by omega) (by omega) (by omega) (by omega)) (fun T j _ _ => k2 T (x + 1) j (by omega) (by omega) (by omega) (by omega)) (himg x hx)⟩
  · rw [kR, kR]
    exact h1
  · unfold re_V
    rw [kf 3 P (by omega) (by omega) (by omega) (by omega), kf 4 P (by omega) (by omega) (by omega) (by omega), kf 7 P (by omega) (by omega) (by omega) (by omega), kf 8 P (by omega) (by omega) (by omega) (by omega), kf 9 P (by omega) (by omega) (by omega) (by omega), kf 10 P (by omega) (by omega) (by omega) (by omega), kf 11 P (by omega) (by omega) (by omega) (by omega), kf 14 P (by omega) (by omega) (by omega) (by omega), kf 15 P (by omega) (by omega) (by omega) (by omega)]
    exact hV
  · unfold re_S
    have e63 : ∀ i, cb_gI M2 63 i = cb_gI M 63 i := fun i => kf 63 i (by omega) (by omega) (by omega) (by omega)
    simp only [e63]
    rw [kf 49 0 (by omega) (by omega) (by omega) (by omega), kf 51 0 (by omega) (by omega) (by omega) (by omega), kf 66 0 (by omega) (by omega) (by omega) (by omega), kf 67 0 (by omega) (by omega) (by omega) (by omega), kf 68 0 (by omega) (by omega) (by omega) (by omega), kf 55 0 (by omega) (by omega) (by omega) (by omega), kf 53 0 (by omega) (by omega) (by omega) (by omega)]
    exact hS
  · rw [hF.1 0 0 1 rfl, hM1]
    exact wf_feed_t M t a b c d e
  · rw [hF.1 2 0 j rfl]
    by_cases q : j < t
    · rw [hold j (by omega), k1 47 0 j (by omega) (by omega), hM1, wf_feed_ne M t a b c d e (by omega) (by omega)]
      exact tb j q
    · obtain ⟨k, rfl⟩ : ∃ k, j = t + k := ⟨j - t, by omega⟩
      rw [hnew k (by omega), hM1]
      exact wf_feed_by M t a b c d e (by omega)
  · rw [k2 0 0 3 (by omega) (by omega) (by omega) (by omega), k2 46 0 3 (by omega) (by omega) (by omega) (by omega)]
    exact h9
  · rw [k2 46 0 41 (by omega) (by omega) (by omega) (by omega), k2 46 0 44 (by omega) (by omega) (by omega) (by omega), k2 46 0 45 (by omega) (by omega) (by omega) (by omega)]
    exact h10
  · intro w
    have s1 := (mo_c_sb s).1
    rw [w] at s1
    cases s1
  · intro w
    exact (mo_c_ne s).2 ⟨w.1, by omega⟩
