/-! ===== what comes when clocks are taken down ===== -/
def wk_W (M : cb_M) (P n : Nat) : Prop := wk_T M P n ∧ wk_B M n ∧ cb_gR M 25 0 1 = some 0 ∧ (∀ i, i < n → 1 ≤ 100 * cb_gI M 8 P i) ∧ cb_gI M 3 P 1 = nI n
/-- the trial can go on -/
def wk_Q (M : cb_M) (P n : Nat) : Prop := wk_W M P n ∧ wk_Ph M n ∧ ∃ m, wk_R M P n m
def fr_q (t j : Nat) : Bool := fr_t t j || fr_k t j
theorem fr_t_q : ∀ t j, fr_t t j = true → fr_q t j = true := fun t j h => by unfold fr_q; rw [h]; rfl
theorem fr_k_q : ∀ t j, fr_k t j = true → fr_q t j = true := fun t j h => by unfold fr_q; rw [h]; simp
theorem wk_W_fq {M M' : cb_M} (h : cb_fr fr_q M M') {P n : Nat} (hW : wk_W M P n) : wk_W M' P n := by
  obtain ⟨⟨h1, h2, h3, h4⟩, hB, h5, h6, h7⟩ := hW
  refine ⟨⟨(h.ref 25 0 0).trans h1, h2, (h.1 25 0 2 rfl).trans h3, h4⟩, ?_, (h.ref 25 0 1).trans h5, ?_, (h.1 3 P 1 rfl).trans h7⟩
  · unfold wk_B at *
    rw [h.fn 29 0 (fun _ => rfl), h.fn 30 0 (fun _ => rfl)]
    exact hB
  · rw [h.fn 8 P (fun _ => rfl)]
    exact h6
theorem wk_c_fq {M M' : cb_M} (h : cb_fr fr_q M M') (P n : Nat) : wk_c M' P n = wk_c M P n := by
  unfold wk_c
  rw [h.fn 9 P (fun _ => rfl), h.fn 29 0 (fun _ => rfl), h.fn 30 0 (fun _ => rfl), h.fn 8 P (fun _ => rfl), h.fn 4 P (fun _ => rfl), h.fn 11 P (fun _ => rfl), h.fn 26 0 (fun _ => rfl), h.fn 14 P (fun _ => rfl)]
theorem wt_c_fq {M M' : cb_M} (h : cb_fr fr_q M M') (P n : Nat) : wt_c M' P n = wt_c M P n := by
  unfold wt_c
  rw [wk_c_fq h, h.fn 9 P (fun _ => rfl), h.fn 29 0 (fun _ => rfl), h.fn 8 P (fun _ => rfl), h.fn 11 P (fun _ => rfl), h.fn 26 0 (fun _ => rfl)]
theorem wb_s_fq {M M' : cb_M} (h : cb_fr fr_q M M') (P n : Nat) : wb_s M' P n = wb_s M P n := by
  unfold wb_s
  rw [h.1 16 0 0 rfl, h.fn 10 P (fun _ => rfl), h.fn 17 0 (fun _ => rfl)]
theorem wk_Q_fr {M M' : cb_M} (h : cb_fr fr_t M M') {P n : Nat} (hQ : wk_Q M P n) (hp : wk_Ph M' n) : wk_Q M' P n := by
  obtain ⟨hW, -, m, hR⟩ := hQ
  exact ⟨wk_W_fq (h.mono fr_t_q) hW, hp, m, wk_R_fr h hR⟩
def wu_of (n : Nat) (those aw : Int32) : wm_U := (fun i => decide (i < n) && cb_bit those i, decide (¬ aw = 0))
def wq_tr (c : wn_C) (dp : wm_F) (b : wm_S) (those aw : Int32) (k : Nat) : wm_S := wn_days c (wu_of c.n those aw) dp b k
/-- begin, with those up, and go so many days -/
def wk_try (M : cb_M) (P n : Nat) (those : Int32) (k : Nat) : wm_S := wq_tr (wt_c M P n) (cb_gI M 15 P) (wb_s M P n) those (cb_gI M 25 0 10) k
theorem wk_try_fq {M M' : cb_M} (h : cb_fr fr_q M M') (P n : Nat) (those : Int32) (k : Nat) : wk_try M' P n those k = wk_try M P n those k := by
  unfold wk_try
  rw [wt_c_fq h, wb_s_fq h, h.fn 15 P (fun _ => rfl), h.1 25 0 10 rfl]
def sp_X0_tryOnly : cb_Sp := fun _ r M K => match r with
  | [.inl those, .inl N] => ∃ P n k, (wk_W M P n ∧ N = nI k ∧ k < 2 ^ 31) ∧ ∀ M', cb_fr fr_q M M' → wk_Q M' P n → cb_gI M' 25 0 9 = those → wt_s M' n = wk_try M P n those k → K none M'
  | _ => False
def pt_X0_tryOnly : cb_PT := cb_m 39 2 sp_X0_tryOnly
theorem rc_X0_tryOnly : cb_rc cb_tb RX0 pt_X0_tryOnly := cb_m_rc rfl rfl
def md_X0_tryOnly : cb_D := (RX0, cX0_tryOnly, 3, none, (0, 0, 5, 111), [
  (0, .aload_n 0, 1, 0, 0, 0, 0),
  (1, .getfield 15, 3, 0, 0, 0, 312),
  (4, .iload_n 1, 1, 0, 1, 0, 0),
  (5, .invokevirtual 19, 3, 0, 0, 0, 0),
  (8, .aload_n 0, 1, 0, 0, 0, 0),
  (9, .getfield 15, 3, 0, 0, 0, 312),
  (12, .invokevirtual 25, 3, 0, 1, 0, 0),
  (15, .aload_n 0, 1, 0, 0, 0, 0),
  (16, .getfield 15, 3, 0, 0, 0, 312),
  (19, .iload_n 2, 1, 0, 2, 0, 0),
  (20, .invokevirtual 28, 3, 0, 2, 0, 0),
  (23, .return_, 1, 0, 0, 0, 0)],
  [(0, 19, 2, 0, 0, pt_X7_keepUp), (0, 25, 1, 0, 0, pt_X7_begin), (0, 28, 2, 0, 0, pt_X7_goDays)], [])
set_option maxRecDepth 100000 in
theorem vd_X0_tryOnly : md_X0_tryOnly.cd.all (cb_vE md_X0_tryOnly) = true := by decide +kernel
theorem wd_X0_tryOnly : cb_wd yX0_tryOnly md_X0_tryOnly := ⟨cb_tw (i := 1022) (by decide +kernel), cb_tw (i := 7) (by decide +kernel), by decide, by decide⟩
theorem cs_X0_tryOnly : ∀ X, cb_Bs md_X0_tryOnly X → ∀ g ∈ md_X0_tryOnly.ga, cb_CS cb_tb md_X0_tryOnly X g := fun X B => List.forall_mem_cons.mpr ⟨cb_csV B ok_X7_keepUp wd_X7_keepUp (cb_tw (i := 1023) (by decide +kernel)) (cb_tw (i := 436) (by decide +kernel)) (cb_tw (i := 437) (by decide +kernel)) rc_X7_keepUp ⟨by decide, by decide⟩ (by decide +kernel), List.forall_mem_cons.mpr ⟨cb_csV B ok_X7_begin wd_X7_begin (cb_tw (i := 1024) (by decide +kernel)) (cb_tw (i := 454) (by decide +kernel)) (cb_tw (i := 455) (by decide +kernel)) rc_X7_begin ⟨by decide, by decide⟩ (by decide +kernel), List.forall_mem_cons.mpr ⟨cb_csV B ok_X7_goDays wd_X7_goDays (cb_tw (i := 1016) (by decide +kernel)) (cb_tw (i := 892) (by decide +kernel)) (cb_tw (i := 893) (by decide +kernel)) rc_X7_goDays ⟨by decide, by decide⟩ (by decide +kernel), fun _ h => nomatch h⟩⟩⟩
theorem ok_X0_tryOnly : cb_MOK cb_tb yX0_tryOnly md_X0_tryOnly pt_X0_tryOnly := by
  refine cb_okm ⟨plainFor_of_name (by decide), rfl⟩ (by decide) cs_X0_tryOnly (by decide) (fun X n0 f i r M hr ha h => ?_)
  have h0 := cb_a1 (T := 39) rfl ha
  subst h0
  match r, hr, h with
  | [.inl those, .inl N], hr, h =>
    obtain ⟨P, n, k, ⟨hW, hN, hk⟩, h⟩ := h
    obtain ⟨hT, hB, hq, hwt, hpn⟩ := id hW
    refine cb_run cb_tb_ok vd_X0_tryOnly (cuts := []) 90 ?_
    refine And.intro (cb_on rfl) ⟨P, n, ⟨hT, hB⟩, fun M5 m hF5 hu5 hbm5 hm5 hpr5 => ?_⟩
    have R5 : wk_R M5 P n m := ⟨wk_T_fk hF5 hT, hbm5, hm5, hpr5, fun i hi => by rw [hF5.1 8 P i rfl]; exact hwt i hi⟩
    refine And.intro (cb_on rfl) ⟨P, n, ⟨wk_T_fk hF5 hT, (hF5.ref 25 0 1).trans hq⟩, fun M6 hF6 hs6 hph6 => ?_⟩
    have R6 := wk_R_fr hF6 R5
    refine And.intro (cb_on rfl) ⟨P, n, m, k, ⟨R6, hph6, hN, hk⟩, fun M7 hF7 hs7 hph7 => And.intro rfl ?_⟩
    have hF : cb_fr fr_q M M6 := (hF5.mono fr_k_q).trans (hF6.mono fr_t_q)
    have u6 : cb_gI M6 25 0 9 = those := (hF6.1 25 0 9 rfl).trans hu5
    refine h M7 (hF.trans (hF7.mono fr_t_q)) ⟨wk_W_fq (hF.trans (hF7.mono fr_t_q)) hW, hph7, m, wk_R_fr hF7 R6⟩ ((hF7.1 25 0 9 rfl).trans u6) ?_
    rw [hs7, hs6]
    unfold wk_try wq_tr
    rw [wt_c_fq hF, hF.fn 15 P (fun _ => rfl), wb_s_fq (hF5.mono fr_k_q)]
    have : wt_u M6 n = wu_of n those (cb_gI M 25 0 10) := by
      unfold wt_u wu_of
      rw [u6, hF.1 25 0 10 rfl]
    rw [this]
    rfl
def wq_r (w up : Int32) (s : wm_S) (n : Nat) : Int32 := wm_rts w s.2.2 n &&& up
def wm_b1 (i : Nat) : Int32 := (1 : Int32) <<< (nI i &&& 31)
def wm_wo (x y : Int32) : Int32 := x &&& (y ^^^ (-1))
theorem wm_mask_cong {p q : Nat → Bool} : ∀ {n : Nat}, (∀ i, i < n → p i = q i) → wm_mask p n = wm_mask q n
  | 0, _ => rfl
  | n + 1, h => by rw [wm_mask, wm_mask, wm_mask_cong (fun i hi => h i (by omega)), h n (by omega)]
theorem wq_r_s {M : cb_M} {n : Nat} (w up : Int32) : wm_rts w (cb_gI M 28 0) n &&& up = wq_r w up (wt_s M n) n := by
  unfold wq_r wm_rts
  rw [wm_mask_cong (q := fun i => wm_rgt w ((wt_s M n).2.2 i)) (fun i hi => by rw [show (wt_s M n).2.2 i = cb_gI M 28 0 i from wn_tr_lt hi])]
/-- the days gone on from where the trial stands -/
def wk_on (M : cb_M) (P n k : Nat) : wm_S := wn_days (wt_c M P n) (wt_u M n) (cb_gI M 15 P) (wt_s M n) k
def sp_X0_fallOut : cb_Sp := fun _ r M K => match r with
  | [.inl x, .inl N] => ∃ P n k i, (wk_Q M P n ∧ N = nI k ∧ k < 2 ^ 31 ∧ x = nI i ∧ i < n) ∧ ∀ M', cb_fr fr_q M M' → K (some (cb_i (wm_wo (wm_wo (wq_r (cb_gI M 3 P 4) (cb_gI M 25 0 9) (wk_on M P n k) n) (wm_b1 i)) (wq_r (cb_gI M 3 P 4) (wm_wo (wm_all (nI n)) (wm_b1 i)) (wk_try M P n (wm_wo (wm_all (nI n)) (wm_b1 i)) k) n)))) M'
  | _ => False
def pt_X0_fallOut : cb_PT := cb_m 39 2 sp_X0_fallOut
theorem rc_X0_fallOut : cb_rc cb_tb RX0 pt_X0_fallOut := cb_m_rc rfl rfl
def md_X0_fallOut : cb_D := (RX0, cX0_fallOut, 4, (some .int), (0, 0, 6, 133), [
  (0, .aload_n 0, 1, 0, 0, 0, 0),
  (1, .getfield 15, 3, 0, 0, 0, 312),
  (4, .iload_n 2, 1, 0, 2, 0, 0),
  (5, .invokevirtual 28, 3, 0, 0, 0, 0),
  (8, .aload_n 0, 1, 0, 0, 0, 0),
  (9, .getfield 15, 3, 0, 0, 0, 312),
  (12, .invokevirtual 31, 3, 0, 1, 0, 0),
  (15, .istore_n 3, 1, 0, 3, 0, 0),
  (16, .aload_n 0, 1, 0, 0, 0, 0),
  (17, .aload_n 0, 1, 0, 0, 0, 0),
  (18, .getfield 15, 3, 0, 0, 0, 312),
  (21, .getfield 35, 3, 0, 7, 0, 219),
  (24, .invokevirtual 39, 3, 0, 2, 0, 0),
  (27, .iconst 1, 1, 1, 0, 0, 0),
  (28, .iload_n 1, 1, 0, 1, 0, 0),
  (29, .ishl, 1, 0, 0, 0, 0),
  (30, .iconst (-1), 1, (-1), 0, 0, 0),
  (31, .ixor, 1, 0, 0, 0, 0),
  (32, .iand, 1, 0, 0, 0, 0),
  (33, .iload_n 2, 1, 0, 2, 0, 0),
  (34, .invokevirtual 44, 3, 0, 3, 0, 0),
  (37, .iload_n 3, 1, 0, 3, 0, 0),
  (38, .iconst 1, 1, 1, 0, 0, 0),
  (39, .iload_n 1, 1, 0, 1, 0, 0),
  (40, .ishl, 1, 0, 0, 0, 0),
  (41, .iconst (-1), 1, (-1), 0, 0, 0),
  (42, .ixor, 1, 0, 0, 0, 0),
  (43, .iand, 1, 0, 0, 0, 0),
  (44, .aload_n 0, 1, 0, 0, 0, 0),
  (45, .getfield 15, 3, 0, 0, 0, 312),
  (48, .invokevirtual 31, 3, 0, 1, 0, 0),
  (51, .iconst (-1), 1, (-1), 0, 0, 0),
  (52, .ixor, 1, 0, 0, 0, 0),
  (53, .iand, 1, 0, 0, 0, 0),
  (54, .ireturn, 1, 0, 0, 0, 0)],
  [(0, 28, 2, 0, 0, pt_X7_goDays), (0, 31, 1, 0, 0, pt_X7_rightOnes), (0, 39, 1, 0, 0, pt_X4_allClocks), (0, 44, 3, 0, 0, pt_X0_tryOnly)], [])
set_option maxRecDepth 100000 in
theorem vd_X0_fallOut : md_X0_fallOut.cd.all (cb_vE md_X0_fallOut) = true := by decide +kernel
theorem wd_X0_fallOut : cb_wd yX0_fallOut md_X0_fallOut := ⟨cb_tw (i := 1015) (by decide +kernel), cb_tw (i := 7) (by decide +kernel), by decide, by decide⟩
theorem cs_X0_fallOut : ∀ X, cb_Bs md_X0_fallOut X → ∀ g ∈ md_X0_fallOut.ga, cb_CS cb_tb md_X0_fallOut X g := fun X B => List.forall_mem_cons.mpr ⟨cb_csV B ok_X7_goDays wd_X7_goDays (cb_tw (i := 1016) (by decide +kernel)) (cb_tw (i := 892) (by decide +kernel)) (cb_tw (i := 893) (by decide +kernel)) rc_X7_goDays ⟨by decide, by decide⟩ (by decide +kernel), List.forall_mem_cons.mpr ⟨cb_csV B ok_X7_rightOnes wd_X7_rightOnes (cb_tw (i := 1017) (by decide +kernel)) (cb_tw (i := 465) (by decide +kernel)) (cb_tw (i := 466) (by decide +kernel)) rc_X7_rightOnes ⟨by decide, by decide⟩ (by decide +kernel), List.forall_mem_cons.mpr ⟨cb_csV B ok_X4_allClocks wd_X4_allClocks (cb_tw (i := 1018) (by decide +kernel)) (cb_tw (i := 432) (by decide +kernel)) (cb_tw (i := 433) (by decide +kernel)) rc_X4_allClocks ⟨by decide, by decide⟩ (by decide +kernel), List.forall_mem_cons.mpr ⟨cb_csV B ok_X0_tryOnly wd_X0_tryOnly (cb_tw (i := 1019) (by decide +kernel)) (cb_tw (i := 1021) (by decide +kernel)) (cb_tp (i := 29) (by decide +kernel)) rc_X0_tryOnly ⟨by decide, by decide⟩ (by decide +kernel), fun _ h => nomatch h⟩⟩⟩⟩
theorem ok_X0_fallOut : cb_MOK cb_tb yX0_fallOut md_X0_fallOut pt_X0_fallOut := by
  refine cb_okm ⟨plainFor_of_name (by decide), rfl⟩ (by decide) cs_X0_fallOut (by decide) (fun X n0 f i r M hr ha h => ?_)
  have h0 := cb_a1 (T := 39) rfl ha
  subst h0
  match r, hr, h with
  | [.inl x, .inl N], hr, h =>
    obtain ⟨P, n, k, i, ⟨hQ, hN, hk, hx, hi⟩, h⟩ := h
    obtain ⟨hW, hph, m, hR⟩ := id hQ
    obtain ⟨hP, hP2, hn, hn8⟩ := id hW.1
    refine cb_run cb_tb_ok vd_X0_fallOut (cuts := []) 90 ?_
    refine And.intro (cb_on rfl) ⟨P, n, m, k, ⟨hR, hph, hN, hk⟩, fun M2 hF2 hs2 hph2 => And.intro (cb_on rfl) ⟨P, n, wk_T_fr hF2 hW.1, ?_⟩⟩
    have hFq := hF2.mono fr_t_q
    have hW2 := wk_W_fq hFq hW
    refine Exists.intro (some P) (And.intro hW2.1.1 (And.intro (cb_on (cb_aP hP2 rfl)) ?_))
    refine And.intro (cb_on rfl) ⟨P, n, k, ⟨hW2, hN, hk⟩, fun M3 hF3 hQ3 hu3 hs3 => ?_⟩
    refine And.intro (cb_on rfl) ⟨P, n, hQ3.1.1, And.intro trivial (cb_eqK (h M3 (hFq.trans hF3)) ?_)⟩
    have e1 : (wm_all (cb_gI M2 3 P 1) &&& ((1 : Int32) <<< (x &&& 31) ^^^ (-1))) = wm_wo (wm_all (nI n)) (wm_b1 i) := by rw [hW2.2.2.2.2, hx]; rfl
    have hu3 : cb_gI M3 25 0 9 = wm_wo (wm_all (nI n)) (wm_b1 i) := hu3.trans e1
    have hs3 : wt_s M3 n = wk_try M2 P n (wm_all (cb_gI M2 3 P 1) &&& ((1 : Int32) <<< (x &&& 31) ^^^ (-1))) k := hs3
    rw [e1, wk_try_fq hFq] at hs3
    show (wm_rts (cb_gI M2 3 P 4) (cb_gI M2 28 0) n &&& cb_gI M2 25 0 9) &&& ((1 : Int32) <<< (x &&& 31) ^^^ (-1)) &&& ((wm_rts (cb_gI M3 3 P 4) (cb_gI M3 28 0) n &&& cb_gI M3 25 0 9) ^^^ (-1)) = _
    rw [wq_r_s, wq_r_s, hu3, hs3, hF3.1 3 P 4 rfl, hF2.1 3 P 4 rfl, hF2.1 25 0 9 rfl, hs2, hx]
    rfl
/-- held by one of a set -/
def wq_held (ph : wm_F) (n : Nat) (set : Int32) (i : Nat) : Bool := (List.range n).any fun j => cb_bit set j && wn_in ph j i
theorem cb_any_succ (f : Nat → Bool) (j : Nat) : (List.range (j + 1)).any f = ((List.range j).any f || f j) := by rw [List.range_succ, List.any_append]; simp
theorem cb_all_succ (f : Nat → Bool) (j : Nat) : (List.range (j + 1)).all f = ((List.range j).all f && f j) := by rw [List.range_succ, List.all_append]; simp
theorem cb_any_hit {f : Nat → Bool} {j n : Nat} (hj : j < n) (h : f j = true) : (List.range n).any f = true := List.any_eq_true.mpr ⟨j, List.mem_range.mpr hj, h⟩
theorem cb_all_miss {f : Nat → Bool} {j n : Nat} (hj : j < n) (h : f j = false) : (List.range n).all f = false := List.all_eq_false.mpr ⟨j, List.mem_range.mpr hj, by rw [h]; decide⟩
def sp_X0_isHeldBy : cb_Sp := fun _ r M K => match r with
  | [.inl set, .inl y] => ∃ P n l, (wk_T M P n ∧ y = nI l ∧ l < n) ∧ K (some (cb_i (cb_z (wq_held (cb_gI M 27 0) n set l)))) M
  | _ => False
def pt_X0_isHeldBy : cb_PT := cb_m 39 2 sp_X0_isHeldBy
theorem rc_X0_isHeldBy : cb_rc cb_tb RX0 pt_X0_isHeldBy := cb_m_rc rfl rfl
def md_X0_isHeldBy : cb_D := (RX0, cX0_isHeldBy, 4, (some .boolean), (0, 0, 3, 66), [
  (0, .iconst 0, 1, 0, 0, 0, 0),
  (1, .istore_n 3, 1, 0, 3, 0, 0),
  (2, .iload_n 3, 1, 0, 3, 0, 0),
  (3, .aload_n 0, 1, 0, 0, 0, 0),
  (4, .getfield 15, 3, 0, 0, 0, 312),
  (7, .getfield 62, 3, 0, 7, 2, 228),
  (10, .if_icmp .ge 33, 3, 0, 43, 0, 0),
  (13, .iload_n 1, 1, 0, 1, 0, 0),
  (14, .iload_n 3, 1, 0, 3, 0, 0),
  (15, .invokestatic 65, 3, 0, 0, 0, 0),
  (18, .iconst 1, 1, 1, 0, 0, 0),
  (19, .if_icmp .ne 18, 3, 0, 37, 0, 0),
  (22, .aload_n 0, 1, 0, 0, 0, 0),
  (23, .getfield 15, 3, 0, 0, 0, 312),
  (26, .iload_n 3, 1, 0, 3, 0, 0),
  (27, .iload_n 2, 1, 0, 2, 0, 0),
  (28, .invokevirtual 75, 3, 0, 1, 0, 0),
  (31, .iconst 2, 1, 2, 0, 0, 0),
  (32, .if_icmp .ne 5, 3, 0, 37, 0, 0),
  (35, .iconst 1, 1, 1, 0, 0, 0),
  (36, .ireturn, 1, 0, 0, 0, 0),
  (37, .iinc 3 1, 3, 1, 3, 0, 0),
  (40, .goto (-38), 3, 0, 2, 0, 0),
  (43, .iconst 0, 1, 0, 0, 0, 0),
  (44, .ireturn, 1, 0, 0, 0, 0)],
  [(1, 65, 2, 0, 0, pt_X9_bitOf), (0, 75, 3, 0, 0, pt_X7_beatOf)], [])
set_option maxRecDepth 100000 in
theorem vd_X0_isHeldBy : md_X0_isHeldBy.cd.all (cb_vE md_X0_isHeldBy) = true := by decide +kernel
theorem wd_X0_isHeldBy : cb_wd yX0_isHeldBy md_X0_isHeldBy := ⟨cb_tw (i := 1050) (by decide +kernel), cb_tw (i := 7) (by decide +kernel), by decide, by decide⟩
theorem cs_X0_isHeldBy : ∀ X, cb_Bs md_X0_isHeldBy X → ∀ g ∈ md_X0_isHeldBy.ga, cb_CS cb_tb md_X0_isHeldBy X g := fun X B => List.forall_mem_cons.mpr ⟨cb_csN (host := "WallClocks") B ok_X9_bitOf nt_X9_bitOf wd_X9_bitOf (cb_tw (i := 1046) (by decide +kernel)) (cb_tw (i := 440) (by decide +kernel)) ⟨by decide, by decide⟩ (by decide +kernel), List.forall_mem_cons.mpr ⟨cb_csV B ok_X7_beatOf wd_X7_beatOf (cb_tw (i := 1051) (by decide +kernel)) (cb_tw (i := 491) (by decide +kernel)) (cb_tw (i := 492) (by decide +kernel)) rc_X7_beatOf ⟨by decide, by decide⟩ (by decide +kernel), fun _ h => nomatch h⟩⟩
theorem ok_X0_isHeldBy : cb_MOK cb_tb yX0_isHeldBy md_X0_isHeldBy pt_X0_isHeldBy := by
  refine cb_okm ⟨plainFor_of_name (by decide), rfl⟩ (by decide) cs_X0_isHeldBy (by decide) (fun X n0 f i r M hr ha h => ?_)
  have h0 := cb_a1 (T := 39) rfl ha
  subst h0
  match r, hr, h with
  | [.inl set, .inl y], hr, h =>
    obtain ⟨P, n, l, ⟨⟨hP, hP2, hn, hn8⟩, hy, hl⟩, h⟩ := h
    have hy8 : vp_in y 8 := by rw [hy]; exact cb_in8 hl hn8 (by decide)
    have hyc : y.toNatClampNeg = l := by rw [hy]; exact nI_clamp (by omega)
    have loop : ∀ j, j ≤ n → ∀ x : Int32, x = nI j → wq_held (cb_gI M 27 0) j set l = false → cb_Gd cb_tb md_X0_isHeldBy X 2 [some (cb_r 39 0), some (cb_i (set)), some (cb_i (y)), some (cb_i (x))] [] (cb_aS n0, f) M 0 0 := by
      refine cb_up (fun j => ∀ x : Int32, x = nI j → wq_held (cb_gI M 27 0) j set l = false → cb_Gd cb_tb md_X0_isHeldBy X 2 [some (cb_r 39 0), some (cb_i (set)), some (cb_i (y)), some (cb_i (x))] [] (cb_aS n0, f) M 0 0) ?_ ?_
      · intro x hx hz
        refine cb_run cb_tb_ok vd_X0_isHeldBy (cuts := [2]) 90 ?_
        exact cb_lout hx hn (And.intro cb_rt0 (cb_z0 (K := fun v M' => X.K (.inl v) (cb_aS n0, f) M') h hz))
      · intro j hj ih x hx hz
        have hx8 : vp_in x 8 := by rw [hx]; exact cb_in8 hj hn8 (by decide)
        have hxc : x.toNatClampNeg = j := by rw [hx]; exact nI_clamp (by omega)
        refine cb_run cb_tb_ok vd_X0_isHeldBy (cuts := [2]) 90 ?_
        refine cb_lin hx hn hj (by omega) (And.intro (by rw [hx]; exact cb_in8 hj (by omega) (by decide)) (cb_ifn1 (fun q => ?_) (fun q => And.intro (cb_on rfl) (And.intro ⟨hx8, hy8⟩ (cb_ifne (fun q2 => ?_) (fun q2 => ?_))))))
        · rw [hxc] at q
          refine ih _ (by rw [hx, nI_1]) ?_
          unfold wq_held at *
          rw [cb_any_succ, hz, q]
          rfl
        · rw [hxc, hyc] at q2
          refine ih _ (by rw [hx, nI_1]) ?_
          unfold wq_held at *
          rw [cb_any_succ, hz, show wn_in (cb_gI M 27 0) j l = false from decide_eq_false q2]
          simp
        · rw [hxc] at q
          rw [hxc, hyc] at q2
          refine And.intro cb_rt1 (cb_z1 (K := fun v M' => X.K (.inl v) (cb_aS n0, f) M') h (cb_any_hit hj ?_))
          rw [q, show wn_in (cb_gI M 27 0) j l = true from decide_eq_true q2]
          rfl
    exact cb_run cb_tb_ok vd_X0_isHeldBy (cuts := [2]) 40 (loop 0 (Nat.zero_le _) _ rfl rfl)
def wq_all (kd ph : wm_F) (n : Nat) (set others : Int32) : Bool := (List.range n).all fun i => !(cb_bit others i && decide (¬ kd i = 2)) || wq_held ph n set i
def sp_X0_holdsAll : cb_Sp := fun _ r M K => match r with
  | [.inl set, .inl others] => ∃ P n, wk_T M P n ∧ K (some (cb_i (cb_z (wq_all (cb_gI M 9 P) (cb_gI M 27 0) n set others)))) M
  | _ => False
def pt_X0_holdsAll : cb_PT := cb_m 39 2 sp_X0_holdsAll
theorem rc_X0_holdsAll : cb_rc cb_tb RX0 pt_X0_holdsAll := cb_m_rc rfl rfl
def md_X0_holdsAll : cb_D := (RX0, cX0_holdsAll, 4, (some .boolean), (0, 0, 4, 89), [
  (0, .iconst 0, 1, 0, 0, 0, 0),
  (1, .istore_n 3, 1, 0, 3, 0, 0),
  (2, .iload_n 3, 1, 0, 3, 0, 0),
  (3, .aload_n 0, 1, 0, 0, 0, 0),
  (4, .getfield 15, 3, 0, 0, 0, 312),
  (7, .getfield 62, 3, 0, 7, 2, 228),
  (10, .if_icmp .ge 45, 3, 0, 55, 0, 0),
  (13, .iload_n 2, 1, 0, 2, 0, 0),
  (14, .iload_n 3, 1, 0, 3, 0, 0),
  (15, .invokestatic 65, 3, 0, 0, 0, 0),
  (18, .iconst 1, 1, 1, 0, 0, 0),
  (19, .if_icmp .ne 30, 3, 0, 49, 0, 0),
  (22, .aload_n 0, 1, 0, 0, 0, 0),
  (23, .getfield 15, 3, 0, 0, 0, 312),
  (26, .getfield 35, 3, 0, 7, 0, 219),
  (29, .getfield 69, 3, 0, 4, 10, 106),
  (32, .iload_n 3, 1, 0, 3, 0, 0),
  (33, .iaload, 1, 0, 0, 0, 0),
  (34, .iconst 2, 1, 2, 0, 0, 0),
  (35, .if_icmp .eq 14, 3, 0, 49, 0, 0),
  (38, .aload_n 0, 1, 0, 0, 0, 0),
  (39, .iload_n 1, 1, 0, 1, 0, 0),
  (40, .iload_n 3, 1, 0, 3, 0, 0),
  (41, .invokevirtual 72, 3, 0, 1, 0, 0),
  (44, .ifCond .ne 5, 3, 0, 49, 0, 0),
  (47, .iconst 0, 1, 0, 0, 0, 0),
  (48, .ireturn, 1, 0, 0, 0, 0),
  (49, .iinc 3 1, 3, 1, 3, 0, 0),
  (52, .goto (-50), 3, 0, 2, 0, 0),
  (55, .iconst 1, 1, 1, 0, 0, 0),
  (56, .ireturn, 1, 0, 0, 0, 0)],
  [(1, 65, 2, 0, 0, pt_X9_bitOf), (0, 72, 3, 0, 0, pt_X0_isHeldBy)], [])
set_option maxRecDepth 100000 in
theorem vd_X0_holdsAll : md_X0_holdsAll.cd.all (cb_vE md_X0_holdsAll) = true := by decide +kernel
theorem wd_X0_holdsAll : cb_wd yX0_holdsAll md_X0_holdsAll := ⟨cb_tw (i := 1045) (by decide +kernel), cb_tw (i := 7) (by decide +kernel), by decide, by decide⟩
theorem cs_X0_holdsAll : ∀ X, cb_Bs md_X0_holdsAll X → ∀ g ∈ md_X0_holdsAll.ga, cb_CS cb_tb md_X0_holdsAll X g := fun X B => List.forall_mem_cons.mpr ⟨cb_csN (host := "WallClocks") B ok_X9_bitOf nt_X9_bitOf wd_X9_bitOf (cb_tw (i := 1046) (by decide +kernel)) (cb_tw (i := 440) (by decide +kernel)) ⟨by decide, by decide⟩ (by decide +kernel), List.forall_mem_cons.mpr ⟨cb_csV B ok_X0_isHeldBy wd_X0_isHeldBy (cb_tw (i := 1047) (by decide +kernel)) (cb_tw (i := 1049) (by decide +kernel)) (cb_tp (i := 31) (by decide +kernel)) rc_X0_isHeldBy ⟨by decide, by decide⟩ (by decide +kernel), fun _ h => nomatch h⟩⟩
theorem ok_X0_holdsAll : cb_MOK cb_tb yX0_holdsAll md_X0_holdsAll pt_X0_holdsAll := by
  refine cb_okm ⟨plainFor_of_name (by decide), rfl⟩ (by decide) cs_X0_holdsAll (by decide) (fun X n0 f i r M hr ha h => ?_)
  have h0 := cb_a1 (T := 39) rfl ha
  subst h0
  match r, hr, h with
  | [.inl set, .inl others], hr, h =>
    obtain ⟨P, n, hT, h⟩ := h
    obtain ⟨hP, hP2, hn, hn8⟩ := id hT
    let g : Nat → Bool := fun i => !(cb_bit others i && decide (¬ cb_gI M 9 P i = 2)) || wq_held (cb_gI M 27 0) n set i
    have loop : ∀ j, j ≤ n → ∀ x : Int32, x = nI j → (List.range j).all g = true → cb_Gd cb_tb md_X0_holdsAll X 2 [some (cb_r 39 0), some (cb_i (set)), some (cb_i (others)), some (cb_i (x))] [] (cb_aS n0, f) M 0 0 := by
      refine cb_up (fun j => ∀ x : Int32, x = nI j → (List.range j).all g = true → cb_Gd cb_tb md_X0_holdsAll X 2 [some (cb_r 39 0), some (cb_i (set)), some (cb_i (others)), some (cb_i (x))] [] (cb_aS n0, f) M 0 0) ?_ ?_
      · intro x hx hz
        refine cb_run cb_tb_ok vd_X0_holdsAll (cuts := [2]) 90 ?_
        exact cb_lout hx hn (And.intro cb_rt1 (cb_z1 (K := fun v M' => X.K (.inl v) (cb_aS n0, f) M') h hz))
      · intro j hj ih x hx hz
        have hx8 : vp_in x 8 := by rw [hx]; exact cb_in8 hj hn8 (by decide)
        have hxc : x.toNatClampNeg = j := by rw [hx]; exact nI_clamp (by omega)
        have nx : g j = true → cb_Gd cb_tb md_X0_holdsAll X 2 [some (cb_r 39 0), some (cb_i (set)), some (cb_i (others)), some (cb_i ((x + 1)))] [] (cb_aS n0, f) M 0 0 := fun q => ih _ (by rw [hx, nI_1]) (by rw [cb_all_succ, hz, q]; rfl)
        refine cb_run cb_tb_ok vd_X0_holdsAll (cuts := [2]) 90 ?_
        refine cb_lin hx hn hj (by omega) (And.intro (by rw [hx]; exact cb_in8 hj (by omega) (by decide)) (cb_ifn1 (fun q => ?_) (fun q => Exists.intro (some P) (And.intro hP (cb_av.of (cb_aPP hP2 rfl) (cb_av.of (cb_aPP hP2 rfl) (And.intro hx8 (And.intro (fun q2 => ?_) (fun q2 => ?_)))))))))
        · rw [hxc] at q
          exact nx (show (!(cb_bit others j && decide (¬ cb_gI M 9 P j = 2)) || wq_held (cb_gI M 27 0) n set j) = true by rw [q]; rfl)
        · have q2 : cb_gI M 9 P x.toNatClampNeg = 2 := q2
          rw [hxc] at q2
          exact nx (show (!(cb_bit others j && decide (¬ cb_gI M 9 P j = 2)) || wq_held (cb_gI M 27 0) n set j) = true by rw [q2]; simp)
        · have q2 : ¬ cb_gI M 9 P x.toNatClampNeg = 2 := q2
          rw [hxc] at q q2
          refine And.intro (cb_on rfl) ⟨P, n, j, ⟨hT, hx, hj⟩, And.intro (fun q3 => ?_) (fun q3 => ?_)⟩
          · have q3 : ¬ cb_z (wq_held (cb_gI M 27 0) n set j) = 0 := q3
            refine nx (show (!(cb_bit others j && decide (¬ cb_gI M 9 P j = 2)) || wq_held (cb_gI M 27 0) n set j) = true from ?_)
            cases e : wq_held (cb_gI M 27 0) n set j with
            | true => simp
            | false => rw [e] at q3; exact absurd rfl q3
          · have q3 : cb_z (wq_held (cb_gI M 27 0) n set j) = 0 := Classical.not_not.mp q3
            refine And.intro cb_rt0 (cb_z0 (K := fun v M' => X.K (.inl v) (cb_aS n0, f) M') h (cb_all_miss hj ?_))
            rw [q, cb_z_eq0.mp q3, decide_eq_true q2]
            rfl
    exact cb_run cb_tb_ok vd_X0_holdsAll (cuts := [2]) 40 (loop 0 (Nat.zero_le _) _ rfl rfl)
