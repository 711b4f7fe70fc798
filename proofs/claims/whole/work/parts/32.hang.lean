/-! ===== what comes when clocks hang on free hooks: the pieces ===== -/
def fr_h (t j : Nat) : Bool := fr_q t j || (Nat.beq t 29 || (Nat.beq t 30 || (Nat.ble 37 t && Nat.ble t 44)))
theorem fr_q_h : ∀ t j, fr_q t j = true → fr_h t j = true := fun t j h => by unfold fr_h; rw [h]; rfl
/-- with boards and places told -/
def wh_h (M : cb_M) (P : Nat) (bd pl : wm_F) : wm_C := (0, cb_gI M 9 P, bd, pl, cb_gI M 8 P, cb_gI M 4 P, cb_gI M 11 P, cb_gI M 26 0, fun i j => cb_gI M 14 P (i * 8 + j))
def wh_c (M : cb_M) (P n : Nat) (bd pl : wm_F) : wn_C := (n, wn_tr n (cb_gI M 9 P), wn_tr n bd, wn_tr n (cb_gI M 8 P), wn_tr n (cb_gI M 11 P), wn_tr n (cb_gI M 26 0), fun i j => if i < n ∧ j < n then wm_hear (wh_h M P bd pl) i j else 0)
theorem wm_hear_h {M M' : cb_M} {P n i j : Nat} {bd pl : wm_F} (h : cb_fr fr_h M M') (h1 : cb_gI M' 29 0 i = bd i ∧ cb_gI M' 30 0 i = pl i) (h2 : cb_gI M' 29 0 j = bd j ∧ cb_gI M' 30 0 j = pl j) : wm_hear (wk_c M' P n) i j = wm_hear (wh_h M P bd pl) i j := by
  unfold wm_hear
  show (if cb_gI M' 9 P i = 2 ∨ cb_gI M' 9 P i = 1 ∨ cb_gI M' 9 P j = 2 then (0 : Int32) else if ¬ cb_gI M' 29 0 i = cb_gI M' 29 0 j then cb_gI M' 14 P (i * 8 + j) else (if cb_gI M' 9 P j = 4 then 2 * cb_gI M' 8 P j else cb_gI M' 8 P j) * (10 - cb_gI M' 4 P (cb_gI M' 29 0 i).toNatClampNeg) / (1 + wm_abs (cb_gI M' 30 0 i - cb_gI M' 30 0 j)) + cb_gI M' 14 P (i * 8 + j)) = _
  rw [h1.1, h1.2, h2.1, h2.2, h.fn 9 P (fun _ => rfl), h.fn 14 P (fun _ => rfl), h.fn 8 P (fun _ => rfl), h.fn 4 P (fun _ => rfl)]
  rfl
theorem wt_c_h {M M' : cb_M} (h : cb_fr fr_h M M') {P n : Nat} {bd pl : wm_F} (hb : ∀ i, i < n → cb_gI M' 29 0 i = bd i ∧ cb_gI M' 30 0 i = pl i) : wt_c M' P n = wh_c M P n bd pl := by
  unfold wt_c wh_c
  rw [h.fn 9 P (fun _ => rfl), h.fn 8 P (fun _ => rfl), h.fn 11 P (fun _ => rfl), h.fn 26 0 (fun _ => rfl), wn_tr_ext (f := cb_gI M' 29 0) (g := bd) (fun i hi => (hb i hi).1)]
  have e : (fun i j => if i < n ∧ j < n then wm_hear (wk_c M' P n) i j else 0) = fun i j => if i < n ∧ j < n then wm_hear (wh_h M P bd pl) i j else 0 := by
    funext i j
    by_cases q : i < n ∧ j < n
    · rw [if_pos q, if_pos q, wm_hear_h h (hb i q.1) (hb j q.2)]
    · rw [if_neg q, if_neg q]
  rw [e]
theorem wk_W_h {M M' : cb_M} (h : cb_fr fr_h M M') {P n : Nat} (hW : wk_W M P n) (hB : wk_B M' n) : wk_W M' P n := by
  obtain ⟨⟨h1, h2, h3, h4⟩, -, h5, h6, h7⟩ := hW
  refine ⟨⟨(h.ref 25 0 0).trans h1, h2, (h.1 25 0 2 rfl).trans h3, h4⟩, hB, (h.ref 25 0 1).trans h5, ?_, (h.1 3 P 1 rfl).trans h7⟩
  rw [h.fn 8 P (fun _ => rfl)]
  exact h6
theorem wb_s_h {M M' : cb_M} (h : cb_fr fr_h M M') (P n : Nat) : wb_s M' P n = wb_s M P n := by
  unfold wb_s
  rw [h.1 16 0 0 rfl, h.fn 10 P (fun _ => rfl), h.fn 17 0 (fun _ => rfl)]
/-- hung so, all up, gone so many days -/
def wh_try (M : cb_M) (P n : Nat) (bd pl : wm_F) (k : Nat) : wm_S := wq_tr (wh_c M P n bd pl) (cb_gI M 15 P) (wb_s M P n) (wm_all (nI n)) (cb_gI M 25 0 10) k
theorem wh_try_h {M M' : cb_M} (h : cb_fr fr_h M M') {P n : Nat} {bd pl : wm_F} (hb : ∀ i, i < n → cb_gI M' 29 0 i = bd i ∧ cb_gI M' 30 0 i = pl i) (k : Nat) : wk_try M' P n (wm_all (nI n)) k = wh_try M P n bd pl k := by
  unfold wk_try wh_try
  rw [wt_c_h h hb, wb_s_h h, h.fn 15 P (fun _ => rfl), h.1 25 0 10 rfl]
def sp_X1_tryHung : cb_Sp := fun _ r M K => match r with
  | [.inl N] => ∃ P n k, (wk_W M P n ∧ N = nI k ∧ k < 2 ^ 31) ∧ ∀ M', cb_fr fr_q M M' → wk_Q M' P n → cb_gI M' 25 0 9 = wm_all (nI n) → wt_s M' n = wk_try M P n (wm_all (nI n)) k → K none M'
  | _ => False
def pt_X1_tryHung : cb_PT := cb_m 42 1 sp_X1_tryHung
theorem rc_X1_tryHung : cb_rc cb_tb RX1 pt_X1_tryHung := cb_m_rc rfl rfl
def md_X1_tryHung : cb_D := (RX1, cX1_tryHung, 2, none, (0, 0, 5, 111), [
  (0, .aload_n 0, 1, 0, 0, 0, 0),
  (1, .getfield 22, 3, 0, 1, 0, 335),
  (4, .aload_n 0, 1, 0, 0, 0, 0),
  (5, .getfield 22, 3, 0, 1, 0, 335),
  (8, .getfield 63, 3, 0, 7, 0, 220),
  (11, .invokevirtual 102, 3, 0, 0, 0, 0),
  (14, .invokevirtual 105, 3, 0, 1, 0, 0),
  (17, .aload_n 0, 1, 0, 0, 0, 0),
  (18, .getfield 22, 3, 0, 1, 0, 335),
  (21, .invokevirtual 108, 3, 0, 2, 0, 0),
  (24, .aload_n 0, 1, 0, 0, 0, 0),
  (25, .getfield 22, 3, 0, 1, 0, 335),
  (28, .iload_n 1, 1, 0, 1, 0, 0),
  (29, .invokevirtual 111, 3, 0, 3, 0, 0),
  (32, .return_, 1, 0, 0, 0, 0)],
  [(0, 102, 1, 0, 0, pt_X4_allClocks), (0, 105, 2, 0, 0, pt_X7_keepUp), (0, 108, 1, 0, 0, pt_X7_begin), (0, 111, 2, 0, 0, pt_X7_goDays)], [])
set_option maxRecDepth 100000 in
theorem vd_X1_tryHung : md_X1_tryHung.cd.all (cb_vE md_X1_tryHung) = true := by decide +kernel
theorem wd_X1_tryHung : cb_wd yX1_tryHung md_X1_tryHung := ⟨cb_tw (i := 1095) (by decide +kernel), cb_tw (i := 9) (by decide +kernel), by decide, by decide⟩
theorem cs_X1_tryHung : ∀ X, cb_Bs md_X1_tryHung X → ∀ g ∈ md_X1_tryHung.ga, cb_CS cb_tb md_X1_tryHung X g := fun X B => List.forall_mem_cons.mpr ⟨cb_csV B ok_X4_allClocks wd_X4_allClocks (cb_tw (i := 1096) (by decide +kernel)) (cb_tw (i := 432) (by decide +kernel)) (cb_tw (i := 433) (by decide +kernel)) rc_X4_allClocks ⟨by decide, by decide⟩ (by decide +kernel), List.forall_mem_cons.mpr ⟨cb_csV B ok_X7_keepUp wd_X7_keepUp (cb_tw (i := 1097) (by decide +kernel)) (cb_tw (i := 436) (by decide +kernel)) (cb_tw (i := 437) (by decide +kernel)) rc_X7_keepUp ⟨by decide, by decide⟩ (by decide +kernel), List.forall_mem_cons.mpr ⟨cb_csV B ok_X7_begin wd_X7_begin (cb_tw (i := 1098) (by decide +kernel)) (cb_tw (i := 454) (by decide +kernel)) (cb_tw (i := 455) (by decide +kernel)) rc_X7_begin ⟨by decide, by decide⟩ (by decide +kernel), List.forall_mem_cons.mpr ⟨cb_csV B ok_X7_goDays wd_X7_goDays (cb_tw (i := 1099) (by decide +kernel)) (cb_tw (i := 892) (by decide +kernel)) (cb_tw (i := 893) (by decide +kernel)) rc_X7_goDays ⟨by decide, by decide⟩ (by decide +kernel), fun _ h => nomatch h⟩⟩⟩⟩
theorem ok_X1_tryHung : cb_MOK cb_tb yX1_tryHung md_X1_tryHung pt_X1_tryHung := by
  refine cb_okm ⟨plainFor_of_name (by decide), rfl⟩ (by decide) cs_X1_tryHung (by decide) (fun X n0 f i r M hr ha h => ?_)
  have h0 := cb_a1 (T := 42) rfl ha
  subst h0
  match r, hr, h with
  | [.inl N], hr, h =>
    obtain ⟨P, n, k, ⟨hW, hN, hk⟩, h⟩ := h
    obtain ⟨hT, hB, hq, hwt, hpn⟩ := id hW
    refine cb_run cb_tb_ok vd_X1_tryHung (cuts := []) 90 ?_
    refine Exists.intro (some P) (And.intro hT.1 (And.intro (cb_on (cb_aP hT.2.1 rfl)) ?_))
    refine And.intro (cb_on rfl) ⟨P, n, ⟨hT, hB⟩, fun M5 m hF5 hu5 hbm5 hm5 hpr5 => ?_⟩
    rw [hpn] at hu5
    have R5 : wk_R M5 P n m := ⟨wk_T_fk hF5 hT, hbm5, hm5, hpr5, fun i hi => by rw [hF5.1 8 P i rfl]; exact hwt i hi⟩
    refine And.intro (cb_on rfl) ⟨P, n, ⟨wk_T_fk hF5 hT, (hF5.ref 25 0 1).trans hq⟩, fun M6 hF6 hs6 hph6 => ?_⟩
    have R6 := wk_R_fr hF6 R5
    refine And.intro (cb_on rfl) ⟨P, n, m, k, ⟨R6, hph6, hN, hk⟩, fun M7 hF7 hs7 hph7 => And.intro rfl ?_⟩
    have hF : cb_fr fr_q M M6 := (hF5.mono fr_k_q).trans (hF6.mono fr_t_q)
    have u6 : cb_gI M6 25 0 9 = wm_all (nI n) := (hF6.1 25 0 9 rfl).trans hu5
    refine h M7 (hF.trans (hF7.mono fr_t_q)) ⟨wk_W_fq (hF.trans (hF7.mono fr_t_q)) hW, hph7, m, wk_R_fr hF7 R6⟩ ((hF7.1 25 0 9 rfl).trans u6) ?_
    rw [hs7, hs6]
    unfold wk_try wq_tr
    rw [wt_c_fq hF, hF.fn 15 P (fun _ => rfl), wb_s_fq (hF5.mono fr_k_q)]
    have : wt_u M6 n = wu_of n (wm_all (nI n)) (cb_gI M 25 0 10) := by
      unfold wt_u wu_of
      rw [u6, hF.1 25 0 10 rfl]
    rw [this]
    rfl
/-! the clocks that are told -/
def wq_bits (those : Int32) (n : Nat) : List Nat := (List.range n).filter (cb_bit those)
theorem wq_bits_succ (those : Int32) (n : Nat) : wq_bits those (n + 1) = if cb_bit those n = true then wq_bits those n ++ [n] else wq_bits those n := by
  unfold wq_bits
  rw [List.range_succ, List.filter_append]
  by_cases h : cb_bit those n = true
  · rw [if_pos h, List.filter_cons_of_pos h]
    rfl
  · rw [if_neg h, List.filter_cons_of_neg h]
    simp
theorem wq_bits_pre (those : Int32) (j : Nat) : ∀ d, ∃ t, wq_bits those (j + d) = wq_bits those j ++ t
  | 0 => ⟨[], by simp⟩
  | d + 1 => by
    obtain ⟨t, ht⟩ := wq_bits_pre those j d
    rw [show j + (d + 1) = (j + d) + 1 by omega, wq_bits_succ, ht]
    by_cases h : cb_bit those (j + d) = true
    · rw [if_pos h]
      exact ⟨t ++ [j + d], by simp⟩
    · rw [if_neg h]
      exact ⟨t, rfl⟩
def fr_ch (t j : Nat) : Bool := Nat.beq t 43 || (Nat.beq t 42 && Nat.beq j 3)
/-- the chosen ones stand there -/
def wk_ch (M : cb_M) (L : List Nat) : Prop := cb_gI M 42 0 3 = nI L.length ∧ ∀ l, l < L.length → cb_gI M 43 0 l = nI (L.getD l 0)
def sp_X1_choose : cb_Sp := fun _ r M K => match r with
  | [.inl those] => ∃ n, (cb_gI M 25 0 2 = nI n ∧ n ≤ 8 ∧ (wq_bits those n).length ≤ 4) ∧ ∀ M', cb_fr fr_ch M M' → wk_ch M' (wq_bits those n) → K none M'
  | _ => False
def pt_X1_choose : cb_PT := cb_m 42 1 sp_X1_choose
theorem rc_X1_choose : cb_rc cb_tb RX1 pt_X1_choose := cb_m_rc rfl rfl
def md_X1_choose : cb_D := (RX1, cX1_choose, 3, none, (0, 0, 1, 21), [
  (0, .aload_n 0, 1, 0, 0, 0, 0),
  (1, .iconst 0, 1, 0, 0, 0, 0),
  (2, .putfield 18, 3, 0, 1, 3, 338),
  (5, .iconst 0, 1, 0, 0, 0, 0),
  (6, .istore_n 2, 1, 0, 2, 0, 0),
  (7, .iload_n 2, 1, 0, 2, 0, 0),
  (8, .aload_n 0, 1, 0, 0, 0, 0),
  (9, .getfield 22, 3, 0, 1, 0, 335),
  (12, .getfield 56, 3, 0, 7, 2, 227),
  (15, .if_icmp .ge 46, 3, 0, 61, 0, 0),
  (18, .aload_n 0, 1, 0, 0, 0, 0),
  (19, .getfield 18, 3, 0, 1, 3, 338),
  (22, .iconst 4, 1, 4, 0, 0, 0),
  (23, .if_icmp .ge 38, 3, 0, 61, 0, 0),
  (26, .iload_n 1, 1, 0, 1, 0, 0),
  (27, .iload_n 2, 1, 0, 2, 0, 0),
  (28, .invokestatic 59, 3, 0, 0, 0, 0),
  (31, .iconst 1, 1, 1, 0, 0, 0),
  (32, .if_icmp .ne 23, 3, 0, 55, 0, 0),
  (35, .aload_n 0, 1, 0, 0, 0, 0),
  (36, .getfield 9, 3, 0, 1, 1, 336),
  (39, .aload_n 0, 1, 0, 0, 0, 0),
  (40, .getfield 18, 3, 0, 1, 3, 338),
  (43, .iload_n 2, 1, 0, 2, 0, 0),
  (44, .iastore, 1, 0, 0, 0, 0),
  (45, .aload_n 0, 1, 0, 0, 0, 0),
  (46, .dup, 1, 0, 0, 0, 0),
  (47, .getfield 18, 3, 0, 1, 3, 338),
  (50, .iconst 1, 1, 1, 0, 0, 0),
  (51, .iadd, 1, 0, 0, 0, 0),
  (52, .putfield 18, 3, 0, 1, 3, 338),
  (55, .iinc 2 1, 3, 1, 2, 0, 0),
  (58, .goto (-51), 3, 0, 7, 0, 0),
  (61, .return_, 1, 0, 0, 0, 0)],
  [(1, 59, 2, 0, 0, pt_X9_bitOf)], [])
set_option maxRecDepth 100000 in
theorem vd_X1_choose : md_X1_choose.cd.all (cb_vE md_X1_choose) = true := by decide +kernel
theorem wd_X1_choose : cb_wd yX1_choose md_X1_choose := ⟨cb_tw (i := 1068) (by decide +kernel), cb_tw (i := 9) (by decide +kernel), by decide, by decide⟩
theorem cs_X1_choose : ∀ X, cb_Bs md_X1_choose X → ∀ g ∈ md_X1_choose.ga, cb_CS cb_tb md_X1_choose X g := fun X B => List.forall_mem_cons.mpr ⟨cb_csN (host := "WallClocks") B ok_X9_bitOf nt_X9_bitOf wd_X9_bitOf (cb_tw (i := 1069) (by decide +kernel)) (cb_tw (i := 440) (by decide +kernel)) ⟨by decide, by decide⟩ (by decide +kernel), fun _ h => nomatch h⟩
theorem ok_X1_choose : cb_MOK cb_tb yX1_choose md_X1_choose pt_X1_choose := by
  refine cb_okm ⟨plainFor_of_name (by decide), rfl⟩ (by decide) cs_X1_choose (by decide) (fun X n0 f i r M hr ha h => ?_)
  have h0 := cb_a1 (T := 42) rfl ha
  subst h0
  match r, hr, h with
  | [.inl those], hr, h =>
    obtain ⟨n, ⟨hn, hn8, hL⟩, h⟩ := h
    have loop : ∀ j, j ≤ n → ∀ (x : Int32) (M' : cb_M), x = nI j → cb_fr fr_ch M M' → wk_ch M' (wq_bits those j) → cb_Gd cb_tb md_X1_choose X 7 [some (cb_r 42 0), some (cb_i (those)), some (cb_i (x))] [] (cb_aS n0, f) M' 0 0 := by
      refine cb_up (fun j => ∀ (x : Int32) (M' : cb_M), x = nI j → cb_fr fr_ch M M' → wk_ch M' (wq_bits those j) → cb_Gd cb_tb md_X1_choose X 7 [some (cb_r 42 0), some (cb_i (those)), some (cb_i (x))] [] (cb_aS n0, f) M' 0 0) ?_ ?_
      · intro x M' hx hF hc
        refine cb_run cb_tb_ok vd_X1_choose (cuts := [7]) 90 ?_
        exact cb_lout hx ((hF.1 25 0 2 rfl).trans hn) (And.intro rfl (h M' hF hc))
      · intro j hj ih x M' hx hF hc
        have hxc : x.toNatClampNeg = j := by rw [hx]; exact nI_clamp (by omega)
        obtain ⟨t, ht⟩ := wq_bits_pre those j (n - j)
        rw [show j + (n - j) = n by omega] at ht
        have hlen : (wq_bits those j).length ≤ 4 := by
          have := congrArg List.length ht
          rw [List.length_append] at this
          omega
        refine cb_run cb_tb_ok vd_X1_choose (cuts := [7]) 90 ?_
        refine cb_lin hx ((hF.1 25 0 2 rfl).trans hn) hj (by omega) (And.intro (fun q => ?_) (fun q => ?_))
        · have q : (4 : Int32) ≤ cb_gI M' 42 0 3 := q
          rw [hc.1] at q
          have q4 : (wq_bits those j).length = 4 := by
            by_cases w : (wq_bits those j).length < 4
            · exact absurd q (nI_ge w (by decide))
            · omega
          have e : wq_bits those n = wq_bits those j := by
            have := congrArg List.length ht
            rw [List.length_append] at this
            have : t = [] := List.eq_nil_of_length_eq_zero (by omega)
            rw [ht, this, List.append_nil]
          rw [e] at h
          exact And.intro rfl (h M' hF hc)
        · have q : ¬ (4 : Int32) ≤ cb_gI M' 42 0 3 := q
          rw [hc.1] at q
          have q4 : (wq_bits those j).length < 4 := Nat.not_le.mp (fun w => q (nI_le w (by omega)))
          refine And.intro (by rw [hx]; exact cb_in8 hj (by omega) (by decide)) (cb_ifn1 (fun q2 => ?_) (fun q2 => ?_))
          · rw [hxc] at q2
            refine ih _ M' (by rw [hx, nI_1]) hF ?_
            rw [wq_bits_succ, if_neg (by rw [q2]; decide)]
            exact hc
          · rw [hxc] at q2
            have hm4 : vp_in (cb_gI M' 42 0 3) 4 := by rw [hc.1]; exact vp_in_nI q4 (by decide)
            have hmc : (cb_gI M' 42 0 3).toNatClampNeg = (wq_bits those j).length := by rw [hc.1]; exact nI_clamp (by omega)
            refine And.intro hm4 (ih _ _ (by rw [hx, nI_1]) ((hF.set _ rfl).set _ rfl) ?_)
            rw [wq_bits_succ, if_pos q2]
            constructor
            · show cb_gI M' 42 0 3 + 1 = _
              rw [hc.1, nI_1, List.length_append]
              rfl
            · intro l hl
              rw [List.length_append] at hl
              show cb_gI (cb_sI M' 43 0 (cb_gI M' 42 0 3).toNatClampNeg x) 43 0 l = _
              rw [cb_gI_sI, hmc]
              by_cases e : l = (wq_bits those j).length
              · rw [if_pos ⟨rfl, rfl, e⟩, e, hx]
                simp
              · have hl2 : l < (wq_bits those j).length := by
                  have : [j].length = 1 := rfl
                  omega
                rw [if_neg (fun w => e w.2.2), hc.2 l hl2]
                congr 1
                simp only [List.getD_eq_getElem?_getD]
                rw [List.getElem?_append_left hl2]
    refine cb_run cb_tb_ok vd_X1_choose (cuts := [7]) 90 ?_
    refine loop 0 (Nat.zero_le _) _ _ rfl ((cb_fr.refl M).set _ rfl) ⟨rfl, fun l hl => absurd hl (by simp [wq_bits])⟩
def sp_X1_countWays : cb_Sp := fun _ r M K => match r with
  | [] => ∃ P m h, (cb_gR M 25 0 0 = some P ∧ P < 2 ∧ cb_gI M 42 0 3 = nI m ∧ m ≤ 4 ∧ cb_gI M 3 P 2 = nI h) ∧ K (some (cb_i (nI (h ^ m)))) M
  | _ => False
def pt_X1_countWays : cb_PT := cb_m 42 0 sp_X1_countWays
theorem rc_X1_countWays : cb_rc cb_tb RX1 pt_X1_countWays := cb_m_rc rfl rfl
def md_X1_countWays : cb_D := (RX1, cX1_countWays, 3, (some .int), (0, 0, 0, 0), [
  (0, .iconst 1, 1, 1, 0, 0, 0),
  (1, .istore_n 1, 1, 0, 1, 0, 0),
  (2, .iconst 0, 1, 0, 0, 0, 0),
  (3, .istore_n 2, 1, 0, 2, 0, 0),
  (4, .iload_n 2, 1, 0, 2, 0, 0),
  (5, .aload_n 0, 1, 0, 0, 0, 0),
  (6, .getfield 18, 3, 0, 1, 3, 338),
  (9, .if_icmp .ge 22, 3, 0, 31, 0, 0),
  (12, .iload_n 1, 1, 0, 1, 0, 0),
  (13, .aload_n 0, 1, 0, 0, 0, 0),
  (14, .getfield 22, 3, 0, 1, 0, 335),
  (17, .getfield 63, 3, 0, 7, 0, 220),
  (20, .getfield 67, 3, 0, 4, 2, 75),
  (23, .imul, 1, 0, 0, 0, 0),
  (24, .istore_n 1, 1, 0, 1, 0, 0),
  (25, .iinc 2 1, 3, 1, 2, 0, 0),
  (28, .goto (-24), 3, 0, 4, 0, 0),
  (31, .iload_n 1, 1, 0, 1, 0, 0),
  (32, .ireturn, 1, 0, 0, 0, 0)],
  [], [])
set_option maxRecDepth 100000 in
theorem vd_X1_countWays : md_X1_countWays.cd.all (cb_vE md_X1_countWays) = true := by decide +kernel
theorem wd_X1_countWays : cb_wd yX1_countWays md_X1_countWays := ⟨cb_tw (i := 1074) (by decide +kernel), cb_tw (i := 9) (by decide +kernel), by decide, by decide⟩
theorem cs_X1_countWays : ∀ X, cb_Bs md_X1_countWays X → ∀ g ∈ md_X1_countWays.ga, cb_CS cb_tb md_X1_countWays X g := fun X B => fun _ h => nomatch h
theorem ok_X1_countWays : cb_MOK cb_tb yX1_countWays md_X1_countWays pt_X1_countWays := by
  refine cb_okm ⟨plainFor_of_name (by decide), rfl⟩ (by decide) cs_X1_countWays (by decide) (fun X n0 f i r M hr ha h => ?_)
  have h0 := cb_a1 (T := 42) rfl ha
  subst h0
  match r, hr, h with
  | [], hr, h =>
    obtain ⟨P, m, hh, ⟨hP, hP2, hm, hm4, hhk⟩, h⟩ := h
    have loop : ∀ j, j ≤ m → ∀ (x w : Int32), x = nI j → w = nI (hh ^ j) → cb_Gd cb_tb md_X1_countWays X 4 [some (cb_r 42 0), some (cb_i (w)), some (cb_i (x))] [] (cb_aS n0, f) M 0 0 := by
      refine cb_up (fun j => ∀ (x w : Int32), x = nI j → w = nI (hh ^ j) → cb_Gd cb_tb md_X1_countWays X 4 [some (cb_r 42 0), some (cb_i (w)), some (cb_i (x))] [] (cb_aS n0, f) M 0 0) ?_ ?_
      · intro x w hx hw
        refine cb_run cb_tb_ok vd_X1_countWays (cuts := [4]) 90 ?_
        exact cb_lout hx hm (And.intro trivial (cb_eqK h hw))
      · intro j hj ih x w hx hw
        refine cb_run cb_tb_ok vd_X1_countWays (cuts := [4]) 90 ?_
        refine cb_lin hx hm hj (by omega) (Exists.intro (some P) (And.intro hP (cb_av.of (cb_aPP hP2 rfl) (ih _ _ (by rw [hx, nI_1]) ?_))))
        show w * cb_gI M 3 P 2 = _
        rw [hw, hhk, Nat.pow_succ]
        exact (Int32.ofNat_mul _ _).symm
    exact cb_run cb_tb_ok vd_X1_countWays (cuts := [4]) 40 (loop 0 (Nat.zero_le _) _ _ rfl rfl)
/-! the hooks of a way -/
def wq_e (h way t : Nat) : Nat := way / h ^ t % h
def wq_dis (h way m : Nat) : Bool := (List.range m).all fun t => (List.range t).all fun t' => decide (¬ wq_e h way t' = wq_e h way t)
def wq_use (h way : Nat) : Nat → Int32
  | 0 => 0
  | t + 1 => wq_use h way t ||| wm_b1 (wq_e h way t)
theorem wq_use_bit {h way b : Nat} (hh : h ≤ 6) (h1 : 1 ≤ h) : ∀ t, cb_bit (wq_use h way t) b = (List.range t).any fun t' => decide (wq_e h way t' = b)
  | 0 => by rw [wq_use, cb_bit_zero]; rfl
  | t + 1 => by
    have : wq_e h way t < h := Nat.mod_lt _ (by omega)
    rw [wq_use, cb_bit_or, wq_use_bit hh h1 t, cb_any_succ]
    unfold wm_b1
    rw [cb_bit_one (by omega)]
    congr 1
    exact decide_eq_decide.mpr ⟨fun q => q.symm, fun q => q.symm⟩
theorem cb_div_nI {a b : Nat} (ha : a < 2 ^ 31) (hb : b < 2 ^ 31) : nI a / nI b = nI (a / b) := by
  apply Int32.toInt_inj.mp
  rw [Int32.toInt_div, nI_toInt ha, nI_toInt hb, nI_toInt (Nat.lt_of_le_of_lt (Nat.div_le_self a b) ha)]
  have e : (a : Int).tdiv (b : Int) = ((a / b : Nat) : Int) := by
    rw [Int.tdiv_eq_ediv_of_nonneg (by omega)]
    rfl
  have := Nat.div_le_self a b
  rw [e]
  generalize a / b = q at *
  rw [Int.bmod_eq_of_le] <;> omega
theorem cb_rem_nI {a b : Nat} (ha : a < 2 ^ 31) (hb : b < 2 ^ 31) (h0 : 0 < b) : cb_rem (nI a) (nI b) = nI (a % b) := by
  apply Int32.toInt_inj.mp
  have := Nat.mod_lt a h0
  rw [cb_rem_int _ (by rw [nI_toInt hb]; omega), nI_toInt ha, nI_toInt hb, nI_toInt (by omega), Int.tmod_eq_emod_of_nonneg (by omega)]
  rfl
def fr_ho (t _j : Nat) : Bool := Nat.beq t 44
/-- the hooks of the way stand there -/
def wk_ho (M : cb_M) (h way m : Nat) : Prop := ∀ l, l < m → cb_gI M 44 0 l = nI (wq_e h way (m - 1 - l))
def sp_X1_spreadHooks : cb_Sp := fun _ r M K => match r with
  | [.inl w] => ∃ P m h way, (cb_gR M 25 0 0 = some P ∧ P < 2 ∧ cb_gI M 42 0 3 = nI m ∧ m ≤ 4 ∧ cb_gI M 3 P 2 = nI h ∧ 1 ≤ h ∧ h ≤ 6 ∧ w = nI way ∧ way < 2 ^ 31) ∧ ∀ M', cb_fr fr_ho M M' → (wq_dis h way m = true → wk_ho M' h way m) → K (some (cb_i (cb_z (wq_dis h way m)))) M'
  | _ => False
def pt_X1_spreadHooks : cb_PT := cb_m 42 1 sp_X1_spreadHooks
theorem rc_X1_spreadHooks : cb_rc cb_tb RX1 pt_X1_spreadHooks := cb_m_rc rfl rfl
def md_X1_spreadHooks : cb_D := (RX1, cX1_spreadHooks, 7, (some .boolean), (0, 0, 1, 21), [
  (0, .aload_n 0, 1, 0, 0, 0, 0),
  (1, .getfield 22, 3, 0, 1, 0, 335),
  (4, .getfield 63, 3, 0, 7, 0, 220),
  (7, .getfield 67, 3, 0, 4, 2, 75),
  (10, .istore_n 2, 1, 0, 2, 0, 0),
  (11, .iload_n 2, 1, 0, 2, 0, 0),
  (12, .iconst 1, 1, 1, 0, 0, 0),
  (13, .if_icmp .ge 5, 3, 0, 18, 0, 0),
  (16, .iconst 0, 1, 0, 0, 0, 0),
  (17, .ireturn, 1, 0, 0, 0, 0),
  (18, .iload_n 1, 1, 0, 1, 0, 0),
  (19, .istore_n 3, 1, 0, 3, 0, 0),
  (20, .iconst 0, 1, 0, 0, 0, 0),
  (21, .istore 4, 2, 0, 4, 0, 0),
  (23, .aload_n 0, 1, 0, 0, 0, 0),
  (24, .getfield 18, 3, 0, 1, 3, 338),
  (27, .iconst 1, 1, 1, 0, 0, 0),
  (28, .isub, 1, 0, 0, 0, 0),
  (29, .istore 5, 2, 0, 5, 0, 0),
  (31, .iload 5, 2, 0, 5, 0, 0),
  (33, .ifCond .lt 49, 3, 0, 82, 0, 0),
  (36, .iload_n 3, 1, 0, 3, 0, 0),
  (37, .iload_n 2, 1, 0, 2, 0, 0),
  (38, .irem, 1, 0, 0, 0, 0),
  (39, .istore 6, 2, 0, 6, 0, 0),
  (41, .iload 4, 2, 0, 4, 0, 0),
  (43, .iload 6, 2, 0, 6, 0, 0),
  (45, .invokestatic 59, 3, 0, 0, 0, 0),
  (48, .iconst 1, 1, 1, 0, 0, 0),
  (49, .if_icmp .ne 5, 3, 0, 54, 0, 0),
  (52, .iconst 0, 1, 0, 0, 0, 0),
  (53, .ireturn, 1, 0, 0, 0, 0),
  (54, .iload 4, 2, 0, 4, 0, 0),
  (56, .iconst 1, 1, 1, 0, 0, 0),
  (57, .iload 6, 2, 0, 6, 0, 0),
  (59, .ishl, 1, 0, 0, 0, 0),
  (60, .ior, 1, 0, 0, 0, 0),
  (61, .istore 4, 2, 0, 4, 0, 0),
  (63, .aload_n 0, 1, 0, 0, 0, 0),
  (64, .getfield 15, 3, 0, 1, 2, 337),
  (67, .iload 5, 2, 0, 5, 0, 0),
  (69, .iload 6, 2, 0, 6, 0, 0),
  (71, .iastore, 1, 0, 0, 0, 0),
  (72, .iload_n 3, 1, 0, 3, 0, 0),
  (73, .iload_n 2, 1, 0, 2, 0, 0),
  (74, .idiv, 1, 0, 0, 0, 0),
  (75, .istore_n 3, 1, 0, 3, 0, 0),
  (76, .iinc 5 (-1), 3, (-1), 5, 0, 0),
  (79, .goto (-48), 3, 0, 31, 0, 0),
  (82, .iconst 1, 1, 1, 0, 0, 0),
  (83, .ireturn, 1, 0, 0, 0, 0)],
  [(1, 59, 2, 0, 0, pt_X9_bitOf)], [])
set_option maxRecDepth 100000 in
theorem vd_X1_spreadHooks : md_X1_spreadHooks.cd.all (cb_vE md_X1_spreadHooks) = true := by decide +kernel
theorem wd_X1_spreadHooks : cb_wd yX1_spreadHooks md_X1_spreadHooks := ⟨cb_tw (i := 1078) (by decide +kernel), cb_tw (i := 9) (by decide +kernel), by decide, by decide⟩
theorem cs_X1_spreadHooks : ∀ X, cb_Bs md_X1_spreadHooks X → ∀ g ∈ md_X1_spreadHooks.ga, cb_CS cb_tb md_X1_spreadHooks X g := fun X B => List.forall_mem_cons.mpr ⟨cb_csN (host := "WallClocks") B ok_X9_bitOf nt_X9_bitOf wd_X9_bitOf (cb_tw (i := 1069) (by decide +kernel)) (cb_tw (i := 440) (by decide +kernel)) ⟨by decide, by decide⟩ (by decide +kernel), fun _ h => nomatch h⟩
theorem ok_X1_spreadHooks : cb_MOK cb_tb yX1_spreadHooks md_X1_spreadHooks pt_X1_spreadHooks := by
  refine cb_okm ⟨plainFor_of_name (by decide), rfl⟩ (by decide) cs_X1_spreadHooks (by decide) (fun X n0 f i r M hr ha h => ?_)
  have h0 := cb_a1 (T := 42) rfl ha
  subst h0
  match r, hr, h with
  | [.inl w], hr, h =>
    obtain ⟨P, m, hh, way, ⟨hP, hP2, hm, hm4, hhk, h1, h6, hw, hway⟩, h⟩ := h
    have elt : ∀ t, wq_e hh way t < hh := fun t => Nat.mod_lt _ (by omega)
    have loop : ∀ t, t ≤ m → ∀ (x y u : Int32) (M' : cb_M) (v : Option cb_V), x + 1 = nI (m - t) → y = nI (way / hh ^ t) → u = wq_use hh way t → cb_fr fr_ho M M' → (∀ l, l < m → m ≤ l + t → cb_gI M' 44 0 l = nI (wq_e hh way (m - 1 - l))) → wq_dis hh way t = true → cb_Gd cb_tb md_X1_spreadHooks X 31 [some (cb_r 42 0), some (cb_i (w)), some (cb_i (nI hh)), some (cb_i (y)), some (cb_i (u)), some (cb_i (x)), v] [] (cb_aS n0, f) M' 0 0 := by
      refine cb_up (fun t => ∀ (x y u : Int32) (M' : cb_M) (v : Option cb_V), x + 1 = nI (m - t) → y = nI (way / hh ^ t) → u = wq_use hh way t → cb_fr fr_ho M M' → (∀ l, l < m → m ≤ l + t → cb_gI M' 44 0 l = nI (wq_e hh way (m - 1 - l))) → wq_dis hh way t = true → cb_Gd cb_tb md_X1_spreadHooks X 31 [some (cb_r 42 0), some (cb_i (w)), some (cb_i (nI hh)), some (cb_i (y)), some (cb_i (u)), some (cb_i (x)), v] [] (cb_aS n0, f) M' 0 0) ?_ ?_
      · intro x y u M' v hx hy hu hF hd hz
        have hx : x = -1 := by
          have e : x + 1 - 1 = nI (m - m) - 1 := by rw [hx]
          rw [Int32.add_sub_cancel, Nat.sub_self] at e
          rw [e]
          decide
        refine cb_run cb_tb_ok vd_X1_spreadHooks (cuts := [31]) 90 ?_
        refine And.intro (fun _ => And.intro cb_rt1 ?_) (fun q => by subst hx; exact absurd (show (-1 : Int32) < 0 by decide) q)
        have := h M' hF (fun _ l hl => hd l hl (by omega))
        rw [hz] at this
        exact this
      · intro t ht ih x y u M' v hx hy hu hF hd hz
        have hx : x = nI (m - t - 1) := by
          have e : x + 1 - 1 = nI (m - t) - 1 := by rw [hx]
          rw [Int32.add_sub_cancel, show m - t = (m - t - 1) + 1 by omega, nI_pred] at e
          exact e
        have hyl : way / hh ^ t < 2 ^ 31 := Nat.lt_of_le_of_lt (Nat.div_le_self _ _) hway
        have er : cb_rem y (nI hh) = nI (wq_e hh way t) := by rw [hy, cb_rem_nI hyl (by omega) (by omega)]; rfl
        have ed : y / nI hh = nI (way / hh ^ (t + 1)) := by rw [hy, cb_div_nI hyl (by omega), Nat.pow_succ, Nat.div_div_eq_div_mul]
        have e32 : vp_in (cb_rem y (nI hh)) 32 := by rw [er]; exact vp_in_nI (by have := elt t; omega) (by decide)
        have ec : (cb_rem y (nI hh)).toNatClampNeg = wq_e hh way t := by rw [er]; exact nI_clamp (by have := elt t; omega)
        have ub : cb_bit u (wq_e hh way t) = (List.range t).any fun t' => decide (wq_e hh way t' = wq_e hh way t) := by rw [hu]; exact wq_use_bit h6 h1 t
        refine cb_run cb_tb_ok vd_X1_spreadHooks (cuts := [31]) 90 ?_
        refine And.intro (fun q => ?_) (fun _ => And.intro (nI_ne0 (by omega) (by omega)) (And.intro e32 (cb_ifn1 (fun q => ?_) (fun q => ?_))))
        · have q : x < 0 := q
          rw [hx] at q
          exact absurd q (nI_pos (by omega))
        · rw [ec, ub] at q
          have hz' : wq_dis hh way (t + 1) = true := by
            unfold wq_dis at *
            rw [cb_all_succ, hz, Bool.true_and]
            refine List.all_eq_true.mpr (fun t' ht' => decide_eq_true (fun w => ?_))
            have := List.any_eq_false.mp q t' ht'
            exact this (decide_eq_true w)
          have hx4 : vp_in x 4 := by rw [hx]; exact vp_in_nI (by omega) (by decide)
          have hxc : x.toNatClampNeg = m - t - 1 := by rw [hx]; exact nI_clamp (by omega)
          refine And.intro hx4 (And.intro (nI_ne0 (by omega) (by omega)) (ih _ _ _ _ _ ?_ ed ?_ (hF.set _ rfl) (fun l hl hlt => ?_) hz'))
          · show x + -1 + 1 = nI (m - (t + 1))
            rw [Int32.add_assoc, show (-1 : Int32) + 1 = 0 by decide, Int32.add_zero, hx]
            congr 1
          · show u ||| (1 : Int32) <<< (cb_rem y (nI hh) &&& 31) = _
            rw [hu, er]
            rfl
          · rw [cb_gI_sI, hxc]
            by_cases e : l = m - t - 1
            · rw [if_pos ⟨rfl, rfl, e⟩, er]
              congr 2
              omega
            · rw [if_neg (fun w => e w.2.2)]
              exact hd l hl (by omega)
        · rw [ec, ub] at q
          have hz' : wq_dis hh way m = false := by
            refine cb_all_miss ht ?_
            obtain ⟨t', ht', e⟩ := List.any_eq_true.mp q
            exact List.all_eq_false.mpr ⟨t', ht', by rw [decide_eq_false (fun w => w (of_decide_eq_true e))]; decide⟩
          have := h M' hF (fun w => by rw [hz'] at w; cases w)
          rw [hz'] at this
          exact And.intro cb_rt0 this
    refine cb_run cb_tb_ok vd_X1_spreadHooks (cuts := [31]) 90 ?_
    refine Exists.intro (some P) (And.intro hP (cb_av.of (cb_aPP hP2 rfl) (And.intro (fun _ => ?_) (fun q => ?_))))
    · have := loop 0 (Nat.zero_le _) (cb_gI M 42 0 3 - 1) w 0 M none (by rw [hm, Nat.sub_zero, Int32.sub_add_cancel]) (by rw [hw, Nat.pow_zero, Nat.div_one]) rfl (cb_fr.refl M) (fun l hl hl2 => absurd hl2 (by omega)) rfl
      show cb_Gd cb_tb md_X1_spreadHooks X 31 [some (cb_r 42 0), some (cb_i (w)), some (cb_i (cb_gI M 3 P 2)), some (cb_i (w)), some (cb_i (0)), some (cb_i (cb_gI M 42 0 3 - 1)), none] [] (cb_aS n0, f) M 0 0
      rw [hhk]
      exact this
    · have q : ¬ (1 : Int32) ≤ cb_gI M 3 P 2 := q
      rw [hhk] at q
      exact absurd (nI_le (a := 1) h1 (by omega)) q
