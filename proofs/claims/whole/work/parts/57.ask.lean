/-! ===== the reference: honest, winters, hook, clock, standing ===== -/
theorem cb_all_mono {F : Nat → Bool} {j k : Nat} (hj : j ≤ k) (h : (List.range j).all F = false) : (List.range k).all F = false := by
  cases z : (List.range k).all F with
  | false => rfl
  | true =>
    have : (List.range j).all F = true := List.all_eq_true.mpr (fun i hi => List.all_eq_true.mp z i (List.mem_range.mpr (Nat.lt_of_lt_of_le (List.mem_range.mp hi) hj)))
    rw [this] at h
    cases h
def sp_X10_honest : cb_Sp := fun _ r M K => match r with
  | [.inl N] => ∃ n h nb, mi_I M n h nb ∧ wg_r 1 100 N (mT 1 M K) fun k => mR (wm_mask (fun i => vq_hon (mv M n h nb) i k) n) M K
  | _ => False
def pt_X10_honest : cb_PT := cb_m 46 1 sp_X10_honest
theorem rc_X10_honest : cb_rc cb_tb RX10 pt_X10_honest := cb_m_rc rfl rfl
def md_X10_honest : cb_D := (RX10, cX10_honest, 6, (some .int), (0, 0, 7, 157), [
  (0, .aload_n 0, 1, 0, 0, 0, 0),
  (1, .iconst 0, 1, 0, 0, 0, 0),
  (2, .putfield 126, 3, 0, 10, 0, 1328),
  (5, .aload_n 0, 1, 0, 0, 0, 0),
  (6, .iload_n 1, 1, 0, 1, 0, 0),
  (7, .invokestatic 295, 3, 0, 0, 0, 0),
  (10, .ifCond .ne 7, 3, 0, 17, 0, 0),
  (13, .iconst 1, 1, 1, 0, 0, 0),
  (14, .goto 4, 3, 0, 18, 0, 0),
  (17, .iconst 0, 1, 0, 0, 0, 0),
  (18, .iconst 1, 1, 1, 0, 0, 0),
  (19, .invokevirtual 200, 3, 0, 1, 0, 0),
  (22, .ifCond .eq 5, 3, 0, 27, 0, 0),
  (25, .iconst 0, 1, 0, 0, 0, 0),
  (26, .ireturn, 1, 0, 0, 0, 0),
  (27, .iconst 0, 1, 0, 0, 0, 0),
  (28, .istore_n 2, 1, 0, 2, 0, 0),
  (29, .iconst 0, 1, 0, 0, 0, 0),
  (30, .istore_n 3, 1, 0, 3, 0, 0),
  (31, .iload_n 3, 1, 0, 3, 0, 0),
  (32, .aload_n 0, 1, 0, 0, 0, 0),
  (33, .getfield 20, 3, 0, 10, 10, 1338),
  (36, .iconst 1, 1, 1, 0, 0, 0),
  (37, .iaload, 1, 0, 0, 0, 0),
  (38, .if_icmp .ge 66, 3, 0, 104, 0, 0),
  (41, .iconst 1, 1, 1, 0, 0, 0),
  (42, .istore 4, 2, 0, 4, 0, 0),
  (44, .iconst 1, 1, 1, 0, 0, 0),
  (45, .istore 5, 2, 0, 5, 0, 0),
  (47, .iload 5, 2, 0, 5, 0, 0),
  (49, .iload_n 1, 1, 0, 1, 0, 0),
  (50, .if_icmp .gt 33, 3, 0, 83, 0, 0),
  (53, .iload 4, 2, 0, 4, 0, 0),
  (55, .ifCond .eq 28, 3, 0, 83, 0, 0),
  (58, .aload_n 0, 1, 0, 0, 0, 0),
  (59, .iconst 1, 1, 1, 0, 0, 0),
  (60, .iload_n 3, 1, 0, 3, 0, 0),
  (61, .ishl, 1, 0, 0, 0, 0),
  (62, .iload 5, 2, 0, 5, 0, 0),
  (64, .invokevirtual 311, 3, 0, 2, 0, 0),
  (67, .ifCond .eq 7, 3, 0, 74, 0, 0),
  (70, .iconst 1, 1, 1, 0, 0, 0),
  (71, .goto 4, 3, 0, 75, 0, 0),
  (74, .iconst 0, 1, 0, 0, 0, 0),
  (75, .istore 4, 2, 0, 4, 0, 0),
  (77, .iinc 5 1, 3, 1, 5, 0, 0),
  (80, .goto (-33), 3, 0, 47, 0, 0),
  (83, .iload_n 2, 1, 0, 2, 0, 0),
  (84, .iload 4, 2, 0, 4, 0, 0),
  (86, .ifCond .eq 9, 3, 0, 95, 0, 0),
  (89, .iconst 1, 1, 1, 0, 0, 0),
  (90, .iload_n 3, 1, 0, 3, 0, 0),
  (91, .ishl, 1, 0, 0, 0, 0),
  (92, .goto 4, 3, 0, 96, 0, 0),
  (95, .iconst 0, 1, 0, 0, 0, 0),
  (96, .ior, 1, 0, 0, 0, 0),
  (97, .istore_n 2, 1, 0, 2, 0, 0),
  (98, .iinc 3 1, 3, 1, 3, 0, 0),
  (101, .goto (-70), 3, 0, 31, 0, 0),
  (104, .iload_n 2, 1, 0, 2, 0, 0),
  (105, .ireturn, 1, 0, 0, 0, 0)],
  [(1, 295, 1, 0, 0, pt_X10_areDays), (0, 200, 3, 0, 0, pt_X10_bad), (0, 311, 3, 0, 0, pt_X10_rightBy)], [])
set_option maxRecDepth 100000 in
theorem vd_X10_honest : md_X10_honest.cd.all (cb_vE md_X10_honest) = true := by decide +kernel
theorem wd_X10_honest : cb_wd yX10_honest md_X10_honest := ⟨cb_tw (i := 1819) (by decide +kernel), cb_tw (i := 11) (by decide +kernel), by decide, by decide⟩
theorem cs_X10_honest : ∀ X, cb_Bs md_X10_honest X → ∀ g ∈ md_X10_honest.ga, cb_CS cb_tb md_X10_honest X g := fun X B => List.forall_mem_cons.mpr ⟨cb_csS B ok_X10_areDays wd_X10_areDays (cb_tw (i := 1702) (by decide +kernel)) (cb_tw (i := 1703) (by decide +kernel)) ⟨by decide, by decide⟩ (by decide +kernel), List.forall_mem_cons.mpr ⟨cb_csV B ok_X10_bad wd_X10_bad (cb_tw (i := 1507) (by decide +kernel)) (cb_tw (i := 1509) (by decide +kernel)) (cb_tp (i := 45) (by decide +kernel)) rc_X10_bad ⟨by decide, by decide⟩ (by decide +kernel), List.forall_mem_cons.mpr ⟨cb_csV B ok_X10_rightBy wd_X10_rightBy (cb_tw (i := 1745) (by decide +kernel)) (cb_tw (i := 1747) (by decide +kernel)) (cb_tp (i := 79) (by decide +kernel)) rc_X10_rightBy ⟨by decide, by decide⟩ (by decide +kernel), fun _ h => nomatch h⟩⟩⟩
theorem ok_X10_honest : cb_MOK cb_tb yX10_honest md_X10_honest pt_X10_honest := by
  refine cb_okm ⟨plainFor_of_name (by decide), rfl⟩ (by decide) cs_X10_honest (by decide) (fun X n0 f i r M hr ha h => ?_)
  have h0 := cb_a1 (T := 46) rfl ha
  subst h0
  match r, hr, h with
  | [.inl N], hr, h =>
    obtain ⟨n, hh, nb, hI, h⟩ := h
    obtain ⟨hn1, hn8, -⟩ := id hI.1
    refine cb_run cb_tb_ok vd_X10_honest (cuts := [31, 47]) 90 ?_
    refine And.intro trivial (cb_ifnz (fun q => And.intro (cb_on rfl) (bad_f rfl (by decide) (ez_f ?_))) (fun q => And.intro (cb_on rfl) (bad_t rfl (by decide) (ez_t (And.intro trivial (h.1 (mi_in_f q) _ (mx2 M 1) rfl))))))
    obtain ⟨k, k1, k2, ke⟩ := mi_in_yes (lo := 1) (hi := 100) (by decide) (by decide) q
    have h := h.2 k k1 k2 ke
    obtain ⟨V, hV⟩ : ∃ V, V = mv M n hh nb := ⟨_, rfl⟩
    have hVn : V.n = n := by rw [hV]; rfl
    rw [← hV] at h
    have inner : ∀ i, i < n → ∀ bits : Int32, (∀ b M2, b = vq_hon V i k → cb_fr fr_X M M2 → cb_gI M2 46 0 0 = 0 → ∀ v : Option cb_V, cb_Gd cb_tb md_X10_honest X 83 [some (cb_r 46 0), some (cb_i (N)), some (cb_i (bits)), some (cb_i (nI i)), some (cb_i (cb_z b)), v] [] (cb_aS n0, f) M2 0 0) →
        ∀ j, j ≤ k → ∀ (y : Int32) (b : Bool) (M2 : cb_M), y = nI (j + 1) → b = ((List.range j).all fun g => wm_rgt V.w (vq_al V i (g + 1))) → cb_fr fr_X M M2 → cb_gI M2 46 0 0 = 0 → cb_Gd cb_tb md_X10_honest X 47 [some (cb_r 46 0), some (cb_i (N)), some (cb_i (bits)), some (cb_i (nI i)), some (cb_i (cb_z b)), some (cb_i (y))] [] (cb_aS n0, f) M2 0 0 := by
      intro i hi bits hout
      refine cb_up (fun j => ∀ (y : Int32) (b : Bool) (M2 : cb_M), y = nI (j + 1) → b = ((List.range j).all fun g => wm_rgt V.w (vq_al V i (g + 1))) → cb_fr fr_X M M2 → cb_gI M2 46 0 0 = 0 → cb_Gd cb_tb md_X10_honest X 47 [some (cb_r 46 0), some (cb_i (N)), some (cb_i (bits)), some (cb_i (nI i)), some (cb_i (cb_z b)), some (cb_i (y))] [] (cb_aS n0, f) M2 0 0) ?_ ?_
      · intro y b M2 hy hb hF h0
        refine cb_run cb_tb_ok vd_X10_honest (cuts := [31, 47, 83]) 90 ?_
        exact And.intro (fun _ => hout b M2 hb hF h0 _) (fun q => absurd (show N < y by rw [hy, ke]; exact nI_lt (by omega) (by omega)) q)
      · intro j hj ih y b M2 hy hb hF h0
        have hI2 := mi_I_X hF hI
        refine cb_run cb_tb_ok vd_X10_honest (cuts := [31, 47, 83]) 90 ?_
        refine And.intro (fun q => absurd q (show ¬ N < y by rw [hy, ke]; exact Int32.not_lt.mpr (nI_le (by omega) (by omega)))) (fun _ => cb_ifz (fun q => hout b M2 ?_ hF h0 _) (fun q => And.intro (cb_on rfl) ⟨n, hh, nb, j + 1, ⟨hI2, hy, by omega⟩, fun M3 hF3 h03 => ?_⟩))
        · rw [q]
          exact (cb_all_mono (Nat.le_of_lt hj) (hb.symm.trans q)).symm
        · rw [mv_X hF, ← hV]
          have nx : ∀ b' : Bool, b' = wm_rgt V.w (vq_al V i (j + 1)) → cb_Gd cb_tb md_X10_honest X 47 [some (cb_r 46 0), some (cb_i (N)), some (cb_i (bits)), some (cb_i (nI i)), some (cb_i (cb_z b')), some (cb_i ((y + 1)))] [] (cb_aS n0, f) M3 0 0 := fun b' hb' => ih _ b' M3 (by rw [hy, nI_1]) (by rw [cb_all_succ, ← hb, q, hb']; rfl) (hF.trans hF3) (h03.trans h0)
          have e0 := vq_rb0 (V := V) (i := i) (k := j + 1) (by omega) (by omega)
          refine And.intro (fun q1 => ?_) (fun q1 => ?_)
          · have q1 : vq_rts V (wm_b1 i) (vq_tr V (wm_b1 i) (j + 1)) = 0 := q1
            exact nx false (e0.mp q1).symm
          · have q1 : ¬ vq_rts V (wm_b1 i) (vq_tr V (wm_b1 i) (j + 1)) = 0 := q1
            refine nx true ?_
            cases z : wm_rgt V.w (vq_al V i (j + 1)) with
            | true => rfl
            | false => exact absurd (e0.mpr z) q1
    have loop : ∀ i, i ≤ n → ∀ (y bits : Int32) (v w : Option cb_V) (M2 : cb_M), y = nI i → bits = wm_mask (fun i => vq_hon V i k) i → cb_fr fr_X M M2 → cb_gI M2 46 0 0 = 0 → cb_Gd cb_tb md_X10_honest X 31 [some (cb_r 46 0), some (cb_i (N)), some (cb_i (bits)), some (cb_i (y)), v, w] [] (cb_aS n0, f) M2 0 0 := by
      refine cb_up (fun i => ∀ (y bits : Int32) (v w : Option cb_V) (M2 : cb_M), y = nI i → bits = wm_mask (fun i => vq_hon V i k) i → cb_fr fr_X M M2 → cb_gI M2 46 0 0 = 0 → cb_Gd cb_tb md_X10_honest X 31 [some (cb_r 46 0), some (cb_i (N)), some (cb_i (bits)), some (cb_i (y)), v, w] [] (cb_aS n0, f) M2 0 0) ?_ ?_
      · intro y bits v w M2 hy hb hF h0
        refine cb_run cb_tb_ok vd_X10_honest (cuts := [31, 47]) 90 ?_
        exact And.intro (mi_v 1 (by decide)) (cb_lout hy ((hF.1 49 0 1 rfl).trans hn1) (And.intro trivial (cb_eqK (h M2 hF h0) hb)))
      · intro i hi ih y bits v w M2 hy hb hF h0
        subst hy
        refine cb_run cb_tb_ok vd_X10_honest (cuts := [31, 47]) 90 ?_
        refine And.intro (mi_v 1 (by decide)) (cb_lin rfl ((hF.1 49 0 1 rfl).trans hn1) hi (by omega) ?_)
        refine inner i hi bits (fun b M3 hb3 hF3 h03 v => ?_) 0 (Nat.zero_le _) _ true M2 rfl rfl hF h0
        refine cb_run cb_tb_ok vd_X10_honest (cuts := [31]) 90 ?_
        refine cb_ifz (fun q => ih _ _ _ _ M3 (nI_1 i) ?_ hF3 h03) (fun q => ih _ _ _ _ M3 (nI_1 i) ?_ hF3 h03)
        · rw [wm_mask, ← hb3, q, ← hb]
          rfl
        · rw [wm_mask, ← hb3, q, ← hb]
          rfl
    exact loop 0 (Nat.zero_le _) _ _ _ _ _ rfl rfl (mx1 M) rfl
def sp_X10_winterOff : cb_Sp := fun _ r M K => match r with
  | [.inl x, .inl N, .inl seed] => ∃ n h nb k i, (mi_I M n h nb ∧ N = nI k ∧ k ≤ 400 ∧ x = nI i ∧ i < n) ∧ ∀ M', cb_fr fr_X M M' → cb_gI M' 46 0 0 = cb_gI M 46 0 0 → K (some (cb_i ((vq_win (mv M n h nb) seed k).2.2 i))) M'
  | _ => False
def pt_X10_winterOff : cb_PT := cb_m 46 3 sp_X10_winterOff
theorem rc_X10_winterOff : cb_rc cb_tb RX10 pt_X10_winterOff := cb_m_rc rfl rfl
def md_X10_winterOff : cb_D := (RX10, cX10_winterOff, 4, (some .int), (0, 0, 6, 134), [
  (0, .aload_n 0, 1, 0, 0, 0, 0),
  (1, .iconst 1, 1, 1, 0, 0, 0),
  (2, .putfield 248, 3, 0, 10, 44, 1372),
  (5, .aload_n 0, 1, 0, 0, 0, 0),
  (6, .iload_n 3, 1, 0, 3, 0, 0),
  (7, .putfield 251, 3, 0, 10, 43, 1371),
  (10, .aload_n 0, 1, 0, 0, 0, 0),
  (11, .iload_n 2, 1, 0, 2, 0, 0),
  (12, .invokevirtual 276, 3, 0, 0, 0, 0),
  (15, .aload_n 0, 1, 0, 0, 0, 0),
  (16, .iconst 0, 1, 0, 0, 0, 0),
  (17, .putfield 248, 3, 0, 10, 44, 1372),
  (20, .aload_n 0, 1, 0, 0, 0, 0),
  (21, .getfield 97, 3, 0, 10, 38, 1366),
  (24, .iload_n 1, 1, 0, 1, 0, 0),
  (25, .iaload, 1, 0, 0, 0, 0),
  (26, .ireturn, 1, 0, 0, 0, 0)],
  [(0, 276, 2, 0, 0, pt_X10_goesOn)], [])
set_option maxRecDepth 100000 in
theorem vd_X10_winterOff : md_X10_winterOff.cd.all (cb_vE md_X10_winterOff) = true := by decide +kernel
theorem wd_X10_winterOff : cb_wd yX10_winterOff md_X10_winterOff := ⟨cb_tw (i := 1851) (by decide +kernel), cb_tw (i := 11) (by decide +kernel), by decide, by decide⟩
theorem cs_X10_winterOff : ∀ X, cb_Bs md_X10_winterOff X → ∀ g ∈ md_X10_winterOff.ga, cb_CS cb_tb md_X10_winterOff X g := fun X B => List.forall_mem_cons.mpr ⟨cb_csV B ok_X10_goesOn wd_X10_goesOn (cb_tw (i := 1646) (by decide +kernel)) (cb_tw (i := 1648) (by decide +kernel)) (cb_tp (i := 68) (by decide +kernel)) rc_X10_goesOn ⟨by decide, by decide⟩ (by decide +kernel), fun _ h => nomatch h⟩
theorem ok_X10_winterOff : cb_MOK cb_tb yX10_winterOff md_X10_winterOff pt_X10_winterOff := by
  refine cb_okm ⟨plainFor_of_name (by decide), rfl⟩ (by decide) cs_X10_winterOff (by decide) (fun X n0 f i r M hr ha h => ?_)
  have h0 := cb_a1 (T := 46) rfl ha
  subst h0
  match r, hr, h with
  | [.inl x, .inl N, .inl seed], hr, h =>
    obtain ⟨n, hh, nb, k, i, ⟨hI, hN, hk, hx, hi⟩, h⟩ := h
    obtain ⟨hG, -, hp, -, -, ⟨d, hd, hday⟩, hu, hw, hpr⟩ := id hI
    obtain ⟨hn1, hn8, -⟩ := id hG
    have hx8 : vp_in x 8 := by rw [hx]; exact cb_in8 hi hn8 (by decide)
    have hxc : x.toNatClampNeg = i := by rw [hx]; exact nI_clamp (by omega)
    refine cb_run cb_tb_ok vd_X10_winterOff (cuts := []) 90 ?_
    refine And.intro (cb_on rfl) ⟨n, k, d, ⟨hG, fun a ha => (hp a ha).2, hN, by omega, hday, by omega, hpr⟩, fun M1 hF1 hP1 _ hs1 => And.intro hx8 (And.intro trivial (cb_eqK (h (cb_sI M1 46 0 44 0) ?_ ?_) ?_))⟩
    · refine cb_fr.tmp (v := 1) (M := M) ?_ hw
      exact (((cb_fr.refl (cb_sI M 46 0 44 1)).set (t := 46) (i := 0) (j := 43) seed rfl)).trans (hF1.mono fr_n_X)
    · exact hF1.1 46 0 0 rfl
    · have hs1 := hs1 (show ¬ (1 : Int32) = 0 by decide)
      rw [hxc]
      show cb_gI M1 81 0 i = _
      rw [← show (mk_s M1 n).2.2 i = cb_gI M1 81 0 i from wn_tr_lt hi, hs1]
      unfold vq_win
      rw [← mv_c hI]
      show (wn_win (mk_c M n) (mk_u M n) (cb_gI M 53 0) (mk_b M n) seed k).1.2.2 i = (wn_win (mk_c M n) (wu_all n) (wn_tr 400 (cb_gI M 53 0)) (mk_b M n) seed k).1.2.2 i
      rw [wn_win_tr, mu_all hn8 hu hpr]
def sp_X10_winter : cb_Sp := fun _ r M K => match r with
  | [.inl x, .inl N, .inl seed] => ∃ n h nb, mi_I M n h nb ∧ wg_c n x (mT 1 M K) fun i => wg_r 1 100 N (mT 2 M K) fun k => mR ((vq_win (mv M n h nb) seed k).2.2 i) M K
  | _ => False
def pt_X10_winter : cb_PT := cb_m 46 3 sp_X10_winter
theorem rc_X10_winter : cb_rc cb_tb RX10 pt_X10_winter := cb_m_rc rfl rfl
def md_X10_winter : cb_D := (RX10, cX10_winter, 4, (some .int), (0, 0, 7, 157), [
  (0, .aload_n 0, 1, 0, 0, 0, 0),
  (1, .iconst 0, 1, 0, 0, 0, 0),
  (2, .putfield 126, 3, 0, 10, 0, 1328),
  (5, .aload_n 0, 1, 0, 0, 0, 0),
  (6, .aload_n 0, 1, 0, 0, 0, 0),
  (7, .iload_n 1, 1, 0, 1, 0, 0),
  (8, .invokevirtual 267, 3, 0, 0, 0, 0),
  (11, .ifCond .ne 7, 3, 0, 18, 0, 0),
  (14, .iconst 1, 1, 1, 0, 0, 0),
  (15, .goto 4, 3, 0, 19, 0, 0),
  (18, .iconst 0, 1, 0, 0, 0, 0),
  (19, .iconst 1, 1, 1, 0, 0, 0),
  (20, .invokevirtual 200, 3, 0, 1, 0, 0),
  (23, .ifCond .ne 23, 3, 0, 46, 0, 0),
  (26, .aload_n 0, 1, 0, 0, 0, 0),
  (27, .iload_n 2, 1, 0, 2, 0, 0),
  (28, .invokestatic 295, 3, 0, 2, 0, 0),
  (31, .ifCond .ne 7, 3, 0, 38, 0, 0),
  (34, .iconst 1, 1, 1, 0, 0, 0),
  (35, .goto 4, 3, 0, 39, 0, 0),
  (38, .iconst 0, 1, 0, 0, 0, 0),
  (39, .iconst 2, 1, 2, 0, 0, 0),
  (40, .invokevirtual 200, 3, 0, 1, 0, 0),
  (43, .ifCond .eq 5, 3, 0, 48, 0, 0),
  (46, .iconst 0, 1, 0, 0, 0, 0),
  (47, .ireturn, 1, 0, 0, 0, 0),
  (48, .aload_n 0, 1, 0, 0, 0, 0),
  (49, .iload_n 1, 1, 0, 1, 0, 0),
  (50, .iload_n 2, 1, 0, 2, 0, 0),
  (51, .iload_n 3, 1, 0, 3, 0, 0),
  (52, .invokevirtual 356, 3, 0, 3, 0, 0),
  (55, .ireturn, 1, 0, 0, 0, 0)],
  [(0, 267, 2, 0, 0, pt_X10_isClock), (0, 200, 3, 0, 0, pt_X10_bad), (1, 295, 1, 0, 0, pt_X10_areDays), (0, 356, 4, 0, 0, pt_X10_winterOff)], [])
set_option maxRecDepth 100000 in
theorem vd_X10_winter : md_X10_winter.cd.all (cb_vE md_X10_winter) = true := by decide +kernel
theorem wd_X10_winter : cb_wd yX10_winter md_X10_winter := ⟨cb_tw (i := 1847) (by decide +kernel), cb_tw (i := 11) (by decide +kernel), by decide, by decide⟩
theorem cs_X10_winter : ∀ X, cb_Bs md_X10_winter X → ∀ g ∈ md_X10_winter.ga, cb_CS cb_tb md_X10_winter X g := fun X B => List.forall_mem_cons.mpr ⟨cb_csV B ok_X10_isClock wd_X10_isClock (cb_tw (i := 1581) (by decide +kernel)) (cb_tw (i := 1583) (by decide +kernel)) (cb_tp (i := 58) (by decide +kernel)) rc_X10_isClock ⟨by decide, by decide⟩ (by decide +kernel), List.forall_mem_cons.mpr ⟨cb_csV B ok_X10_bad wd_X10_bad (cb_tw (i := 1507) (by decide +kernel)) (cb_tw (i := 1509) (by decide +kernel)) (cb_tp (i := 45) (by decide +kernel)) rc_X10_bad ⟨by decide, by decide⟩ (by decide +kernel), List.forall_mem_cons.mpr ⟨cb_csS B ok_X10_areDays wd_X10_areDays (cb_tw (i := 1702) (by decide +kernel)) (cb_tw (i := 1703) (by decide +kernel)) ⟨by decide, by decide⟩ (by decide +kernel), List.forall_mem_cons.mpr ⟨cb_csV B ok_X10_winterOff wd_X10_winterOff (cb_tw (i := 1848) (by decide +kernel)) (cb_tw (i := 1850) (by decide +kernel)) (cb_tp (i := 86) (by decide +kernel)) rc_X10_winterOff ⟨by decide, by decide⟩ (by decide +kernel), fun _ h => nomatch h⟩⟩⟩⟩
theorem ok_X10_winter : cb_MOK cb_tb yX10_winter md_X10_winter pt_X10_winter := by
  refine cb_okm ⟨plainFor_of_name (by decide), rfl⟩ (by decide) cs_X10_winter (by decide) (fun X n0 f i r M hr ha h => ?_)
  have h0 := cb_a1 (T := 46) rfl ha
  subst h0
  match r, hr, h with
  | [.inl x, .inl N, .inl seed], hr, h =>
    obtain ⟨n, hh, nb, hI, h⟩ := h
    obtain ⟨hn1, hn8, -⟩ := id hI.1
    refine cb_run cb_tb_ok vd_X10_winter (cuts := []) 90 ?_
    refine And.intro (cb_on rfl) ⟨n, ⟨hn1, hn8⟩, cb_ifnz (fun q => And.intro (cb_on rfl) (bad_f rfl (by decide) (nz_f ?_))) (fun q => And.intro (cb_on rfl) (bad_t rfl (by decide) (nz_t (And.intro trivial (h.1 (mi_c_f (by omega) q) _ (mx2 M 1) rfl)))))⟩
    obtain ⟨i, hi, hx⟩ := wg_yes (by omega) ((mi_c_iff (by omega)).mp q)
    have h := h.2 i hi hx
    refine And.intro trivial (cb_ifnz (fun q => And.intro (cb_on rfl) (bad_f rfl (by decide) (ez_f ?_))) (fun q => And.intro (cb_on rfl) (bad_t rfl (by decide) (ez_t (And.intro trivial (h.1 (mi_in_f q) _ (mx2 M 2) rfl))))))
    obtain ⟨k, k1, k2, ke⟩ := mi_in_yes (lo := 1) (hi := 100) (by decide) (by decide) q
    have h := h.2 k k1 k2 ke
    refine And.intro (cb_on rfl) ⟨n, hh, nb, k, i, ⟨mi_I_X (mx1 M) hI, ke, by omega, hx, hi⟩, fun M2 hF2 h02 => And.intro trivial (cb_eqK (h M2 ((mx1 M).trans hF2) h02) ?_)⟩
    rw [mv_X (mx1 M)]
def sp_X10_winters : cb_Sp := fun _ r M K => match r with
  | [.inl x, .inl N, .inl seed, .inl many] => ∃ n h nb, mi_I M n h nb ∧ wg_c n x (mT 1 M K) fun i => wg_r 1 100 N (mT 2 M K) fun k => wg_r 1 60 many (mT 2 M K) fun j => mR (vq_wins (mv M n h nb) i k seed j) M K
  | _ => False
def pt_X10_winters : cb_PT := cb_m 46 4 sp_X10_winters
theorem rc_X10_winters : cb_rc cb_tb RX10 pt_X10_winters := cb_m_rc rfl rfl
def md_X10_winters : cb_D := (RX10, cX10_winters, 7, (some .int), (0, 0, 7, 157), [
  (0, .aload_n 0, 1, 0, 0, 0, 0),
  (1, .iconst 0, 1, 0, 0, 0, 0),
  (2, .putfield 126, 3, 0, 10, 0, 1328),
  (5, .aload_n 0, 1, 0, 0, 0, 0),
  (6, .aload_n 0, 1, 0, 0, 0, 0),
  (7, .iload_n 1, 1, 0, 1, 0, 0),
  (8, .invokevirtual 267, 3, 0, 0, 0, 0),
  (11, .ifCond .ne 7, 3, 0, 18, 0, 0),
  (14, .iconst 1, 1, 1, 0, 0, 0),
  (15, .goto 4, 3, 0, 19, 0, 0),
  (18, .iconst 0, 1, 0, 0, 0, 0),
  (19, .iconst 1, 1, 1, 0, 0, 0),
  (20, .invokevirtual 200, 3, 0, 1, 0, 0),
  (23, .ifCond .ne 34, 3, 0, 57, 0, 0),
  (26, .aload_n 0, 1, 0, 0, 0, 0),
  (27, .iload_n 2, 1, 0, 2, 0, 0),
  (28, .invokestatic 295, 3, 0, 2, 0, 0),
  (31, .ifCond .eq 14, 3, 0, 45, 0, 0),
  (34, .iload 4, 2, 0, 4, 0, 0),
  (36, .iconst 1, 1, 1, 0, 0, 0),
  (37, .bipush 60, 2, 60, 0, 0, 0),
  (39, .invokestatic 160, 3, 0, 3, 0, 0),
  (42, .ifCond .ne 7, 3, 0, 49, 0, 0),
  (45, .iconst 1, 1, 1, 0, 0, 0),
  (46, .goto 4, 3, 0, 50, 0, 0),
  (49, .iconst 0, 1, 0, 0, 0, 0),
  (50, .iconst 2, 1, 2, 0, 0, 0),
  (51, .invokevirtual 200, 3, 0, 1, 0, 0),
  (54, .ifCond .eq 5, 3, 0, 59, 0, 0),
  (57, .iconst 0, 1, 0, 0, 0, 0),
  (58, .ireturn, 1, 0, 0, 0, 0),
  (59, .iconst 0, 1, 0, 0, 0, 0),
  (60, .istore 5, 2, 0, 5, 0, 0),
  (62, .iconst 0, 1, 0, 0, 0, 0),
  (63, .istore 6, 2, 0, 6, 0, 0),
  (65, .iload 6, 2, 0, 6, 0, 0),
  (67, .iload 4, 2, 0, 4, 0, 0),
  (69, .if_icmp .ge 36, 3, 0, 105, 0, 0),
  (72, .iload 5, 2, 0, 5, 0, 0),
  (74, .aload_n 0, 1, 0, 0, 0, 0),
  (75, .aload_n 0, 1, 0, 0, 0, 0),
  (76, .iload_n 1, 1, 0, 1, 0, 0),
  (77, .iload_n 2, 1, 0, 2, 0, 0),
  (78, .iload_n 3, 1, 0, 3, 0, 0),
  (79, .iload 6, 2, 0, 6, 0, 0),
  (81, .iadd, 1, 0, 0, 0, 0),
  (82, .invokevirtual 356, 3, 0, 4, 0, 0),
  (85, .invokevirtual 283, 3, 0, 5, 0, 0),
  (88, .ifCond .eq 7, 3, 0, 95, 0, 0),
  (91, .iconst 1, 1, 1, 0, 0, 0),
  (92, .goto 4, 3, 0, 96, 0, 0),
  (95, .iconst 0, 1, 0, 0, 0, 0),
  (96, .iadd, 1, 0, 0, 0, 0),
  (97, .istore 5, 2, 0, 5, 0, 0),
  (99, .iinc 6 1, 3, 1, 6, 0, 0),
  (102, .goto (-37), 3, 0, 65, 0, 0),
  (105, .iload 5, 2, 0, 5, 0, 0),
  (107, .ireturn, 1, 0, 0, 0, 0)],
  [(0, 267, 2, 0, 0, pt_X10_isClock), (0, 200, 3, 0, 0, pt_X10_bad), (1, 295, 1, 0, 0, pt_X10_areDays), (1, 160, 3, 0, 0, pt_X10_in), (0, 356, 4, 0, 0, pt_X10_winterOff), (0, 283, 2, 0, 0, pt_X10_isRight)], [])
set_option maxRecDepth 100000 in
theorem vd_X10_winters : md_X10_winters.cd.all (cb_vE md_X10_winters) = true := by decide +kernel
theorem wd_X10_winters : cb_wd yX10_winters md_X10_winters := ⟨cb_tw (i := 1855) (by decide +kernel), cb_tw (i := 11) (by decide +kernel), by decide, by decide⟩
theorem cs_X10_winters : ∀ X, cb_Bs md_X10_winters X → ∀ g ∈ md_X10_winters.ga, cb_CS cb_tb md_X10_winters X g := fun X B => List.forall_mem_cons.mpr ⟨cb_csV B ok_X10_isClock wd_X10_isClock (cb_tw (i := 1581) (by decide +kernel)) (cb_tw (i := 1583) (by decide +kernel)) (cb_tp (i := 58) (by decide +kernel)) rc_X10_isClock ⟨by decide, by decide⟩ (by decide +kernel), List.forall_mem_cons.mpr ⟨cb_csV B ok_X10_bad wd_X10_bad (cb_tw (i := 1507) (by decide +kernel)) (cb_tw (i := 1509) (by decide +kernel)) (cb_tp (i := 45) (by decide +kernel)) rc_X10_bad ⟨by decide, by decide⟩ (by decide +kernel), List.forall_mem_cons.mpr ⟨cb_csS B ok_X10_areDays wd_X10_areDays (cb_tw (i := 1702) (by decide +kernel)) (cb_tw (i := 1703) (by decide +kernel)) ⟨by decide, by decide⟩ (by decide +kernel), List.forall_mem_cons.mpr ⟨cb_csS B ok_X10_in wd_X10_in (cb_tw (i := 1504) (by decide +kernel)) (cb_tw (i := 1505) (by decide +kernel)) ⟨by decide, by decide⟩ (by decide +kernel), List.forall_mem_cons.mpr ⟨cb_csV B ok_X10_winterOff wd_X10_winterOff (cb_tw (i := 1848) (by decide +kernel)) (cb_tw (i := 1850) (by decide +kernel)) (cb_tp (i := 86) (by decide +kernel)) rc_X10_winterOff ⟨by decide, by decide⟩ (by decide +kernel), List.forall_mem_cons.mpr ⟨cb_csV B ok_X10_isRight wd_X10_isRight (cb_tw (i := 1678) (by decide +kernel)) (cb_tw (i := 1680) (by decide +kernel)) (cb_tp (i := 72) (by decide +kernel)) rc_X10_isRight ⟨by decide, by decide⟩ (by decide +kernel), fun _ h => nomatch h⟩⟩⟩⟩⟩⟩
theorem ok_X10_winters : cb_MOK cb_tb yX10_winters md_X10_winters pt_X10_winters := by
  refine cb_okm ⟨plainFor_of_name (by decide), rfl⟩ (by decide) cs_X10_winters (by decide) (fun X n0 f i r M hr ha h => ?_)
  have h0 := cb_a1 (T := 46) rfl ha
  subst h0
  match r, hr, h with
  | [.inl x, .inl N, .inl seed, .inl many], hr, h =>
    obtain ⟨n, hh, nb, hI, h⟩ := h
    obtain ⟨hn1, hn8, -⟩ := id hI.1
    refine cb_run cb_tb_ok vd_X10_winters (cuts := [65]) 90 ?_
    refine And.intro (cb_on rfl) ⟨n, ⟨hn1, hn8⟩, cb_ifnz (fun q => And.intro (cb_on rfl) (bad_f rfl (by decide) (nz_f ?_))) (fun q => And.intro (cb_on rfl) (bad_t rfl (by decide) (nz_t (And.intro trivial (h.1 (mi_c_f (by omega) q) _ (mx2 M 1) rfl)))))⟩
    obtain ⟨i, hi, hx⟩ := wg_yes (by omega) ((mi_c_iff (by omega)).mp q)
    have h := h.2 i hi hx
    refine And.intro trivial (cb_ifz (fun q => And.intro (cb_on rfl) (bad_t rfl (by decide) (ez_t (And.intro trivial (h.1 (mi_in_f q) _ (mx2 M 2) rfl))))) (fun q => ?_))
    obtain ⟨k, k1, k2, ke⟩ := mi_in_yes (lo := 1) (hi := 100) (by decide) (by decide) q
    have h := h.2 k k1 k2 ke
    refine cb_ifnz (fun q => And.intro (cb_on rfl) (bad_f rfl (by decide) (ez_f ?_))) (fun q => And.intro (cb_on rfl) (bad_t rfl (by decide) (ez_t (And.intro trivial (h.1 (mi_in_f q) _ (mx2 M 2) rfl)))))
    obtain ⟨mm, mm1, mm2, mme⟩ := mi_in_yes (lo := 1) (hi := 60) (by decide) (by decide) q
    have h := h.2 mm mm1 mm2 mme
    obtain ⟨V, hV⟩ : ∃ V, V = mv M n hh nb := ⟨_, rfl⟩
    have hw : V.w = cb_gI M 49 0 3 := by rw [hV]; rfl
    rw [← hV] at h
    have loop : ∀ j, j ≤ mm → ∀ (y s : Int32) (M2 : cb_M), y = nI j → s = wm_sum (fun j => cb_z (wm_rgt V.w ((vq_win V (seed + nI j) k).2.2 i))) j → cb_fr fr_X M M2 → cb_gI M2 46 0 0 = 0 → cb_Gd cb_tb md_X10_winters X 65 [some (cb_r 46 0), some (cb_i (x)), some (cb_i (N)), some (cb_i (seed)), some (cb_i (many)), some (cb_i (s)), some (cb_i (y))] [] (cb_aS n0, f) M2 0 0 := by
      refine cb_up (fun j => ∀ (y s : Int32) (M2 : cb_M), y = nI j → s = wm_sum (fun j => cb_z (wm_rgt V.w ((vq_win V (seed + nI j) k).2.2 i))) j → cb_fr fr_X M M2 → cb_gI M2 46 0 0 = 0 → cb_Gd cb_tb md_X10_winters X 65 [some (cb_r 46 0), some (cb_i (x)), some (cb_i (N)), some (cb_i (seed)), some (cb_i (many)), some (cb_i (s)), some (cb_i (y))] [] (cb_aS n0, f) M2 0 0) ?_ ?_
      · intro y s M2 hy hs hF h0
        refine cb_run cb_tb_ok vd_X10_winters (cuts := [65]) 90 ?_
        exact cb_lout hy mme (And.intro trivial (cb_eqK (h M2 hF h0) hs))
      · intro j hj ih y s M2 hy hs hF h0
        subst hy
        refine cb_run cb_tb_ok vd_X10_winters (cuts := [65]) 90 ?_
        refine cb_lin rfl mme hj (by omega) (And.intro (cb_on rfl) ⟨n, hh, nb, k, i, ⟨mi_I_X hF hI, ke, by omega, hx, hi⟩, fun M3 hF3 h03 => And.intro (cb_on rfl) ?_⟩)
        rw [mv_X hF, ← hV]
        have e3 : cb_gI M3 49 0 3 = V.w := by rw [hF3.1 49 0 3 rfl, hF.1 49 0 3 rfl, hw]
        show (cb_z (wm_rgt (cb_gI M3 49 0 3) ((vq_win V (seed + nI j) k).2.2 i)) = 0 → _) ∧ (¬ cb_z (wm_rgt (cb_gI M3 49 0 3) ((vq_win V (seed + nI j) k).2.2 i)) = 0 → _)
        rw [e3]
        refine cb_ifz (fun q => ih _ _ M3 (nI_1 j) ?_ (hF.trans hF3) (h03.trans h0)) (fun q => ih _ _ M3 (nI_1 j) ?_ (hF.trans hF3) (h03.trans h0))
        · rw [wm_sum, q, ← hs]
          rfl
        · rw [wm_sum, q, ← hs]
          rfl
    exact loop 0 (Nat.zero_le _) _ _ _ rfl rfl (mx1 M) rfl
def sp_X10_hook : cb_Sp := fun _ r M K => match r with
  | [.inl x, .inl y] => ∃ n h nb, mi_I M n h nb ∧ wg_c h x (mT 1 M K) fun i => wg_r 0 1 y (mT 2 M K) fun k => mR (if k = 0 then (mv M n h nb).hb i else (mv M n h nb).hp i) M K
  | _ => False
def pt_X10_hook : cb_PT := cb_m 46 2 sp_X10_hook
theorem rc_X10_hook : cb_rc cb_tb RX10 pt_X10_hook := cb_m_rc rfl rfl
def md_X10_hook : cb_D := (RX10, cX10_hook, 3, (some .int), (0, 0, 2, 43), [
  (0, .aload_n 0, 1, 0, 0, 0, 0),
  (1, .iconst 0, 1, 0, 0, 0, 0),
  (2, .putfield 126, 3, 0, 10, 0, 1328),
  (5, .aload_n 0, 1, 0, 0, 0, 0),
  (6, .aload_n 0, 1, 0, 0, 0, 0),
  (7, .iload_n 1, 1, 0, 1, 0, 0),
  (8, .invokevirtual 298, 3, 0, 0, 0, 0),
  (11, .ifCond .ne 7, 3, 0, 18, 0, 0),
  (14, .iconst 1, 1, 1, 0, 0, 0),
  (15, .goto 4, 3, 0, 19, 0, 0),
  (18, .iconst 0, 1, 0, 0, 0, 0),
  (19, .iconst 1, 1, 1, 0, 0, 0),
  (20, .invokevirtual 200, 3, 0, 1, 0, 0),
  (23, .ifCond .ne 25, 3, 0, 48, 0, 0),
  (26, .aload_n 0, 1, 0, 0, 0, 0),
  (27, .iload_n 2, 1, 0, 2, 0, 0),
  (28, .iconst 0, 1, 0, 0, 0, 0),
  (29, .iconst 1, 1, 1, 0, 0, 0),
  (30, .invokestatic 160, 3, 0, 2, 0, 0),
  (33, .ifCond .ne 7, 3, 0, 40, 0, 0),
  (36, .iconst 1, 1, 1, 0, 0, 0),
  (37, .goto 4, 3, 0, 41, 0, 0),
  (40, .iconst 0, 1, 0, 0, 0, 0),
  (41, .iconst 2, 1, 2, 0, 0, 0),
  (42, .invokevirtual 200, 3, 0, 1, 0, 0),
  (45, .ifCond .eq 5, 3, 0, 50, 0, 0),
  (48, .iconst 0, 1, 0, 0, 0, 0),
  (49, .ireturn, 1, 0, 0, 0, 0),
  (50, .iload_n 2, 1, 0, 2, 0, 0),
  (51, .ifCond .ne 12, 3, 0, 63, 0, 0),
  (54, .aload_n 0, 1, 0, 0, 0, 0),
  (55, .getfield 79, 3, 0, 10, 29, 1357),
  (58, .iload_n 1, 1, 0, 1, 0, 0),
  (59, .iaload, 1, 0, 0, 0, 0),
  (60, .goto 9, 3, 0, 69, 0, 0),
  (63, .aload_n 0, 1, 0, 0, 0, 0),
  (64, .getfield 82, 3, 0, 10, 30, 1358),
  (67, .iload_n 1, 1, 0, 1, 0, 0),
  (68, .iaload, 1, 0, 0, 0, 0),
  (69, .ireturn, 1, 0, 0, 0, 0)],
  [(0, 298, 2, 0, 0, pt_X10_isHook), (0, 200, 3, 0, 0, pt_X10_bad), (1, 160, 3, 0, 0, pt_X10_in)], [])
set_option maxRecDepth 100000 in
theorem vd_X10_hook : md_X10_hook.cd.all (cb_vE md_X10_hook) = true := by decide +kernel
theorem wd_X10_hook : cb_wd yX10_hook md_X10_hook := ⟨cb_tw (i := 1720) (by decide +kernel), cb_tw (i := 11) (by decide +kernel), by decide, by decide⟩
theorem cs_X10_hook : ∀ X, cb_Bs md_X10_hook X → ∀ g ∈ md_X10_hook.ga, cb_CS cb_tb md_X10_hook X g := fun X B => List.forall_mem_cons.mpr ⟨cb_csV B ok_X10_isHook wd_X10_isHook (cb_tw (i := 1709) (by decide +kernel)) (cb_tw (i := 1711) (by decide +kernel)) (cb_tp (i := 75) (by decide +kernel)) rc_X10_isHook ⟨by decide, by decide⟩ (by decide +kernel), List.forall_mem_cons.mpr ⟨cb_csV B ok_X10_bad wd_X10_bad (cb_tw (i := 1507) (by decide +kernel)) (cb_tw (i := 1509) (by decide +kernel)) (cb_tp (i := 45) (by decide +kernel)) rc_X10_bad ⟨by decide, by decide⟩ (by decide +kernel), List.forall_mem_cons.mpr ⟨cb_csS B ok_X10_in wd_X10_in (cb_tw (i := 1504) (by decide +kernel)) (cb_tw (i := 1505) (by decide +kernel)) ⟨by decide, by decide⟩ (by decide +kernel), fun _ h => nomatch h⟩⟩⟩
theorem ok_X10_hook : cb_MOK cb_tb yX10_hook md_X10_hook pt_X10_hook := by
  refine cb_okm ⟨plainFor_of_name (by decide), rfl⟩ (by decide) cs_X10_hook (by decide) (fun X n0 f i r M hr ha h => ?_)
  have h0 := cb_a1 (T := 46) rfl ha
  subst h0
  match r, hr, h with
  | [.inl y, .inl z], hr, h =>
    obtain ⟨n, hh, nb, hI, h⟩ := h
    obtain ⟨hG, ⟨hh1, hh6, -⟩, -⟩ := id hI
    refine cb_run cb_tb_ok vd_X10_hook (cuts := []) 90 ?_
    refine And.intro (cb_on rfl) ⟨hh, ⟨hh1, by omega⟩, cb_ifnz (fun q => And.intro (cb_on rfl) (bad_f rfl (by decide) (nz_f ?_))) (fun q => And.intro (cb_on rfl) (bad_t rfl (by decide) (nz_t (And.intro trivial (h.1 (mi_c_f (by omega) q) _ (mx2 M 1) rfl)))))⟩
    obtain ⟨l, hl, hy⟩ := wg_yes (by omega) ((mi_c_iff (by omega)).mp q)
    have h := h.2 l hl hy
    refine cb_ifnz (fun q => And.intro (cb_on rfl) (bad_f rfl (by decide) (ez_f ?_))) (fun q => And.intro (cb_on rfl) (bad_t rfl (by decide) (ez_t (And.intro trivial (h.1 (mi_in_f q) _ (mx2 M 2) rfl)))))
    obtain ⟨k, k1, k2, ke⟩ := mi_in_yes (lo := 0) (hi := 1) (by decide) (by decide) q
    have h := h.2 k k1 k2 ke
    have hx8 : vp_in y 6 := by rw [hy]; exact vp_in_nI (by omega) (by decide)
    have hxc : y.toNatClampNeg = l := by rw [hy]; exact nI_clamp (by omega)
    refine cb_ifne (fun q => And.intro hx8 (And.intro trivial (cb_eqK (h _ (mx1 M) rfl) ?_))) (fun q => And.intro hx8 (And.intro trivial (cb_eqK (h _ (mx1 M) rfl) ?_)))
    · rw [if_neg (fun w => q (by rw [ke, w]; rfl)), hxc]
      exact (wn_tr_lt hl).symm
    · rw [ke] at q
      rw [if_pos ((nI_eq (b := 0) (by omega) (by decide)).mp q), hxc]
      exact (wn_tr_lt hl).symm
