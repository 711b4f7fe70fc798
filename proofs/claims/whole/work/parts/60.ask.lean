/-! ===== the reference: pushed, groups, bound ===== -/
def sp_X10_pushed : cb_Sp := fun _ r M K => match r with
  | [.inl ms, .inl N] => ∃ n h nb, mi_I M n h nb ∧ wg_i 1 200 ms (mT 1 M K) (wg_r 1 100 N (mT 1 M K) fun k => mR (vq_push (mv M n h nb) ms k) M K)
  | _ => False
theorem wn_same_mk {ph ph' : wm_F} {n : Nat} (h1 : ∀ i, i < n → wm_ph (ph i)) (h2 : ∀ i, i < n → wm_ph (ph' i)) : ((List.range n).all fun i => (List.range i).all fun j => wn_in ph i j == wn_in ph' i j) = wn_same ph ph' n := by
  unfold wn_same
  refine cb_all_cong (fun i hi => cb_all_cong (fun j hj => ?_))
  have hi := List.mem_range.mp hi
  have hj := List.mem_range.mp hj
  rw [wn_in_sym (h1 i hi) (h1 j (by omega)), wn_in_sym (h2 i hi) (h2 j (by omega))]
def pt_X10_pushed : cb_PT := cb_m 46 2 sp_X10_pushed
theorem rc_X10_pushed : cb_rc cb_tb RX10 pt_X10_pushed := cb_m_rc rfl rfl
def md_X10_pushed : cb_D := (RX10, cX10_pushed, 7, (some .int), (0, 0, 6, 134), [
  (0, .aload_n 0, 1, 0, 0, 0, 0),
  (1, .iconst 0, 1, 0, 0, 0, 0),
  (2, .putfield 126, 3, 0, 10, 0, 1328),
  (5, .aload_n 0, 1, 0, 0, 0, 0),
  (6, .iload_n 1, 1, 0, 1, 0, 0),
  (7, .iconst 1, 1, 1, 0, 0, 0),
  (8, .sipush 200, 3, 200, 0, 0, 0),
  (11, .invokestatic 160, 3, 0, 0, 0, 0),
  (14, .ifCond .eq 10, 3, 0, 24, 0, 0),
  (17, .iload_n 2, 1, 0, 2, 0, 0),
  (18, .invokestatic 295, 3, 0, 1, 0, 0),
  (21, .ifCond .ne 7, 3, 0, 28, 0, 0),
  (24, .iconst 1, 1, 1, 0, 0, 0),
  (25, .goto 4, 3, 0, 29, 0, 0),
  (28, .iconst 0, 1, 0, 0, 0, 0),
  (29, .iconst 1, 1, 1, 0, 0, 0),
  (30, .invokevirtual 200, 3, 0, 2, 0, 0),
  (33, .ifCond .eq 5, 3, 0, 38, 0, 0),
  (36, .iconst 0, 1, 0, 0, 0, 0),
  (37, .ireturn, 1, 0, 0, 0, 0),
  (38, .iconst 0, 1, 0, 0, 0, 0),
  (39, .istore_n 3, 1, 0, 3, 0, 0),
  (40, .iconst 0, 1, 0, 0, 0, 0),
  (41, .istore 4, 2, 0, 4, 0, 0),
  (43, .iload 4, 2, 0, 4, 0, 0),
  (45, .aload_n 0, 1, 0, 0, 0, 0),
  (46, .getfield 20, 3, 0, 10, 10, 1338),
  (49, .iconst 1, 1, 1, 0, 0, 0),
  (50, .iaload, 1, 0, 0, 0, 0),
  (51, .if_icmp .ge 64, 3, 0, 115, 0, 0),
  (54, .iconst 0, 1, 0, 0, 0, 0),
  (55, .istore 5, 2, 0, 5, 0, 0),
  (57, .iload 5, 2, 0, 5, 0, 0),
  (59, .iload 4, 2, 0, 4, 0, 0),
  (61, .if_icmp .ge 48, 3, 0, 109, 0, 0),
  (64, .aload_n 0, 1, 0, 0, 0, 0),
  (65, .getfield 113, 3, 0, 10, 47, 1375),
  (68, .iload 4, 2, 0, 4, 0, 0),
  (70, .bipush 8, 2, 8, 0, 0, 0),
  (72, .imul, 1, 0, 0, 0, 0),
  (73, .iload 5, 2, 0, 5, 0, 0),
  (75, .iadd, 1, 0, 0, 0, 0),
  (76, .aload_n 0, 1, 0, 0, 0, 0),
  (77, .getfield 70, 3, 0, 10, 26, 1354),
  (80, .iload 4, 2, 0, 4, 0, 0),
  (82, .iaload, 1, 0, 0, 0, 0),
  (83, .aload_n 0, 1, 0, 0, 0, 0),
  (84, .getfield 70, 3, 0, 10, 26, 1354),
  (87, .iload 5, 2, 0, 5, 0, 0),
  (89, .iaload, 1, 0, 0, 0, 0),
  (90, .invokestatic 280, 3, 0, 3, 0, 0),
  (93, .iconst 2, 1, 2, 0, 0, 0),
  (94, .if_icmp .ne 7, 3, 0, 101, 0, 0),
  (97, .iconst 1, 1, 1, 0, 0, 0),
  (98, .goto 4, 3, 0, 102, 0, 0),
  (101, .iconst 0, 1, 0, 0, 0, 0),
  (102, .iastore, 1, 0, 0, 0, 0),
  (103, .iinc 5 1, 3, 1, 5, 0, 0),
  (106, .goto (-49), 3, 0, 57, 0, 0),
  (109, .iinc 4 1, 3, 1, 4, 0, 0),
  (112, .goto (-69), 3, 0, 43, 0, 0),
  (115, .iconst 0, 1, 0, 0, 0, 0),
  (116, .istore 4, 2, 0, 4, 0, 0),
  (118, .iload 4, 2, 0, 4, 0, 0),
  (120, .aload_n 0, 1, 0, 0, 0, 0),
  (121, .getfield 20, 3, 0, 10, 10, 1338),
  (124, .iconst 1, 1, 1, 0, 0, 0),
  (125, .iaload, 1, 0, 0, 0, 0),
  (126, .if_icmp .ge 86, 3, 0, 212, 0, 0),
  (129, .aload_n 0, 1, 0, 0, 0, 0),
  (130, .getfield 70, 3, 0, 10, 26, 1354),
  (133, .iload 4, 2, 0, 4, 0, 0),
  (135, .iaload, 1, 0, 0, 0, 0),
  (136, .istore 5, 2, 0, 5, 0, 0),
  (138, .iconst (-1), 1, (-1), 0, 0, 0),
  (139, .istore 6, 2, 0, 6, 0, 0),
  (141, .iload 6, 2, 0, 6, 0, 0),
  (143, .iconst 2, 1, 2, 0, 0, 0),
  (144, .if_icmp .ge 62, 3, 0, 206, 0, 0),
  (147, .aload_n 0, 1, 0, 0, 0, 0),
  (148, .getfield 70, 3, 0, 10, 26, 1354),
  (151, .iload 4, 2, 0, 4, 0, 0),
  (153, .iload 5, 2, 0, 5, 0, 0),
  (155, .iload 6, 2, 0, 6, 0, 0),
  (157, .iload_n 1, 1, 0, 1, 0, 0),
  (158, .imul, 1, 0, 0, 0, 0),
  (159, .iadd, 1, 0, 0, 0, 0),
  (160, .sipush 1000, 3, 1000, 0, 0, 0),
  (163, .invokestatic 233, 3, 0, 4, 0, 0),
  (166, .iastore, 1, 0, 0, 0, 0),
  (167, .aload_n 0, 1, 0, 0, 0, 0),
  (168, .iload_n 2, 1, 0, 2, 0, 0),
  (169, .invokevirtual 276, 3, 0, 5, 0, 0),
  (172, .aload_n 0, 1, 0, 0, 0, 0),
  (173, .getfield 70, 3, 0, 10, 26, 1354),
  (176, .iload 4, 2, 0, 4, 0, 0),
  (178, .iload 5, 2, 0, 5, 0, 0),
  (180, .iastore, 1, 0, 0, 0, 0),
  (181, .iload_n 3, 1, 0, 3, 0, 0),
  (182, .aload_n 0, 1, 0, 0, 0, 0),
  (183, .aload_n 0, 1, 0, 0, 0, 0),
  (184, .getfield 113, 3, 0, 10, 47, 1375),
  (187, .invokevirtual 304, 3, 0, 6, 0, 0),
  (190, .ifCond .eq 7, 3, 0, 197, 0, 0),
  (193, .iconst 1, 1, 1, 0, 0, 0),
  (194, .goto 4, 3, 0, 198, 0, 0),
  (197, .iconst 0, 1, 0, 0, 0, 0),
  (198, .iadd, 1, 0, 0, 0, 0),
  (199, .istore_n 3, 1, 0, 3, 0, 0),
  (200, .iinc 6 2, 3, 2, 6, 0, 0),
  (203, .goto (-62), 3, 0, 141, 0, 0),
  (206, .iinc 4 1, 3, 1, 4, 0, 0),
  (209, .goto (-91), 3, 0, 118, 0, 0),
  (212, .iload_n 3, 1, 0, 3, 0, 0),
  (213, .ireturn, 1, 0, 0, 0, 0)],
  [(1, 160, 3, 0, 0, pt_X10_in), (1, 295, 1, 0, 0, pt_X10_areDays), (0, 200, 3, 0, 0, pt_X10_bad), (1, 280, 2, 0, 0, pt_X10_stepBy), (1, 233, 2, 0, 0, pt_X10_round), (0, 276, 2, 0, 0, pt_X10_goesOn), (0, 304, 2, 0, 0, pt_X10_areAsNow)], [])
set_option maxRecDepth 100000 in
theorem vd_X10_pushed : md_X10_pushed.cd.all (cb_vE md_X10_pushed) = true := by decide +kernel
theorem wd_X10_pushed : cb_wd yX10_pushed md_X10_pushed := ⟨cb_tw (i := 1728) (by decide +kernel), cb_tw (i := 11) (by decide +kernel), by decide, by decide⟩
theorem cs_X10_pushed : ∀ X, cb_Bs md_X10_pushed X → ∀ g ∈ md_X10_pushed.ga, cb_CS cb_tb md_X10_pushed X g := fun X B => List.forall_mem_cons.mpr ⟨cb_csS B ok_X10_in wd_X10_in (cb_tw (i := 1504) (by decide +kernel)) (cb_tw (i := 1505) (by decide +kernel)) ⟨by decide, by decide⟩ (by decide +kernel), List.forall_mem_cons.mpr ⟨cb_csS B ok_X10_areDays wd_X10_areDays (cb_tw (i := 1702) (by decide +kernel)) (cb_tw (i := 1703) (by decide +kernel)) ⟨by decide, by decide⟩ (by decide +kernel), List.forall_mem_cons.mpr ⟨cb_csV B ok_X10_bad wd_X10_bad (cb_tw (i := 1507) (by decide +kernel)) (cb_tw (i := 1509) (by decide +kernel)) (cb_tp (i := 45) (by decide +kernel)) rc_X10_bad ⟨by decide, by decide⟩ (by decide +kernel), List.forall_mem_cons.mpr ⟨cb_csS B ok_X10_stepBy wd_X10_stepBy (cb_tw (i := 1667) (by decide +kernel)) (cb_tw (i := 1668) (by decide +kernel)) ⟨by decide, by decide⟩ (by decide +kernel), List.forall_mem_cons.mpr ⟨cb_csS B ok_X10_round wd_X10_round (cb_tw (i := 1623) (by decide +kernel)) (cb_tw (i := 1624) (by decide +kernel)) ⟨by decide, by decide⟩ (by decide +kernel), List.forall_mem_cons.mpr ⟨cb_csV B ok_X10_goesOn wd_X10_goesOn (cb_tw (i := 1646) (by decide +kernel)) (cb_tw (i := 1648) (by decide +kernel)) (cb_tp (i := 68) (by decide +kernel)) rc_X10_goesOn ⟨by decide, by decide⟩ (by decide +kernel), List.forall_mem_cons.mpr ⟨cb_csV B ok_X10_areAsNow wd_X10_areAsNow (cb_tw (i := 1729) (by decide +kernel)) (cb_tw (i := 1731) (by decide +kernel)) (cb_tp (i := 77) (by decide +kernel)) rc_X10_areAsNow ⟨by decide, by decide⟩ (by decide +kernel), fun _ h => nomatch h⟩⟩⟩⟩⟩⟩⟩
theorem ok_X10_pushed : cb_MOK cb_tb yX10_pushed md_X10_pushed pt_X10_pushed := by
  refine cb_okm ⟨plainFor_of_name (by decide), rfl⟩ (by decide) cs_X10_pushed (by decide) (fun X n0 f i r M hr ha h => ?_)
  have h0 := cb_a1 (T := 46) rfl ha
  subst h0
  match r, hr, h with
  | [.inl ms, .inl N], hr, h =>
    obtain ⟨n, hh, nb, hI, h⟩ := h
    obtain ⟨hG, -, hp, -⟩ := id hI
    obtain ⟨hn1, hn8, -⟩ := id hG
    refine cb_run cb_tb_ok vd_X10_pushed (cuts := [43]) 90 ?_
    refine cb_ifz (fun q => And.intro (cb_on rfl) (bad_t rfl (by decide) (ez_t (And.intro trivial (h.1 (mi_in_f q) _ (mx2 M 1) rfl))))) (fun q => ?_)
    have h := h.2 (mi_in_t q)
    refine And.intro trivial (cb_ifnz (fun q => And.intro (cb_on rfl) (bad_f rfl (by decide) (ez_f ?_))) (fun q => And.intro (cb_on rfl) (bad_t rfl (by decide) (ez_t (And.intro trivial (h.1 (mi_in_f q) _ (mx2 M 1) rfl))))))
    obtain ⟨k, k1, k2, ke⟩ := mi_in_yes (lo := 1) (hi := 100) (by decide) (by decide) q
    have h := h.2 k k1 k2 ke
    obtain ⟨V, hV⟩ : ∃ V, V = mv M n hh nb := ⟨_, rfl⟩
    have hVn : V.n = n := by rw [hV]; rfl
    have hVp : ∀ i, i < n → V.s.2.1 i = cb_gI M 69 0 i := fun i hi => by rw [hV]; exact wn_tr_lt hi
    rw [← hV] at h
    have body : ∀ i, i < n → ∀ (sg sm : Int32) (M2 : cb_M), ¬ 2 ≤ sg → cb_fr fr_X M M2 → cb_gI M2 46 0 0 = 0 → (∀ a b, b < a → a < n → cb_gI M2 85 0 (a * 8 + b) = cb_z (wn_in V.s.2.1 a b)) →
        (∀ M3, cb_fr fr_X M M3 → cb_gI M3 46 0 0 = 0 → (∀ a b, b < a → a < n → cb_gI M3 85 0 (a * 8 + b) = cb_z (wn_in V.s.2.1 a b)) → cb_Gd cb_tb md_X10_pushed X 141 [some (cb_r 46 0), some (cb_i (ms)), some (cb_i (N)), some (cb_i (sm + vq_p1 V ms k i sg)), some (cb_i (nI i)), some (cb_i (cb_gI M 69 0 i)), some (cb_i (sg + 2))] [] (cb_aS n0, f) M3 0 0) → cb_Gd cb_tb md_X10_pushed X 141 [some (cb_r 46 0), some (cb_i (ms)), some (cb_i (N)), some (cb_i (sm)), some (cb_i (nI i)), some (cb_i (cb_gI M 69 0 i)), some (cb_i (sg))] [] (cb_aS n0, f) M2 0 0 := by
      intro i hi sg sm M2 hsg hF h0 hpr nx
      have hic : (nI i).toNatClampNeg = i := nI_clamp (by omega)
      have hi8 : vp_in (nI i) 8 := cb_in8 hi hn8 (by decide)
      refine cb_run cb_tb_ok vd_X10_pushed (cuts := [141]) 90 ?_
      refine And.intro (fun q => absurd q hsg) (fun _ => And.intro rfl (And.intro hi8 (And.intro (cb_on rfl) ?_)))
      obtain ⟨p, hpd⟩ : ∃ p, p = wm_fmod (cb_gI M 69 0 i + sg * ms) 1000 := ⟨_, rfl⟩
      show sp_X10_goesOn 0 [.inl N] (cb_sI M2 69 0 (nI i).toNatClampNeg (wm_fmod (cb_gI M 69 0 i + sg * ms) 1000)) _
      rw [hic, ← hpd]
      have hF' : cb_fr fr_X (cb_sI M 69 0 i (cb_gI M 69 0 i)) M2 := by rw [cb_sI_self]; exact hF
      refine mg_pon hI (hF'.re p) (by rw [hpd]; exact wm_fmod_ph _) hi ke (by omega) (fun M3 hF3 hP3 hs3 => And.intro hi8 (And.intro (cb_on rfl) ?_))
      show sp_X10_areAsNow 0 [cb_r 85 0] (cb_sI M3 69 0 (nI i).toNatClampNeg (cb_gI M 69 0 i)) _
      rw [hic]
      have hF4 : cb_fr fr_X M (cb_sI M3 69 0 i (cb_gI M 69 0 i)) := cb_fr.tmp ((hF'.re p).trans (hF3.mono fr_n_X)) rfl
      have hpr3 : ∀ a b, b < a → a < n → cb_gI (cb_sI M3 69 0 i (cb_gI M 69 0 i)) 85 0 (a * 8 + b) = cb_z (wn_in V.s.2.1 a b) := fun a b h1 h2 => by
        show cb_gI M3 85 0 (a * 8 + b) = _
        rw [hF3.1 85 0 _ rfl]
        exact hpr a b h1 h2
      have h04 : cb_gI (cb_sI M3 69 0 i (cb_gI M 69 0 i)) 46 0 0 = 0 := (hF3.1 46 0 0 rfl).trans h0
      refine ⟨rfl, rfl, n, wn_in V.s.2.1, ⟨(hF4.1 49 0 1 rfl).trans hn1, hn8, hP3, hpr3⟩, ?_⟩
      have e1 : ((List.range n).all fun a => (List.range a).all fun b => wn_in (cb_gI M3 80 0) a b == wn_in V.s.2.1 a b) = wn_same (vq_pon V i p k).2.1 V.s.2.1 n := by
        rw [wn_same_mk hP3 (fun a ha => by rw [hVp a ha]; exact (hp a ha).2)]
        unfold wn_same
        refine cb_all_cong (fun b hb => cb_all_cong (fun a ha' => ?_))
        have hb := List.mem_range.mp hb
        have ha' := List.mem_range.mp ha'
        rw [hV, ← hs3]
        unfold wn_in
        rw [show (mk_s M3 n).2.1 a = cb_gI M3 80 0 a from wn_tr_lt (by omega), show (mk_s M3 n).2.1 b = cb_gI M3 80 0 b from wn_tr_lt hb]
      have ep1 : vq_p1 V ms k i sg = cb_z (wn_same (vq_pon V i p k).2.1 V.s.2.1 n) := by
        unfold vq_p1
        rw [hVp i hi, ← hpd, hVn]
      have nx := nx _ hF4 h04 hpr3
      rw [ep1] at nx
      show (cb_z ((List.range n).all fun a => (List.range a).all fun b => wn_in (cb_gI M3 80 0) a b == wn_in V.s.2.1 a b) = 0 → _) ∧ (¬ cb_z ((List.range n).all fun a => (List.range a).all fun b => wn_in (cb_gI M3 80 0) a b == wn_in V.s.2.1 a b) = 0 → _)
      rw [e1]
      refine cb_ifz (fun q => ?_) (fun q => ?_)
      · rw [q] at nx
        exact nx
      · rw [q] at nx
        exact nx
    have third : ∀ i, i ≤ n → ∀ (y sm : Int32) (v w : Option cb_V) (M2 : cb_M), y = nI i → sm = wm_sum (fun i => vq_p1 V ms k i (-1) + vq_p1 V ms k i 1) i → cb_fr fr_X M M2 → cb_gI M2 46 0 0 = 0 → (∀ a b, b < a → a < n → cb_gI M2 85 0 (a * 8 + b) = cb_z (wn_in V.s.2.1 a b)) → cb_Gd cb_tb md_X10_pushed X 118 [some (cb_r 46 0), some (cb_i (ms)), some (cb_i (N)), some (cb_i (sm)), some (cb_i (y)), v, w] [] (cb_aS n0, f) M2 0 0 := by
      refine cb_up (fun i => ∀ (y sm : Int32) (v w : Option cb_V) (M2 : cb_M), y = nI i → sm = wm_sum (fun i => vq_p1 V ms k i (-1) + vq_p1 V ms k i 1) i → cb_fr fr_X M M2 → cb_gI M2 46 0 0 = 0 → (∀ a b, b < a → a < n → cb_gI M2 85 0 (a * 8 + b) = cb_z (wn_in V.s.2.1 a b)) → cb_Gd cb_tb md_X10_pushed X 118 [some (cb_r 46 0), some (cb_i (ms)), some (cb_i (N)), some (cb_i (sm)), some (cb_i (y)), v, w] [] (cb_aS n0, f) M2 0 0) ?_ ?_
      · intro y sm v w M2 hy hsm hF h0 hpr
        refine cb_run cb_tb_ok vd_X10_pushed (cuts := [118, 141]) 90 ?_
        refine And.intro (mi_v 1 (by decide)) (cb_lout hy ((hF.1 49 0 1 rfl).trans hn1) (And.intro trivial (cb_eqK (h M2 hF h0) ?_)))
        unfold vq_push
        rw [hVn]
        exact hsm
      · intro i hi ih y sm v w M2 hy hsm hF h0 hpr
        subst hy
        have hic : (nI i).toNatClampNeg = i := nI_clamp (by omega)
        have hi8 : vp_in (nI i) 8 := cb_in8 hi hn8 (by decide)
        refine cb_run cb_tb_ok vd_X10_pushed (cuts := [118, 141]) 90 ?_
        refine And.intro (mi_v 1 (by decide)) (cb_lin rfl ((hF.1 49 0 1 rfl).trans hn1) hi (by omega) (And.intro hi8 ?_))
        show cb_Gd cb_tb md_X10_pushed X 141 [some (cb_r 46 0), some (cb_i (ms)), some (cb_i (N)), some (cb_i (sm)), some (cb_i (nI i)), some (cb_i (cb_gI M2 69 0 (nI i).toNatClampNeg)), some (cb_i (-1))] [] (cb_aS n0, f) M2 0 0
        rw [hic, hF.1 69 0 i rfl]
        refine body i hi (-1) sm M2 (by decide) hF h0 hpr (fun M3 hF3 h03 hpr3 => body i hi 1 _ M3 (by decide) hF3 h03 hpr3 (fun M4 hF4 h04 hpr4 => ?_))
        refine cb_run cb_tb_ok vd_X10_pushed (cuts := [118, 141]) 90 ?_
        refine And.intro (fun _ => ?_) (fun q => absurd (show (2 : Int32) ≤ 1 + 2 by decide) q)
        refine ih _ _ _ _ M4 (nI_1 i) ?_ hF4 h04 hpr4
        rw [wm_sum, ← hsm, Int32.add_assoc]
    have inner : ∀ i, i < n → (∀ (v : Option cb_V) (M2 : cb_M), cb_fr fr_X M M2 → cb_gI M2 46 0 0 = 0 → (∀ a b, b < a → a < i + 1 → cb_gI M2 85 0 (a * 8 + b) = cb_z (wn_in V.s.2.1 a b)) → cb_Gd cb_tb md_X10_pushed X 109 [some (cb_r 46 0), some (cb_i (ms)), some (cb_i (N)), some (cb_i (0)), some (cb_i (nI i)), v, none] [] (cb_aS n0, f) M2 0 0) →
        ∀ j, j ≤ i → ∀ (y : Int32) (M2 : cb_M), y = nI j → cb_fr fr_X M M2 → cb_gI M2 46 0 0 = 0 → (∀ a b, b < a → (a < i ∨ (a = i ∧ b < j)) → cb_gI M2 85 0 (a * 8 + b) = cb_z (wn_in V.s.2.1 a b)) → cb_Gd cb_tb md_X10_pushed X 57 [some (cb_r 46 0), some (cb_i (ms)), some (cb_i (N)), some (cb_i (0)), some (cb_i (nI i)), some (cb_i (y)), none] [] (cb_aS n0, f) M2 0 0 := by
      intro i hi hout
      have hic : (nI i).toNatClampNeg = i := nI_clamp (by omega)
      have hi8 : vp_in (nI i) 8 := cb_in8 hi hn8 (by decide)
      refine cb_up (fun j => ∀ (y : Int32) (M2 : cb_M), y = nI j → cb_fr fr_X M M2 → cb_gI M2 46 0 0 = 0 → (∀ a b, b < a → (a < i ∨ (a = i ∧ b < j)) → cb_gI M2 85 0 (a * 8 + b) = cb_z (wn_in V.s.2.1 a b)) → cb_Gd cb_tb md_X10_pushed X 57 [some (cb_r 46 0), some (cb_i (ms)), some (cb_i (N)), some (cb_i (0)), some (cb_i (nI i)), some (cb_i (y)), none] [] (cb_aS n0, f) M2 0 0) ?_ ?_
      · intro y M2 hy hF h0 hpr
        refine cb_run cb_tb_ok vd_X10_pushed (cuts := [57, 109]) 90 ?_
        exact cb_lout hy rfl (hout _ M2 hF h0 (fun a b h1 h2 => hpr a b h1 (by omega)))
      · intro j hj ih y M2 hy hF h0 hpr
        subst hy
        have hjc : (nI j).toNatClampNeg = j := nI_clamp (by omega)
        have hj8 : vp_in (nI j) 8 := cb_in8 (show j < n by omega) hn8 (by decide)
        have ex : nI i * 8 + nI j = nI (i * 8 + j) := by rw [show (8 : Int32) = nI 8 from rfl, show nI i * nI 8 = nI (i * 8) from (Int32.ofNat_mul i 8).symm, nI_add]
        have hx64 : vp_in (nI i * 8 + nI j) 64 := by rw [ex]; exact vp_in_nI (by omega) (by decide)
        have hxc : (nI i * 8 + nI j).toNatClampNeg = i * 8 + j := by rw [ex]; exact nI_clamp (by omega)
        have nx : ∀ b : Bool, b = wn_in V.s.2.1 i j → cb_Gd cb_tb md_X10_pushed X 57 [some (cb_r 46 0), some (cb_i (ms)), some (cb_i (N)), some (cb_i (0)), some (cb_i (nI i)), some (cb_i (nI j + 1)), none] [] (cb_aS n0, f) (cb_sI M2 85 0 (i * 8 + j) (cb_z b)) 0 0 := fun b hb => by
          refine ih _ _ (nI_1 j) (hF.set _ rfl) h0 (fun a c h1 h2 => ?_)
          by_cases e : a = i ∧ c = j
          · rw [e.1, e.2, cb_gs_eq, hb]
          · rw [cb_gs_ne (fun w => e ⟨by omega, by omega⟩)]
            exact hpr a c h1 (by omega)
        have ein : wn_in V.s.2.1 i j = decide (wm_beat (wm_ap (cb_gI M2 69 0 i) (cb_gI M2 69 0 j)) = 2) := by
          unfold wn_in
          rw [hVp i hi, hVp j (by omega), hF.1 69 0 i rfl, hF.1 69 0 j rfl]
        refine cb_run cb_tb_ok vd_X10_pushed (cuts := [57]) 90 ?_
        refine cb_lin rfl rfl hj (by omega) (And.intro hi8 (And.intro hj8 (And.intro ?_ ?_)))
        · rw [hic, hjc, hF.1 69 0 i rfl, hF.1 69 0 j rfl]
          exact ⟨(hp i hi).2, (hp j (by omega)).2⟩
        · rw [hic, hjc]
          refine cb_ifne (fun q1 => And.intro hx64 ?_) (fun q1 => And.intro hx64 ?_)
          · show cb_Gd cb_tb md_X10_pushed X 57 [some (cb_r 46 0), some (cb_i (ms)), some (cb_i (N)), some (cb_i (0)), some (cb_i (nI i)), some (cb_i (nI j + 1)), none] [] (cb_aS n0, f) (cb_sI M2 85 0 (nI i * 8 + nI j).toNatClampNeg (cb_z false)) 0 0
            rw [hxc]
            exact nx false (by rw [ein, decide_eq_false q1])
          · show cb_Gd cb_tb md_X10_pushed X 57 [some (cb_r 46 0), some (cb_i (ms)), some (cb_i (N)), some (cb_i (0)), some (cb_i (nI i)), some (cb_i (nI j + 1)), none] [] (cb_aS n0, f) (cb_sI M2 85 0 (nI i * 8 + nI j).toNatClampNeg (cb_z true)) 0 0
            rw [hxc]
            exact nx true (by rw [ein, decide_eq_true q1])
    have first : ∀ i, i ≤ n → ∀ (y : Int32) (v : Option cb_V) (M2 : cb_M), y = nI i → cb_fr fr_X M M2 → cb_gI M2 46 0 0 = 0 → (∀ a b, b < a → a < i → cb_gI M2 85 0 (a * 8 + b) = cb_z (wn_in V.s.2.1 a b)) → cb_Gd cb_tb md_X10_pushed X 43 [some (cb_r 46 0), some (cb_i (ms)), some (cb_i (N)), some (cb_i (0)), some (cb_i (y)), v, none] [] (cb_aS n0, f) M2 0 0 := by
      refine cb_up (fun i => ∀ (y : Int32) (v : Option cb_V) (M2 : cb_M), y = nI i → cb_fr fr_X M M2 → cb_gI M2 46 0 0 = 0 → (∀ a b, b < a → a < i → cb_gI M2 85 0 (a * 8 + b) = cb_z (wn_in V.s.2.1 a b)) → cb_Gd cb_tb md_X10_pushed X 43 [some (cb_r 46 0), some (cb_i (ms)), some (cb_i (N)), some (cb_i (0)), some (cb_i (y)), v, none] [] (cb_aS n0, f) M2 0 0) ?_ ?_
      · intro y v M2 hy hF h0 hpr
        refine cb_run cb_tb_ok vd_X10_pushed (cuts := [43, 57, 118]) 90 ?_
        refine And.intro (mi_v 1 (by decide)) (cb_lout hy ((hF.1 49 0 1 rfl).trans hn1) ?_)
        exact third 0 (Nat.zero_le _) _ _ _ _ M2 rfl rfl hF h0 hpr
      · intro i hi ih y v M2 hy hF h0 hpr
        subst hy
        refine cb_run cb_tb_ok vd_X10_pushed (cuts := [43, 57]) 90 ?_
        refine And.intro (mi_v 1 (by decide)) (cb_lin rfl ((hF.1 49 0 1 rfl).trans hn1) hi (by omega) ?_)
        refine inner i hi (fun v M3 hF3 h03 hpr3 => ?_) 0 (Nat.zero_le _) _ M2 rfl hF h0 (fun a b h1 h2 => hpr a b h1 (by omega))
        refine cb_run cb_tb_ok vd_X10_pushed (cuts := [43]) 90 ?_
        exact ih _ _ M3 (nI_1 i) hF3 h03 hpr3
    exact first 0 (Nat.zero_le _) _ _ _ rfl (mx1 M) rfl (fun a b h1 h2 => absurd h2 (by omega))
/-! sets by labels -/
def wl_cp (n : Nat) (R : Nat → Nat → Prop) (a b : Nat) : Prop := ∀ f : Nat → Nat, (∀ x y, x < n → y < n → R x y → f x = f y) → f a = f b
def wl_L (n : Nat) (L : wm_F) (R : Nat → Nat → Prop) : Prop := ∀ x, x < n → ∀ y, y < n → (L x = L y ↔ wl_cp n R x y)
theorem wl_L_join {n : Nat} {L : wm_F} {R R' : Nat → Nat → Prop} {a b : Nat} (ha : a < n) (hb : b < n) (h : wl_L n L R) (hR : ∀ x y, R' x y ↔ R x y ∨ (x = a ∧ y = b)) {L' : wm_F} (hL : ∀ x, x < n → L' x = if L x = L a then L b else L x) : wl_L n L' R' := by
  have mono : ∀ {x y}, wl_cp n R x y → wl_cp n R' x y := fun hh f hf => hh f (fun u v hu hv q => hf u v hu hv ((hR u v).mpr (Or.inl q)))
  have edge : wl_cp n R' a b := fun f hf => hf a b ha hb ((hR a b).mpr (Or.inr ⟨rfl, rfl⟩))
  intro x hx y hy
  constructor
  · intro e
    rw [hL x hx, hL y hy] at e
    by_cases q1 : L x = L a
    · rw [if_pos q1] at e
      have c1 := mono ((h x hx a ha).mp q1)
      by_cases q2 : L y = L a
      · have c2 := mono ((h y hy a ha).mp q2)
        exact fun f hf => (c1 f hf).trans (c2 f hf).symm
      · rw [if_neg q2] at e
        have c2 := mono ((h b hb y hy).mp e)
        exact fun f hf => ((c1 f hf).trans (edge f hf)).trans (c2 f hf)
    · rw [if_neg q1] at e
      by_cases q2 : L y = L a
      · rw [if_pos q2] at e
        have c1 := mono ((h x hx b hb).mp e)
        have c2 := mono ((h y hy a ha).mp q2)
        exact fun f hf => ((c1 f hf).trans (edge f hf).symm).trans (c2 f hf).symm
      · rw [if_neg q2] at e
        exact mono ((h x hx y hy).mp e)
  · intro c
    have := c (fun z => (L' z).toBitVec.toNat) (fun u v hu hv q => by
      show (L' u).toBitVec.toNat = (L' v).toBitVec.toNat
      rcases (hR u v).mp q with q | ⟨rfl, rfl⟩
      · have e : L u = L v := (h u hu v hv).mpr (fun f hf => hf u v hu hv q)
        rw [hL u hu, hL v hv, e]
      · rw [hL _ hu, hL _ hv, if_pos rfl]
        by_cases z : L v = L u
        · rw [if_pos z]
        · rw [if_neg z])
    exact Int32.toBitVec_inj.mp (BitVec.eq_of_toNat_eq this)
theorem wl_L_0 {n : Nat} {L : wm_F} {R : Nat → Nat → Prop} (hn : n < 2 ^ 31) (hL : ∀ x, x < n → L x = nI x) (hR : ∀ x y, ¬ R x y) : wl_L n L R := by
  intro x hx y hy
  rw [hL x hx, hL y hy, nI_eq (by omega) (by omega)]
  constructor
  · rintro rfl f _
    rfl
  · intro c
    exact c id (fun u v _ _ q => absurd q (hR u v))
theorem wl_L_iff {n : Nat} {L : wm_F} {R : Nat → Nat → Prop} {E : Nat → Nat → Bool} (h : wl_L n L R) (h1 : ∀ x y, x < n → y < n → R x y → E x y = true ∨ E y x = true) (h2 : ∀ x y, x < n → y < n → E x y = true → R x y ∨ R y x) {x y : Nat} (hx : x < n) (hy : y < n) : L x = L y ↔ wl_cn n E x y := by
  rw [h x hx y hy]
  constructor
  · intro c f hf
    exact c f (fun u v hu hv q => (h1 u v hu hv q).elim (fun q => hf u v hu hv q) (fun q => (hf v u hv hu q).symm))
  · intro c f hf
    exact c f (fun u v hu hv q => (h2 u v hu hv q).elim (fun q => hf u v hu hv q) (fun q => (hf v u hv hu q).symm))
def fr_84 (t _j : Nat) : Bool := Nat.beq t 84
theorem fr_84_X : ∀ t j, fr_84 t j = true → fr_X t j = true := by
  intro t j h
  have := Nat.eq_of_beq_eq_true h
  subst this
  rfl
def sp_X10_joins : cb_Sp := fun _ r M K => match r with
  | [.inl x, .inl y] => ∃ n a b, (cb_gI M 49 0 1 = nI n ∧ n ≤ 8 ∧ x = nI a ∧ a < n ∧ y = nI b ∧ b < n) ∧ ∀ M', cb_fr fr_84 M M' → (∀ i, i < n → cb_gI M' 84 0 i = if cb_gI M 84 0 i = cb_gI M 84 0 a then cb_gI M 84 0 b else cb_gI M 84 0 i) → K none M'
  | _ => False
def pt_X10_joins : cb_PT := cb_m 46 2 sp_X10_joins
theorem rc_X10_joins : cb_rc cb_tb RX10 pt_X10_joins := cb_m_rc rfl rfl
def md_X10_joins : cb_D := (RX10, cX10_joins, 6, none, (0, 0, 0, 0), [
  (0, .aload_n 0, 1, 0, 0, 0, 0),
  (1, .getfield 110, 3, 0, 10, 46, 1374),
  (4, .iload_n 1, 1, 0, 1, 0, 0),
  (5, .iaload, 1, 0, 0, 0, 0),
  (6, .istore_n 3, 1, 0, 3, 0, 0),
  (7, .aload_n 0, 1, 0, 0, 0, 0),
  (8, .getfield 110, 3, 0, 10, 46, 1374),
  (11, .iload_n 2, 1, 0, 2, 0, 0),
  (12, .iaload, 1, 0, 0, 0, 0),
  (13, .istore 4, 2, 0, 4, 0, 0),
  (15, .iconst 0, 1, 0, 0, 0, 0),
  (16, .istore 5, 2, 0, 5, 0, 0),
  (18, .iload 5, 2, 0, 5, 0, 0),
  (20, .aload_n 0, 1, 0, 0, 0, 0),
  (21, .getfield 20, 3, 0, 10, 10, 1338),
  (24, .iconst 1, 1, 1, 0, 0, 0),
  (25, .iaload, 1, 0, 0, 0, 0),
  (26, .if_icmp .ge 39, 3, 0, 65, 0, 0),
  (29, .aload_n 0, 1, 0, 0, 0, 0),
  (30, .getfield 110, 3, 0, 10, 46, 1374),
  (33, .iload 5, 2, 0, 5, 0, 0),
  (35, .aload_n 0, 1, 0, 0, 0, 0),
  (36, .getfield 110, 3, 0, 10, 46, 1374),
  (39, .iload 5, 2, 0, 5, 0, 0),
  (41, .iaload, 1, 0, 0, 0, 0),
  (42, .iload_n 3, 1, 0, 3, 0, 0),
  (43, .if_icmp .ne 8, 3, 0, 51, 0, 0),
  (46, .iload 4, 2, 0, 4, 0, 0),
  (48, .goto 10, 3, 0, 58, 0, 0),
  (51, .aload_n 0, 1, 0, 0, 0, 0),
  (52, .getfield 110, 3, 0, 10, 46, 1374),
  (55, .iload 5, 2, 0, 5, 0, 0),
  (57, .iaload, 1, 0, 0, 0, 0),
  (58, .iastore, 1, 0, 0, 0, 0),
  (59, .iinc 5 1, 3, 1, 5, 0, 0),
  (62, .goto (-44), 3, 0, 18, 0, 0),
  (65, .return_, 1, 0, 0, 0, 0)],
  [], [])
set_option maxRecDepth 100000 in
theorem vd_X10_joins : md_X10_joins.cd.all (cb_vE md_X10_joins) = true := by decide +kernel
theorem wd_X10_joins : cb_wd yX10_joins md_X10_joins := ⟨cb_tw (i := 1689) (by decide +kernel), cb_tw (i := 11) (by decide +kernel), by decide, by decide⟩
theorem cs_X10_joins : ∀ X, cb_Bs md_X10_joins X → ∀ g ∈ md_X10_joins.ga, cb_CS cb_tb md_X10_joins X g := fun X B => fun _ h => nomatch h
theorem ok_X10_joins : cb_MOK cb_tb yX10_joins md_X10_joins pt_X10_joins := by
  refine cb_okm ⟨plainFor_of_name (by decide), rfl⟩ (by decide) cs_X10_joins (by decide) (fun X n0 f i r M hr ha h => ?_)
  have h0 := cb_a1 (T := 46) rfl ha
  subst h0
  match r, hr, h with
  | [.inl x, .inl y], hr, h =>
    obtain ⟨n, a, b, ⟨hn, hn8, hx, ha', hy, hb'⟩, h⟩ := h
    have hx8 : vp_in x 8 := by rw [hx]; exact cb_in8 ha' hn8 (by decide)
    have hxc : x.toNatClampNeg = a := by rw [hx]; exact nI_clamp (by omega)
    have hy8 : vp_in y 8 := by rw [hy]; exact cb_in8 hb' hn8 (by decide)
    have hyc : y.toNatClampNeg = b := by rw [hy]; exact nI_clamp (by omega)
    have loop : ∀ j, j ≤ n → ∀ (z : Int32) (M2 : cb_M), z = nI j → cb_fr fr_84 M M2 → (∀ i, i < n → cb_gI M2 84 0 i = if i < j ∧ cb_gI M 84 0 i = cb_gI M 84 0 a then cb_gI M 84 0 b else cb_gI M 84 0 i) → cb_Gd cb_tb md_X10_joins X 18 [some (cb_r 46 0), some (cb_i (x)), some (cb_i (y)), some (cb_i (cb_gI M 84 0 a)), some (cb_i (cb_gI M 84 0 b)), some (cb_i (z))] [] (cb_aS n0, f) M2 0 0 := by
      refine cb_up (fun j => ∀ (z : Int32) (M2 : cb_M), z = nI j → cb_fr fr_84 M M2 → (∀ i, i < n → cb_gI M2 84 0 i = if i < j ∧ cb_gI M 84 0 i = cb_gI M 84 0 a then cb_gI M 84 0 b else cb_gI M 84 0 i) → cb_Gd cb_tb md_X10_joins X 18 [some (cb_r 46 0), some (cb_i (x)), some (cb_i (y)), some (cb_i (cb_gI M 84 0 a)), some (cb_i (cb_gI M 84 0 b)), some (cb_i (z))] [] (cb_aS n0, f) M2 0 0) ?_ ?_
      · intro z M2 hz hF hv
        refine cb_run cb_tb_ok vd_X10_joins (cuts := [18]) 90 ?_
        refine And.intro (mi_v 1 (by decide)) (cb_lout hz ((hF.1 49 0 1 rfl).trans hn) (And.intro rfl (h M2 hF (fun i hi => ?_))))
        rw [hv i hi]
        by_cases q : cb_gI M 84 0 i = cb_gI M 84 0 a
        · rw [if_pos ⟨hi, q⟩, if_pos q]
        · rw [if_neg (fun w => q w.2), if_neg q]
      · intro j hj ih z M2 hz hF hv
        have hz8 : vp_in z 8 := by rw [hz]; exact cb_in8 hj hn8 (by decide)
        have hzc : z.toNatClampNeg = j := by rw [hz]; exact nI_clamp (by omega)
        have ej : cb_gI M2 84 0 j = cb_gI M 84 0 j := by rw [hv j hj, if_neg (by omega)]
        have nx : ∀ v, (v = if cb_gI M 84 0 j = cb_gI M 84 0 a then cb_gI M 84 0 b else cb_gI M 84 0 j) → cb_Gd cb_tb md_X10_joins X 18 [some (cb_r 46 0), some (cb_i (x)), some (cb_i (y)), some (cb_i (cb_gI M 84 0 a)), some (cb_i (cb_gI M 84 0 b)), some (cb_i (z + 1))] [] (cb_aS n0, f) (cb_sI M2 84 0 j v) 0 0 := fun v hvv => by
          refine ih _ _ (by rw [hz, nI_1]) (hF.set _ rfl) (fun i hi => ?_)
          by_cases e : i = j
          · subst e
            rw [cb_gs_eq, hvv]
            by_cases q : cb_gI M 84 0 i = cb_gI M 84 0 a
            · rw [if_pos q, if_pos ⟨by omega, q⟩]
            · rw [if_neg q, if_neg (fun w => q w.2)]
          · rw [cb_gs_ne (fun w => e w.2.2), hv i hi]
            have : (i < j + 1) = (i < j) := propext ⟨fun q => by omega, fun q => by omega⟩
            simp only [this]
        refine cb_run cb_tb_ok vd_X10_joins (cuts := [18]) 90 ?_
        refine And.intro (mi_v 1 (by decide)) (cb_lin hz ((hF.1 49 0 1 rfl).trans hn) hj (by omega) (And.intro hz8 ?_))
        show (¬ cb_gI M2 84 0 z.toNatClampNeg = cb_gI M 84 0 a → _) ∧ (¬ ¬ cb_gI M2 84 0 z.toNatClampNeg = cb_gI M 84 0 a → _)
        rw [hzc, ej]
        refine cb_ifne (fun q => And.intro hz8 (And.intro hz8 ?_)) (fun q => And.intro hz8 ?_)
        · show cb_Gd cb_tb md_X10_joins X 18 [some (cb_r 46 0), some (cb_i (x)), some (cb_i (y)), some (cb_i (cb_gI M 84 0 a)), some (cb_i (cb_gI M 84 0 b)), some (cb_i (z + 1))] [] (cb_aS n0, f) (cb_sI M2 84 0 z.toNatClampNeg (cb_gI M2 84 0 z.toNatClampNeg)) 0 0
          rw [hzc, ej]
          exact nx _ (by rw [if_neg q])
        · show cb_Gd cb_tb md_X10_joins X 18 [some (cb_r 46 0), some (cb_i (x)), some (cb_i (y)), some (cb_i (cb_gI M 84 0 a)), some (cb_i (cb_gI M 84 0 b)), some (cb_i (z + 1))] [] (cb_aS n0, f) (cb_sI M2 84 0 z.toNatClampNeg (cb_gI M 84 0 b)) 0 0
          rw [hzc]
          exact nx _ (by rw [if_pos q])
    refine cb_run cb_tb_ok vd_X10_joins (cuts := [18]) 90 ?_
    refine And.intro hx8 (And.intro hy8 ?_)
    show cb_Gd cb_tb md_X10_joins X 18 [some (cb_r 46 0), some (cb_i (x)), some (cb_i (y)), some (cb_i (cb_gI M 84 0 x.toNatClampNeg)), some (cb_i (cb_gI M 84 0 y.toNatClampNeg)), some (cb_i (0))] [] (cb_aS n0, f) M 0 0
    rw [hxc, hyc]
    exact loop 0 (Nat.zero_le _) _ M rfl (cb_fr.refl M) (fun i hi => by rw [if_neg (by omega)])
def sp_X10_sets : cb_Sp := fun _ r M K => match r with
  | [] => ∃ n E, (cb_gI M 49 0 1 = nI n ∧ n ≤ 8 ∧ ∀ x y, x < n → y < n → (cb_gI M 84 0 x = cb_gI M 84 0 y ↔ wl_cn n E x y)) ∧ K (some (cb_i (wl_cc n E))) M
  | _ => False
def pt_X10_sets : cb_PT := cb_m 46 0 sp_X10_sets
theorem rc_X10_sets : cb_rc cb_tb RX10 pt_X10_sets := cb_m_rc rfl rfl
def md_X10_sets : cb_D := (RX10, cX10_sets, 5, (some .int), (0, 0, 0, 0), [
  (0, .iconst 0, 1, 0, 0, 0, 0),
  (1, .istore_n 1, 1, 0, 1, 0, 0),
  (2, .iconst 0, 1, 0, 0, 0, 0),
  (3, .istore_n 2, 1, 0, 2, 0, 0),
  (4, .iload_n 2, 1, 0, 2, 0, 0),
  (5, .aload_n 0, 1, 0, 0, 0, 0),
  (6, .getfield 20, 3, 0, 10, 10, 1338),
  (9, .iconst 1, 1, 1, 0, 0, 0),
  (10, .iaload, 1, 0, 0, 0, 0),
  (11, .if_icmp .ge 64, 3, 0, 75, 0, 0),
  (14, .iconst 1, 1, 1, 0, 0, 0),
  (15, .istore_n 3, 1, 0, 3, 0, 0),
  (16, .iconst 0, 1, 0, 0, 0, 0),
  (17, .istore 4, 2, 0, 4, 0, 0),
  (19, .iload 4, 2, 0, 4, 0, 0),
  (21, .iload_n 2, 1, 0, 2, 0, 0),
  (22, .if_icmp .ge 35, 3, 0, 57, 0, 0),
  (25, .iload_n 3, 1, 0, 3, 0, 0),
  (26, .ifCond .eq 23, 3, 0, 49, 0, 0),
  (29, .aload_n 0, 1, 0, 0, 0, 0),
  (30, .getfield 110, 3, 0, 10, 46, 1374),
  (33, .iload 4, 2, 0, 4, 0, 0),
  (35, .iaload, 1, 0, 0, 0, 0),
  (36, .aload_n 0, 1, 0, 0, 0, 0),
  (37, .getfield 110, 3, 0, 10, 46, 1374),
  (40, .iload_n 2, 1, 0, 2, 0, 0),
  (41, .iaload, 1, 0, 0, 0, 0),
  (42, .if_icmp .eq 7, 3, 0, 49, 0, 0),
  (45, .iconst 1, 1, 1, 0, 0, 0),
  (46, .goto 4, 3, 0, 50, 0, 0),
  (49, .iconst 0, 1, 0, 0, 0, 0),
  (50, .istore_n 3, 1, 0, 3, 0, 0),
  (51, .iinc 4 1, 3, 1, 4, 0, 0),
  (54, .goto (-35), 3, 0, 19, 0, 0),
  (57, .iload_n 1, 1, 0, 1, 0, 0),
  (58, .iload_n 3, 1, 0, 3, 0, 0),
  (59, .ifCond .eq 7, 3, 0, 66, 0, 0),
  (62, .iconst 1, 1, 1, 0, 0, 0),
  (63, .goto 4, 3, 0, 67, 0, 0),
  (66, .iconst 0, 1, 0, 0, 0, 0),
  (67, .iadd, 1, 0, 0, 0, 0),
  (68, .istore_n 1, 1, 0, 1, 0, 0),
  (69, .iinc 2 1, 3, 1, 2, 0, 0),
  (72, .goto (-68), 3, 0, 4, 0, 0),
  (75, .iload_n 1, 1, 0, 1, 0, 0),
  (76, .ireturn, 1, 0, 0, 0, 0)],
  [], [])
set_option maxRecDepth 100000 in
theorem vd_X10_sets : md_X10_sets.cd.all (cb_vE md_X10_sets) = true := by decide +kernel
theorem wd_X10_sets : cb_wd yX10_sets md_X10_sets := ⟨cb_tw (i := 1693) (by decide +kernel), cb_tw (i := 11) (by decide +kernel), by decide, by decide⟩
theorem cs_X10_sets : ∀ X, cb_Bs md_X10_sets X → ∀ g ∈ md_X10_sets.ga, cb_CS cb_tb md_X10_sets X g := fun X B => fun _ h => nomatch h
theorem ok_X10_sets : cb_MOK cb_tb yX10_sets md_X10_sets pt_X10_sets := by
  refine cb_okm ⟨plainFor_of_name (by decide), rfl⟩ (by decide) cs_X10_sets (by decide) (fun X n0 f i r M hr ha h => ?_)
  have h0 := cb_a1 (T := 46) rfl ha
  subst h0
  match r, hr, h with
  | [], hr, h =>
    obtain ⟨n, E, ⟨hn, hn8, hE⟩, h⟩ := h
    have inner : ∀ i, i < n → ∀ s : Int32, (∀ (b : Bool) (v : Option cb_V), (b = true ↔ ¬ ∃ j, j < i ∧ wl_cn n E j i) → cb_Gd cb_tb md_X10_sets X 57 [some (cb_r 46 0), some (cb_i (s)), some (cb_i (nI i)), some (cb_i (cb_z b)), v] [] (cb_aS n0, f) M 0 0) →
        ∀ j, j ≤ i → ∀ (y : Int32) (b : Bool), y = nI j → (b = true ↔ ¬ ∃ a, a < j ∧ wl_cn n E a i) → cb_Gd cb_tb md_X10_sets X 19 [some (cb_r 46 0), some (cb_i (s)), some (cb_i (nI i)), some (cb_i (cb_z b)), some (cb_i (y))] [] (cb_aS n0, f) M 0 0 := by
      intro i hi s hout
      have hic : (nI i).toNatClampNeg = i := nI_clamp (by omega)
      have hi8 : vp_in (nI i) 8 := cb_in8 hi hn8 (by decide)
      refine cb_up (fun j => ∀ (y : Int32) (b : Bool), y = nI j → (b = true ↔ ¬ ∃ a, a < j ∧ wl_cn n E a i) → cb_Gd cb_tb md_X10_sets X 19 [some (cb_r 46 0), some (cb_i (s)), some (cb_i (nI i)), some (cb_i (cb_z b)), some (cb_i (y))] [] (cb_aS n0, f) M 0 0) ?_ ?_
      · intro y b hy hb
        refine cb_run cb_tb_ok vd_X10_sets (cuts := [19, 57]) 90 ?_
        exact cb_lout hy rfl (hout b _ hb)
      · intro j hj ih y b hy hb
        subst hy
        have hjc : (nI j).toNatClampNeg = j := nI_clamp (by omega)
        have hj8 : vp_in (nI j) 8 := cb_in8 (show j < n by omega) hn8 (by decide)
        have no : (∃ a, a < j + 1 ∧ wl_cn n E a i) → cb_Gd cb_tb md_X10_sets X 19 [some (cb_r 46 0), some (cb_i (s)), some (cb_i (nI i)), some (cb_i (cb_z false)), some (cb_i (nI j + 1))] [] (cb_aS n0, f) M 0 0 := fun w => ih _ false (nI_1 j) ⟨(fun q => by cases q), fun q => absurd w q⟩
        refine cb_run cb_tb_ok vd_X10_sets (cuts := [19]) 90 ?_
        refine cb_lin rfl rfl hj (by omega) (cb_ifz (fun q => ?_) (fun q => And.intro hj8 (And.intro hi8 ?_)))
        · refine no ?_
          have : ∃ a, a < j ∧ wl_cn n E a i := Classical.not_not.mp (fun w => by rw [hb.mpr w] at q; cases q)
          obtain ⟨a, h1, h2⟩ := this
          exact ⟨a, by omega, h2⟩
        · show (cb_gI M 84 0 (nI j).toNatClampNeg = cb_gI M 84 0 (nI i).toNatClampNeg → _) ∧ (¬ cb_gI M 84 0 (nI j).toNatClampNeg = cb_gI M 84 0 (nI i).toNatClampNeg → _)
          rw [hjc, hic]
          refine And.intro (fun q1 => no ⟨j, by omega, (hE j i (by omega) hi).mp q1⟩) (fun q1 => ih _ true (nI_1 j) ⟨fun _ w => ?_, fun _ => rfl⟩)
          obtain ⟨a, h1, h2⟩ := w
          by_cases e : a = j
          · rw [e] at h2
            exact q1 ((hE j i (by omega) hi).mpr h2)
          · exact hb.mp q ⟨a, by omega, h2⟩
    have loop : ∀ i, i ≤ n → ∀ (y s : Int32) (v w : Option cb_V), y = nI i → s = wm_sum (wl_new n E) i → cb_Gd cb_tb md_X10_sets X 4 [some (cb_r 46 0), some (cb_i (s)), some (cb_i (y)), v, w] [] (cb_aS n0, f) M 0 0 := by
      refine cb_up (fun i => ∀ (y s : Int32) (v w : Option cb_V), y = nI i → s = wm_sum (wl_new n E) i → cb_Gd cb_tb md_X10_sets X 4 [some (cb_r 46 0), some (cb_i (s)), some (cb_i (y)), v, w] [] (cb_aS n0, f) M 0 0) ?_ ?_
      · intro y s v w hy hs
        refine cb_run cb_tb_ok vd_X10_sets (cuts := [4, 19]) 90 ?_
        exact And.intro (mi_v 1 (by decide)) (cb_lout hy hn (And.intro trivial (cb_eqK h hs)))
      · intro i hi ih y s v w hy hs
        subst hy
        refine cb_run cb_tb_ok vd_X10_sets (cuts := [4, 19]) 90 ?_
        refine And.intro (mi_v 1 (by decide)) (cb_lin rfl hn hi (by omega) ?_)
        refine inner i hi s (fun b v hb => ?_) 0 (Nat.zero_le _) _ true rfl ⟨fun _ w => ?_, fun _ => rfl⟩
        · refine cb_run cb_tb_ok vd_X10_sets (cuts := [4]) 90 ?_
          refine cb_ifz (fun q => ih _ _ _ _ (nI_1 i) ?_) (fun q => ih _ _ _ _ (nI_1 i) ?_)
          · rw [wm_sum, ← hs, wl_new_0 (Classical.not_not.mp (fun w => by rw [hb.mpr w] at q; cases q))]
          · rw [wm_sum, ← hs, wl_new_1 (hb.mp q)]
        · obtain ⟨a, h1, -⟩ := w
          omega
    exact cb_run cb_tb_ok vd_X10_sets (cuts := [4]) 40 (loop 0 (Nat.zero_le _) _ _ _ _ rfl rfl)
