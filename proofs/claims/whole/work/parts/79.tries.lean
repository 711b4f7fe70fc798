/-! ===== the reference: tries, hung ===== -/
def sp_X10_mostWeight : cb_Sp := fun _ r M K => match r with
  | [] => ∃ n nb, (cb_gI M 49 0 1 = nI n ∧ n ≤ 8 ∧ cb_gI M 49 0 0 = nI nb ∧ nb ≤ 4) ∧ K (some (cb_i (wq_mw (cb_gI M 64 0) (cb_gI M 67 0) n nb))) M
  | _ => False
def pt_X10_mostWeight : cb_PT := cb_m 46 0 sp_X10_mostWeight
theorem rc_X10_mostWeight : cb_rc cb_tb RX10 pt_X10_mostWeight := cb_m_rc rfl rfl
def md_X10_mostWeight : cb_D := (RX10, cX10_mostWeight, 5, (some .int), (0, 0, 0, 0), [
  (0, .iconst 0, 1, 0, 0, 0, 0),
  (1, .istore_n 1, 1, 0, 1, 0, 0),
  (2, .iconst 0, 1, 0, 0, 0, 0),
  (3, .istore_n 2, 1, 0, 2, 0, 0),
  (4, .iload_n 2, 1, 0, 2, 0, 0),
  (5, .aload_n 0, 1, 0, 0, 0, 0),
  (6, .getfield 20, 3, 0, 10, 10, 1338),
  (9, .iconst 0, 1, 0, 0, 0, 0),
  (10, .iaload, 1, 0, 0, 0, 0),
  (11, .if_icmp .ge 67, 3, 0, 78, 0, 0),
  (14, .iconst 0, 1, 0, 0, 0, 0),
  (15, .istore_n 3, 1, 0, 3, 0, 0),
  (16, .iconst 0, 1, 0, 0, 0, 0),
  (17, .istore 4, 2, 0, 4, 0, 0),
  (19, .iload 4, 2, 0, 4, 0, 0),
  (21, .aload_n 0, 1, 0, 0, 0, 0),
  (22, .getfield 20, 3, 0, 10, 10, 1338),
  (25, .iconst 1, 1, 1, 0, 0, 0),
  (26, .iaload, 1, 0, 0, 0, 0),
  (27, .if_icmp .ge 34, 3, 0, 61, 0, 0),
  (30, .iload_n 3, 1, 0, 3, 0, 0),
  (31, .aload_n 0, 1, 0, 0, 0, 0),
  (32, .getfield 55, 3, 0, 10, 21, 1349),
  (35, .iload 4, 2, 0, 4, 0, 0),
  (37, .iaload, 1, 0, 0, 0, 0),
  (38, .iload_n 2, 1, 0, 2, 0, 0),
  (39, .if_icmp .ne 13, 3, 0, 52, 0, 0),
  (42, .aload_n 0, 1, 0, 0, 0, 0),
  (43, .getfield 64, 3, 0, 10, 24, 1352),
  (46, .iload 4, 2, 0, 4, 0, 0),
  (48, .iaload, 1, 0, 0, 0, 0),
  (49, .goto 4, 3, 0, 53, 0, 0),
  (52, .iconst 0, 1, 0, 0, 0, 0),
  (53, .iadd, 1, 0, 0, 0, 0),
  (54, .istore_n 3, 1, 0, 3, 0, 0),
  (55, .iinc 4 1, 3, 1, 4, 0, 0),
  (58, .goto (-39), 3, 0, 19, 0, 0),
  (61, .iload_n 3, 1, 0, 3, 0, 0),
  (62, .iload_n 1, 1, 0, 1, 0, 0),
  (63, .if_icmp .le 7, 3, 0, 70, 0, 0),
  (66, .iload_n 3, 1, 0, 3, 0, 0),
  (67, .goto 4, 3, 0, 71, 0, 0),
  (70, .iload_n 1, 1, 0, 1, 0, 0),
  (71, .istore_n 1, 1, 0, 1, 0, 0),
  (72, .iinc 2 1, 3, 1, 2, 0, 0),
  (75, .goto (-71), 3, 0, 4, 0, 0),
  (78, .iload_n 1, 1, 0, 1, 0, 0),
  (79, .ireturn, 1, 0, 0, 0, 0)],
  [], [])
set_option maxRecDepth 100000 in
theorem vd_X10_mostWeight : md_X10_mostWeight.cd.all (cb_vE md_X10_mostWeight) = true := by decide +kernel
theorem wd_X10_mostWeight : cb_wd yX10_mostWeight md_X10_mostWeight := ⟨cb_tw (i := 1771) (by decide +kernel), cb_tw (i := 11) (by decide +kernel), by decide, by decide⟩
theorem cs_X10_mostWeight : ∀ X, cb_Bs md_X10_mostWeight X → ∀ g ∈ md_X10_mostWeight.ga, cb_CS cb_tb md_X10_mostWeight X g := fun X B => fun _ h => nomatch h
theorem ok_X10_mostWeight : cb_MOK cb_tb yX10_mostWeight md_X10_mostWeight pt_X10_mostWeight := by
  refine cb_okm ⟨plainFor_of_name (by decide), rfl⟩ (by decide) cs_X10_mostWeight (by decide) (fun X n0 f i r M hr ha h => ?_)
  have h0 := cb_a1 (T := 46) rfl ha
  subst h0
  match r, hr, h with
  | [], hr, h =>
    obtain ⟨n, nb, ⟨hn, hn8, hnb, hnb4⟩, h⟩ := h
    have inner : ∀ b, b < nb → (∀ (x m : Int32) (v w : Option cb_V), x = nI (b + 1) → m = wq_mw (cb_gI M 64 0) (cb_gI M 67 0) n (b + 1) → cb_Gd cb_tb md_X10_mostWeight X 4 [some (cb_r 46 0), some (cb_i (m)), some (cb_i (x)), v, w] [] (cb_aS n0, f) M 0 0) → ∀ j, j ≤ n → ∀ (y s : Int32), y = nI j → s = wm_sum (fun i => if cb_gI M 64 0 i = nI b then cb_gI M 67 0 i else 0) j → cb_Gd cb_tb md_X10_mostWeight X 19 [some (cb_r 46 0), some (cb_i (wq_mw (cb_gI M 64 0) (cb_gI M 67 0) n b)), some (cb_i (nI b)), some (cb_i (s)), some (cb_i (y))] [] (cb_aS n0, f) M 0 0 := by
      intro b hb hout
      refine cb_up (fun j => ∀ (y s : Int32), y = nI j → s = wm_sum (fun i => if cb_gI M 64 0 i = nI b then cb_gI M 67 0 i else 0) j → cb_Gd cb_tb md_X10_mostWeight X 19 [some (cb_r 46 0), some (cb_i (wq_mw (cb_gI M 64 0) (cb_gI M 67 0) n b)), some (cb_i (nI b)), some (cb_i (s)), some (cb_i (y))] [] (cb_aS n0, f) M 0 0) ?_ ?_
      · intro y s hy hs
        have ew : wq_mw (cb_gI M 64 0) (cb_gI M 67 0) n (b + 1) = if wq_mw (cb_gI M 64 0) (cb_gI M 67 0) n b < s then s else wq_mw (cb_gI M 64 0) (cb_gI M 67 0) n b := by rw [wq_mw, hs]; rfl
        refine cb_run cb_tb_ok vd_X10_mostWeight (cuts := [4, 19]) 90 ?_
        refine And.intro (mi_v 1 (by decide)) (cb_lout hy hn (And.intro (fun q => hout _ _ _ _ (nI_1 b) ?_) (fun q => hout _ _ _ _ (nI_1 b) ?_)))
        · have q : s ≤ wq_mw (cb_gI M 64 0) (cb_gI M 67 0) n b := q
          rw [ew, if_neg (Int32.not_lt.mpr q)]
        · have q : ¬ s ≤ wq_mw (cb_gI M 64 0) (cb_gI M 67 0) n b := q
          rw [ew, if_pos (Int32.not_le.mp q)]
      · intro j hj ih y s hy hs
        have hy8 : vp_in y 8 := by rw [hy]; exact cb_in8 hj hn8 (by decide)
        have hyc : y.toNatClampNeg = j := by rw [hy]; exact nI_clamp (by omega)
        refine cb_run cb_tb_ok vd_X10_mostWeight (cuts := [4, 19]) 90 ?_
        refine And.intro (mi_v 1 (by decide)) (cb_lin hy hn hj (by omega) (And.intro hy8 (cb_ifne (fun q => ?_) (fun q => And.intro hy8 ?_))))
        · rw [hyc] at q
          refine ih _ _ (by rw [hy]; exact nI_1 j) ?_
          rw [wm_sum, if_neg q, hs]
        · rw [hyc] at q
          refine ih _ _ (by rw [hy]; exact nI_1 j) ?_
          rw [wm_sum, if_pos q, hs, hyc]
    have outer : ∀ b, b ≤ nb → ∀ (x m : Int32) (v w : Option cb_V), x = nI b → m = wq_mw (cb_gI M 64 0) (cb_gI M 67 0) n b → cb_Gd cb_tb md_X10_mostWeight X 4 [some (cb_r 46 0), some (cb_i (m)), some (cb_i (x)), v, w] [] (cb_aS n0, f) M 0 0 := by
      refine cb_up (fun b => ∀ (x m : Int32) (v w : Option cb_V), x = nI b → m = wq_mw (cb_gI M 64 0) (cb_gI M 67 0) n b → cb_Gd cb_tb md_X10_mostWeight X 4 [some (cb_r 46 0), some (cb_i (m)), some (cb_i (x)), v, w] [] (cb_aS n0, f) M 0 0) ?_ ?_
      · intro x m v w hx hm
        refine cb_run cb_tb_ok vd_X10_mostWeight (cuts := [4, 19]) 90 ?_
        exact And.intro (mi_v 0 (by decide)) (cb_lout hx hnb (And.intro trivial (cb_eqK h hm)))
      · intro b hb ih x m v w hx hm
        subst hx hm
        refine cb_run cb_tb_ok vd_X10_mostWeight (cuts := [4, 19]) 90 ?_
        exact And.intro (mi_v 0 (by decide)) (cb_lin rfl hnb hb (by omega) (inner b hb ih 0 (Nat.zero_le _) _ _ rfl rfl))
    refine cb_run cb_tb_ok vd_X10_mostWeight (cuts := [4, 19]) 90 ?_
    exact outer 0 (Nat.zero_le _) _ _ _ _ rfl rfl
def mt_L (those : Int32) (n fr : Nat) : List Nat := (List.range' fr (n - fr)).filter (cb_bit those)
theorem mt_L_0 (those : Int32) (n : Nat) : mt_L those n 0 = wq_bits those n := by
  unfold mt_L wq_bits
  rw [Nat.sub_zero, List.range_eq_range']
theorem mt_L_end (those : Int32) (n : Nat) : mt_L those n n = [] := by
  unfold mt_L
  rw [Nat.sub_self]
  rfl
theorem mt_L_s {those : Int32} {n i : Nat} (hi : i < n) : mt_L those n i = if cb_bit those i = true then i :: mt_L those n (i + 1) else mt_L those n (i + 1) := by
  unfold mt_L
  rw [show n - i = (n - (i + 1)) + 1 by omega, List.range'_succ, List.filter_cons]
def mt_g (M : cb_M) : mt_S := (cb_gI M 46 0 48, cb_gI M 46 0 49, cb_gI M 46 0 50)
def sp_X10_tries (m : Nat) : cb_Sp := fun _ r M K => match r with
  | [.inl those, .inl from_, .inl us, .inl dg, .inl N] => ∃ (M0 : cb_M) (n h nb k : Nat) (bd pl hb hp : wm_F) (fr d : Nat), (cb_fr fr_J M0 M ∧ mi_I M n h nb ∧ (∀ i, i < n → cb_gI M 64 0 i = bd i ∧ cb_gI M 65 0 i = pl i) ∧ (∀ l, l < h → cb_gI M 72 0 l = hb l ∧ cb_gI M 73 0 l = hp l) ∧ from_ = nI fr ∧ fr ≤ n ∧ dg = nI d ∧ N = nI k ∧ k ≤ 400 ∧ (mt_L those n fr).length ≤ m) ∧
    ∀ M', cb_fr fr_X M M' → cb_gI M' 46 0 0 = cb_gI M 46 0 0 → mt_g M' = mt_dfs (mv M0 n h nb) those k (mt_L those n fr) us d bd pl hb hp (mt_g M) → K none M'
  | _ => False
theorem mt_and {x those : Int32} : wm_wo those x = 0 ↔ x &&& those = those := by
  constructor
  · intro h
    refine cb_bit_ext (fun i hi => ?_)
    have : cb_bit (wm_wo those x) i = false := by rw [h]; exact cb_bit_zero i
    rw [wm_wo_bit _ _ hi] at this
    rw [cb_bit_and]
    cases a : cb_bit those i <;> cases b : cb_bit x i <;> simp_all
  · intro h
    refine cb_bit_ext (fun i hi => ?_)
    have : cb_bit (x &&& those) i = cb_bit those i := by rw [h]
    rw [cb_bit_and] at this
    rw [wm_wo_bit _ _ hi, cb_bit_zero]
    cases a : cb_bit those i <;> cases b : cb_bit x i <;> simp_all

def pt_X10_tries0 : cb_PT := cb_m 46 5 (sp_X10_tries 0)
theorem rc_X10_tries0 : cb_rc cb_tb RX10 pt_X10_tries0 := cb_m_rc rfl rfl
def md_X10_tries0 : cb_D := (RX10, cX10_tries, 8, none, (0, 0, 6, 134), [
  (0, .iload_n 2, 1, 0, 2, 0, 0),
  (1, .istore 6, 2, 0, 6, 0, 0),
  (3, .iload 6, 2, 0, 6, 0, 0),
  (5, .aload_n 0, 1, 0, 0, 0, 0),
  (6, .getfield 20, 3, 0, 10, 10, 1338),
  (9, .iconst 1, 1, 1, 0, 0, 0),
  (10, .iaload, 1, 0, 0, 0, 0),
  (11, .if_icmp .ge 18, 3, 0, 29, 0, 0),
  (14, .iload_n 1, 1, 0, 1, 0, 0),
  (15, .iload 6, 2, 0, 6, 0, 0),
  (17, .ishr, 1, 0, 0, 0, 0),
  (18, .iconst 1, 1, 1, 0, 0, 0),
  (19, .iand, 1, 0, 0, 0, 0),
  (20, .ifCond .ne 9, 3, 0, 29, 0, 0),
  (23, .iinc 6 1, 3, 1, 6, 0, 0),
  (26, .goto (-23), 3, 0, 3, 0, 0),
  (29, .iload 6, 2, 0, 6, 0, 0),
  (31, .aload_n 0, 1, 0, 0, 0, 0),
  (32, .getfield 20, 3, 0, 10, 10, 1338),
  (35, .iconst 1, 1, 1, 0, 0, 0),
  (36, .iaload, 1, 0, 0, 0, 0),
  (37, .if_icmp .ne 76, 3, 0, 113, 0, 0),
  (40, .aload_n 0, 1, 0, 0, 0, 0),
  (41, .iload 5, 2, 0, 5, 0, 0),
  (43, .invokevirtual 276, 3, 0, 0, 0, 0),
  (46, .aload_n 0, 1, 0, 0, 0, 0),
  (47, .invokevirtual 286, 3, 0, 1, 0, 0),
  (50, .iload_n 1, 1, 0, 1, 0, 0),
  (51, .iand, 1, 0, 0, 0, 0),
  (52, .iload_n 1, 1, 0, 1, 0, 0),
  (53, .if_icmp .eq 4, 3, 0, 57, 0, 0),
  (56, .return_, 1, 0, 0, 0, 0),
  (57, .aload_n 0, 1, 0, 0, 0, 0),
  (58, .aload_n 0, 1, 0, 0, 0, 0),
  (59, .getfield 320, 3, 0, 10, 48, 1376),
  (62, .iconst (-1), 1, (-1), 0, 0, 0),
  (63, .if_icmp .ne 8, 3, 0, 71, 0, 0),
  (66, .iload 4, 2, 0, 4, 0, 0),
  (68, .goto 7, 3, 0, 75, 0, 0),
  (71, .aload_n 0, 1, 0, 0, 0, 0),
  (72, .getfield 320, 3, 0, 10, 48, 1376),
  (75, .putfield 320, 3, 0, 10, 48, 1376),
  (78, .aload_n 0, 1, 0, 0, 0, 0),
  (79, .getfield 323, 3, 0, 10, 49, 1377),
  (82, .iconst (-1), 1, (-1), 0, 0, 0),
  (83, .if_icmp .eq 15, 3, 0, 98, 0, 0),
  (86, .aload_n 0, 1, 0, 0, 0, 0),
  (87, .invokevirtual 326, 3, 0, 2, 0, 0),
  (90, .aload_n 0, 1, 0, 0, 0, 0),
  (91, .getfield 329, 3, 0, 10, 50, 1378),
  (94, .if_icmp .lt 4, 3, 0, 98, 0, 0),
  (97, .return_, 1, 0, 0, 0, 0),
  (98, .aload_n 0, 1, 0, 0, 0, 0),
  (99, .iload 4, 2, 0, 4, 0, 0),
  (101, .putfield 323, 3, 0, 10, 49, 1377),
  (104, .aload_n 0, 1, 0, 0, 0, 0),
  (105, .aload_n 0, 1, 0, 0, 0, 0),
  (106, .invokevirtual 326, 3, 0, 2, 0, 0),
  (109, .putfield 329, 3, 0, 10, 50, 1378),
  (112, .return_, 1, 0, 0, 0, 0),
  (113, .iconst 0, 1, 0, 0, 0, 0),
  (114, .istore 7, 2, 0, 7, 0, 0),
  (116, .iload 7, 2, 0, 7, 0, 0),
  (118, .aload_n 0, 1, 0, 0, 0, 0),
  (119, .getfield 20, 3, 0, 10, 10, 1338),
  (122, .iconst 2, 1, 2, 0, 0, 0),
  (123, .iaload, 1, 0, 0, 0, 0),
  (124, .if_icmp .ge 65, 3, 0, 189, 0, 0),
  (127, .iload_n 3, 1, 0, 3, 0, 0),
  (128, .iload 7, 2, 0, 7, 0, 0),
  (130, .ishr, 1, 0, 0, 0, 0),
  (131, .iconst 1, 1, 1, 0, 0, 0),
  (132, .iand, 1, 0, 0, 0, 0),
  (133, .iconst 1, 1, 1, 0, 0, 0),
  (134, .if_icmp .ne 6, 3, 0, 140, 0, 0),
  (137, .goto 46, 3, 0, 183, 0, 0),
  (140, .aload_n 0, 1, 0, 0, 0, 0),
  (141, .iload 6, 2, 0, 6, 0, 0),
  (143, .iload 7, 2, 0, 7, 0, 0),
  (145, .invokevirtual 301, 3, 0, 3, 0, 0),
  (148, .aload_n 0, 1, 0, 0, 0, 0),
  (149, .iload_n 1, 1, 0, 1, 0, 0),
  (150, .iload 6, 2, 0, 6, 0, 0),
  (152, .iconst 1, 1, 1, 0, 0, 0),
  (153, .iadd, 1, 0, 0, 0, 0),
  (154, .iload_n 3, 1, 0, 3, 0, 0),
  (155, .iconst 1, 1, 1, 0, 0, 0),
  (156, .iload 7, 2, 0, 7, 0, 0),
  (158, .ishl, 1, 0, 0, 0, 0),
  (159, .ior, 1, 0, 0, 0, 0),
  (160, .bipush 10, 2, 10, 0, 0, 0),
  (162, .iload 4, 2, 0, 4, 0, 0),
  (164, .imul, 1, 0, 0, 0, 0),
  (165, .iload 7, 2, 0, 7, 0, 0),
  (167, .iadd, 1, 0, 0, 0, 0),
  (168, .iconst 1, 1, 1, 0, 0, 0),
  (169, .iadd, 1, 0, 0, 0, 0),
  (170, .iload 5, 2, 0, 5, 0, 0),
  (172, .invokevirtual 332, 3, 0, 4, 0, 0),
  (175, .aload_n 0, 1, 0, 0, 0, 0),
  (176, .iload 6, 2, 0, 6, 0, 0),
  (178, .iload 7, 2, 0, 7, 0, 0),
  (180, .invokevirtual 301, 3, 0, 3, 0, 0),
  (183, .iinc 7 1, 3, 1, 7, 0, 0),
  (186, .goto (-70), 3, 0, 116, 0, 0),
  (189, .return_, 1, 0, 0, 0, 0)],
  [(0, 276, 2, 0, 0, pt_X10_goesOn), (0, 286, 1, 0, 0, pt_X10_rightNow), (0, 326, 1, 0, 0, pt_X10_mostWeight), (0, 301, 3, 0, 0, pt_X10_hangsOn), (0, 332, 6, 0, 0, (fun _ _ _ _ => False))], [])
set_option maxRecDepth 100000 in
theorem vd_X10_tries0 : md_X10_tries0.cd.all (cb_vE md_X10_tries0) = true := by decide +kernel
theorem wd_X10_tries0 : cb_wd yX10_tries md_X10_tries0 := ⟨cb_tw (i := 1767) (by decide +kernel), cb_tw (i := 11) (by decide +kernel), by decide, by decide⟩
theorem cs_X10_tries0 : ∀ X, cb_Bs md_X10_tries0 X → ∀ g ∈ md_X10_tries0.ga, cb_CS cb_tb md_X10_tries0 X g := fun X B => List.forall_mem_cons.mpr ⟨cb_csV B ok_X10_goesOn wd_X10_goesOn (cb_tw (i := 1646) (by decide +kernel)) (cb_tw (i := 1648) (by decide +kernel)) (cb_tp (i := 68) (by decide +kernel)) rc_X10_goesOn ⟨by decide, by decide⟩ (by decide +kernel), List.forall_mem_cons.mpr ⟨cb_csV B ok_X10_rightNow wd_X10_rightNow (cb_tw (i := 1674) (by decide +kernel)) (cb_tw (i := 1676) (by decide +kernel)) (cb_tp (i := 71) (by decide +kernel)) rc_X10_rightNow ⟨by decide, by decide⟩ (by decide +kernel), List.forall_mem_cons.mpr ⟨cb_csV B ok_X10_mostWeight wd_X10_mostWeight (cb_tw (i := 1768) (by decide +kernel)) (cb_tw (i := 1770) (by decide +kernel)) (cb_tp (i := 82) (by decide +kernel)) rc_X10_mostWeight ⟨by decide, by decide⟩ (by decide +kernel), List.forall_mem_cons.mpr ⟨cb_csV B ok_X10_hangsOn wd_X10_hangsOn (cb_tw (i := 1713) (by decide +kernel)) (cb_tw (i := 1715) (by decide +kernel)) (cb_tp (i := 76) (by decide +kernel)) rc_X10_hangsOn ⟨by decide, by decide⟩ (by decide +kernel), List.forall_mem_cons.mpr ⟨(fun a M As K H locs k n pc lc rest h1 h2 => h2.elim), fun _ h => nomatch h⟩⟩⟩⟩⟩
theorem ok_X10_tries0 : cb_MOK cb_tb yX10_tries md_X10_tries0 pt_X10_tries0 := by
  refine cb_okm ⟨plainFor_of_name (by decide), rfl⟩ (by decide) cs_X10_tries0 (by decide) (fun X n0 f i r M hr ha h => ?_)
  have h0 := cb_a1 (T := 46) rfl ha
  subst h0
  match r, hr, h with
  | [.inl those, .inl from_, .inl us, .inl dg, .inl N], hr, h =>
    obtain ⟨M0, n, hh, nb, k, bd, pl, hb, hp, fr, d, ⟨hFJ, hI, hbd, hhk, hfr, hfn, hdg, hN, hk, hlen⟩, h⟩ := h
    obtain ⟨hG, ⟨hh1, hh6, hnb1, hnb4⟩, -, -, -, -, hu, -⟩ := id hI
    obtain ⟨hn1, hn8, -⟩ := id hG
    obtain ⟨V, hV⟩ : ∃ V, V = mv M0 n hh nb := ⟨_, rfl⟩
    have hVn : V.n = n := by rw [hV]; rfl
    have hVh : V.h = hh := by rw [hV]; rfl
    have hVnb : V.nb = nb := by rw [hV]; rfl
    rw [← hV] at h
    have leaf : mt_L those n fr = [] → ∀ v7 : Option cb_V, cb_Gd cb_tb md_X10_tries0 X 40 [some (cb_r 46 0), some (cb_i (those)), some (cb_i (from_)), some (cb_i (us)), some (cb_i (dg)), some (cb_i (N)), some (cb_i (nI n)), v7] [] (cb_aS n0, f) M 0 0 := by
      intro hL v7
      rw [hL, mt_dfs, ← hdg] at h
      have hwt : ∀ M1, cb_fr fr_X M M1 → wq_mw (cb_gI M1 64 0) (cb_gI M1 67 0) n nb = wq_mw bd V.wt V.n V.nb := by
        intro M1 hF1
        rw [hF1.fn 64 0 (fun _ => rfl), hF1.fn 67 0 (fun _ => rfl), hVn, hVnb, wq_mw_cong (fun i hi => (hbd i hi).1)]
        refine wq_mw_wt (fun i hi => ?_) nb
        rw [hFJ.1 67 0 i rfl, hV]
        exact (wn_tr_lt hi).symm
      obtain ⟨W, hW⟩ : ∃ W, W = wq_mw bd V.wt V.n V.nb := ⟨_, rfl⟩
      rw [← hW] at hwt h
      have hok : ∀ s : wm_S, s = vq_on (mv M n hh nb) k → (wq_r (cb_gI M 49 0 3) 255 s n &&& those = those ↔ mt_ok V those k bd pl = true) := by
        intro s hs
        have e1 := mv_ht (nb := nb) (hh := hh) hFJ hn8 hbd k
        have e2 := vq_tr_all (V := mv M n hh nb) hn8 k
        have e3 : s = vq_ht V bd pl k := by
          rw [hs, ← e2, hV]
          exact e1
        have e4 : V.w = cb_gI M 49 0 3 := by
          rw [hV]
          exact (hFJ.1 49 0 3 rfl).symm
        unfold mt_ok vq_rts
        rw [decide_eq_true_eq, mt_and, wq_r_255 hn8, e3, hVn, e4]
      have at98 : ∀ M2, cb_fr fr_X M M2 → cb_gI M2 46 0 0 = cb_gI M 46 0 0 → X.K (.inl none) (cb_aS n0, f) (cb_sI (cb_sI M2 46 0 49 dg) 46 0 50 W) → cb_Gd cb_tb md_X10_tries0 X 98 [some (cb_r 46 0), some (cb_i (those)), some (cb_i (from_)), some (cb_i (us)), some (cb_i (dg)), some (cb_i (N)), some (cb_i (nI n)), v7] [] (cb_aS n0, f) M2 0 0 := by
        intro M2 hF2 h02 hK
        refine cb_run cb_tb_ok vd_X10_tries0 (cuts := []) 90 ?_
        refine And.intro (cb_on rfl) ⟨n, nb, ⟨(hF2.1 49 0 1 rfl).trans hn1, hn8, (hF2.1 49 0 0 rfl).trans hnb1, hnb4⟩, And.intro rfl ?_⟩
        show X.K (.inl none) (cb_aS n0, f) (cb_sI (cb_sI M2 46 0 49 dg) 46 0 50 (wq_mw (cb_gI M2 64 0) (cb_gI M2 67 0) n nb))
        rw [hwt M2 hF2]
        exact hK
      have at78 : ∀ M2, cb_fr fr_X M M2 → cb_gI M2 46 0 0 = cb_gI M 46 0 0 → (∀ M', cb_fr fr_X M M' → cb_gI M' 46 0 0 = cb_gI M 46 0 0 → mt_g M' = (cb_gI M2 46 0 48, if cb_gI M2 46 0 49 = -1 ∨ W < cb_gI M2 46 0 50 then (dg, W) else (cb_gI M2 46 0 49, cb_gI M2 46 0 50)) → X.K (.inl none) (cb_aS n0, f) M') → cb_Gd cb_tb md_X10_tries0 X 78 [some (cb_r 46 0), some (cb_i (those)), some (cb_i (from_)), some (cb_i (us)), some (cb_i (dg)), some (cb_i (N)), some (cb_i (nI n)), v7] [] (cb_aS n0, f) M2 0 0 := by
        intro M2 hF2 h02 hK
        have yes : (cb_gI M2 46 0 49 = -1 ∨ W < cb_gI M2 46 0 50) → cb_Gd cb_tb md_X10_tries0 X 98 [some (cb_r 46 0), some (cb_i (those)), some (cb_i (from_)), some (cb_i (us)), some (cb_i (dg)), some (cb_i (N)), some (cb_i (nI n)), v7] [] (cb_aS n0, f) M2 0 0 := fun q => at98 M2 hF2 h02 (hK _ ((hF2.set _ rfl).set _ rfl) h02 (by rw [if_pos q]; rfl))
        refine cb_run cb_tb_ok vd_X10_tries0 (cuts := [98]) 90 ?_
        refine And.intro (fun q => yes (Or.inl q)) (fun q => And.intro (cb_on rfl) ⟨n, nb, ⟨(hF2.1 49 0 1 rfl).trans hn1, hn8, (hF2.1 49 0 0 rfl).trans hnb1, hnb4⟩, And.intro (fun q1 => yes (Or.inr ?_)) (fun q1 => And.intro rfl (hK M2 hF2 h02 ?_))⟩)
        · have q1 : wq_mw (cb_gI M2 64 0) (cb_gI M2 67 0) n nb < cb_gI M2 46 0 50 := q1
          rw [hwt M2 hF2] at q1
          exact q1
        · have q : ¬ cb_gI M2 46 0 49 = -1 := q
          have q1 : ¬ wq_mw (cb_gI M2 64 0) (cb_gI M2 67 0) n nb < cb_gI M2 46 0 50 := q1
          rw [hwt M2 hF2] at q1
          rw [if_neg (fun w => w.elim q q1)]
          rfl
      refine cb_run cb_tb_ok vd_X10_tries0 (cuts := [75, 78]) 90 ?_
      refine And.intro (cb_on rfl) (mg_on hI hN hk (fun M1 hF1 hP1 hs1 => ?_))
      have hX1 := hF1.mono fr_n_X
      have e41 : cb_gI M1 46 0 41 = 255 := (hF1.1 46 0 41 rfl).trans hu
      have e3 : cb_gI M1 49 0 3 = cb_gI M 49 0 3 := hF1.1 49 0 3 rfl
      have h01 : cb_gI M1 46 0 0 = cb_gI M 46 0 0 := hF1.1 46 0 0 rfl
      have g48 : cb_gI M1 46 0 48 = cb_gI M 46 0 48 := hF1.1 46 0 48 rfl
      have g49 : cb_gI M1 46 0 49 = cb_gI M 46 0 49 := hF1.1 46 0 49 rfl
      have g50 : cb_gI M1 46 0 50 = cb_gI M 46 0 50 := hF1.1 46 0 50 rfl
      have hok := hok _ hs1
      have fin : ∀ v : Int32, v = (if cb_gI M 46 0 48 = -1 then dg else cb_gI M 46 0 48) → mt_ok V those k bd pl = true → cb_Gd cb_tb md_X10_tries0 X 75 [some (cb_r 46 0), some (cb_i those), some (cb_i from_), some (cb_i us), some (cb_i dg), some (cb_i N), some (cb_i (nI n)), v7] [cb_i v, cb_r 46 0] (cb_aS n0, f) M1 0 0 := by
        intro v hv q
        have h : ∀ M', cb_fr fr_X M M' → cb_gI M' 46 0 0 = cb_gI M 46 0 0 → mt_g M' = mt_leaf dg (mt_ok V those k bd pl) W (mt_g M) → X.K (.inl none) (cb_aS n0, f) M' := h
        unfold mt_leaf at h
        rw [if_pos q] at h
        refine cb_run cb_tb_ok vd_X10_tries0 (cuts := [78]) 90 ?_
        refine at78 (cb_sI M1 46 0 48 v) (hX1.set _ rfl) h01 (fun M' hF' h0' hg => h M' hF' h0' ?_)
        rw [hg]
        show (v, if cb_gI M1 46 0 49 = -1 ∨ W < cb_gI M1 46 0 50 then (dg, W) else (cb_gI M1 46 0 49, cb_gI M1 46 0 50)) = _
        rw [hv, g49, g50]
        rfl
      refine And.intro (cb_on rfl) ⟨n, ⟨(hF1.1 49 0 1 rfl).trans hn1, hn8⟩, And.intro (fun q => ?_) (fun q => And.intro rfl (h M1 hX1 h01 ?_))⟩
      · have q : wq_r (cb_gI M1 49 0 3) (cb_gI M1 46 0 41) (mk_s M1 n) n &&& those = those := q
        rw [e3, e41] at q
        have q := hok.mp q
        refine cb_ifne (fun q1 => fin _ ?_ q) (fun q1 => fin _ ?_ q)
        · have q1 : ¬ cb_gI M1 46 0 48 = -1 := q1
          show cb_gI M1 46 0 48 = _
          rw [g48] at q1 ⊢
          rw [if_neg q1]
        · have q1 : cb_gI M1 46 0 48 = -1 := q1
          rw [g48] at q1
          rw [if_pos q1]
      · have q : ¬ wq_r (cb_gI M1 49 0 3) (cb_gI M1 46 0 41) (mk_s M1 n) n &&& those = those := q
        rw [e3, e41] at q
        unfold mt_leaf
        rw [if_neg (fun w => q (hok.mpr w))]
        unfold mt_g
        rw [g48, g49, g50]
    have rec_ : ∀ i, i < n → cb_bit those i = true → mt_L those n i = mt_L those n fr → ∀ v7 : Option cb_V, cb_Gd cb_tb md_X10_tries0 X 113 [some (cb_r 46 0), some (cb_i (those)), some (cb_i (from_)), some (cb_i (us)), some (cb_i (dg)), some (cb_i (N)), some (cb_i (nI i)), v7] [] (cb_aS n0, f) M 0 0 := by
      intro i hi hbit hLi v7
      have hL : mt_L those n fr = i :: mt_L those n (i + 1) := by rw [← hLi, mt_L_s hi, if_pos hbit]
      rw [hL, List.length_cons] at hlen
      omega
    have at29 : ∀ i, (i = n ∨ i < n ∧ cb_bit those i = true) → mt_L those n i = mt_L those n fr → ∀ v7 : Option cb_V, cb_Gd cb_tb md_X10_tries0 X 29 [some (cb_r 46 0), some (cb_i (those)), some (cb_i (from_)), some (cb_i (us)), some (cb_i (dg)), some (cb_i (N)), some (cb_i (nI i)), v7] [] (cb_aS n0, f) M 0 0 := by
      intro i hi hLi v7
      refine cb_run cb_tb_ok vd_X10_tries0 (cuts := [40, 113]) 90 ?_
      refine And.intro (mi_v 1 (by decide)) (cb_ifne (fun q => ?_) (fun q => ?_))
      · have q : ¬ nI i = cb_gI M 49 0 1 := q
        rw [hn1] at q
        rcases hi with rfl | ⟨hi, hb⟩
        · exact absurd rfl q
        · exact rec_ i hi hb hLi v7
      · have q : nI i = cb_gI M 49 0 1 := q
        rw [hn1] at q
        have hin : i = n := by
          rcases hi with hi | ⟨hi, hb⟩
          · exact hi
          · exact (nI_eq (by omega) (by omega)).mp q
        subst hin
        exact leaf (by rw [← hLi, mt_L_end]) v7
    have scan : ∀ g i, n - i = g → i ≤ n → mt_L those n i = mt_L those n fr → ∀ v7 : Option cb_V, cb_Gd cb_tb md_X10_tries0 X 3 [some (cb_r 46 0), some (cb_i (those)), some (cb_i (from_)), some (cb_i (us)), some (cb_i (dg)), some (cb_i (N)), some (cb_i (nI i)), v7] [] (cb_aS n0, f) M 0 0 := by
      intro g
      induction g with
      | zero =>
        intro i hg hi hLi v7
        have hin : i = n := by omega
        refine cb_run cb_tb_ok vd_X10_tries0 (cuts := [3, 29]) 90 ?_
        exact And.intro (mi_v 1 (by decide)) (cb_lout (n := n) (by rw [hin]) hn1 (at29 i (Or.inl hin) hLi v7))
      | succ g ih =>
        intro i hg hi hLi v7
        have hin : i < n := by omega
        refine cb_run cb_tb_ok vd_X10_tries0 (cuts := [3, 29]) 90 ?_
        refine And.intro (mi_v 1 (by decide)) (cb_lin rfl hn1 hin (by omega) ?_)
        show (¬ (those >>> (nI i &&& 31)) &&& 1 = 0 → _) ∧ (¬ ¬ (those >>> (nI i &&& 31)) &&& 1 = 0 → _)
        rw [mi_sbit _ (by omega)]
        refine cb_ifnz (fun q => at29 i (Or.inr ⟨hin, q⟩) hLi v7) (fun q => ?_)
        show cb_Gd cb_tb md_X10_tries0 X 3 [some (cb_r 46 0), some (cb_i (those)), some (cb_i (from_)), some (cb_i (us)), some (cb_i (dg)), some (cb_i (N)), some (cb_i (nI i + 1)), v7] [] (cb_aS n0, f) M 0 0
        rw [nI_1]
        refine ih (i + 1) (by omega) (by omega) ?_ v7
        rw [← hLi, mt_L_s hin, if_neg (by rw [q]; decide)]
    refine cb_run cb_tb_ok vd_X10_tries0 (cuts := [3]) 90 ?_
    show cb_Gd cb_tb md_X10_tries0 X 3 [some (cb_r 46 0), some (cb_i (those)), some (cb_i (from_)), some (cb_i (us)), some (cb_i (dg)), some (cb_i (N)), some (cb_i (from_)), none] [] (cb_aS n0, f) M 0 0
    have z := scan (n - fr) fr rfl hfn rfl none
    rw [← hfr] at z
    exact z

def pt_X10_tries1 : cb_PT := cb_m 46 5 (sp_X10_tries 1)
theorem rc_X10_tries1 : cb_rc cb_tb RX10 pt_X10_tries1 := cb_m_rc rfl rfl
def md_X10_tries1 : cb_D := (RX10, cX10_tries, 8, none, (0, 0, 7, 161), [
  (0, .iload_n 2, 1, 0, 2, 0, 0),
  (1, .istore 6, 2, 0, 6, 0, 0),
  (3, .iload 6, 2, 0, 6, 0, 0),
  (5, .aload_n 0, 1, 0, 0, 0, 0),
  (6, .getfield 20, 3, 0, 10, 10, 1338),
  (9, .iconst 1, 1, 1, 0, 0, 0),
  (10, .iaload, 1, 0, 0, 0, 0),
  (11, .if_icmp .ge 18, 3, 0, 29, 0, 0),
  (14, .iload_n 1, 1, 0, 1, 0, 0),
  (15, .iload 6, 2, 0, 6, 0, 0),
  (17, .ishr, 1, 0, 0, 0, 0),
  (18, .iconst 1, 1, 1, 0, 0, 0),
  (19, .iand, 1, 0, 0, 0, 0),
  (20, .ifCond .ne 9, 3, 0, 29, 0, 0),
  (23, .iinc 6 1, 3, 1, 6, 0, 0),
  (26, .goto (-23), 3, 0, 3, 0, 0),
  (29, .iload 6, 2, 0, 6, 0, 0),
  (31, .aload_n 0, 1, 0, 0, 0, 0),
  (32, .getfield 20, 3, 0, 10, 10, 1338),
  (35, .iconst 1, 1, 1, 0, 0, 0),
  (36, .iaload, 1, 0, 0, 0, 0),
  (37, .if_icmp .ne 76, 3, 0, 113, 0, 0),
  (40, .aload_n 0, 1, 0, 0, 0, 0),
  (41, .iload 5, 2, 0, 5, 0, 0),
  (43, .invokevirtual 276, 3, 0, 0, 0, 0),
  (46, .aload_n 0, 1, 0, 0, 0, 0),
  (47, .invokevirtual 286, 3, 0, 1, 0, 0),
  (50, .iload_n 1, 1, 0, 1, 0, 0),
  (51, .iand, 1, 0, 0, 0, 0),
  (52, .iload_n 1, 1, 0, 1, 0, 0),
  (53, .if_icmp .eq 4, 3, 0, 57, 0, 0),
  (56, .return_, 1, 0, 0, 0, 0),
  (57, .aload_n 0, 1, 0, 0, 0, 0),
  (58, .aload_n 0, 1, 0, 0, 0, 0),
  (59, .getfield 320, 3, 0, 10, 48, 1376),
  (62, .iconst (-1), 1, (-1), 0, 0, 0),
  (63, .if_icmp .ne 8, 3, 0, 71, 0, 0),
  (66, .iload 4, 2, 0, 4, 0, 0),
  (68, .goto 7, 3, 0, 75, 0, 0),
  (71, .aload_n 0, 1, 0, 0, 0, 0),
  (72, .getfield 320, 3, 0, 10, 48, 1376),
  (75, .putfield 320, 3, 0, 10, 48, 1376),
  (78, .aload_n 0, 1, 0, 0, 0, 0),
  (79, .getfield 323, 3, 0, 10, 49, 1377),
  (82, .iconst (-1), 1, (-1), 0, 0, 0),
  (83, .if_icmp .eq 15, 3, 0, 98, 0, 0),
  (86, .aload_n 0, 1, 0, 0, 0, 0),
  (87, .invokevirtual 326, 3, 0, 2, 0, 0),
  (90, .aload_n 0, 1, 0, 0, 0, 0),
  (91, .getfield 329, 3, 0, 10, 50, 1378),
  (94, .if_icmp .lt 4, 3, 0, 98, 0, 0),
  (97, .return_, 1, 0, 0, 0, 0),
  (98, .aload_n 0, 1, 0, 0, 0, 0),
  (99, .iload 4, 2, 0, 4, 0, 0),
  (101, .putfield 323, 3, 0, 10, 49, 1377),
  (104, .aload_n 0, 1, 0, 0, 0, 0),
  (105, .aload_n 0, 1, 0, 0, 0, 0),
  (106, .invokevirtual 326, 3, 0, 2, 0, 0),
  (109, .putfield 329, 3, 0, 10, 50, 1378),
  (112, .return_, 1, 0, 0, 0, 0),
  (113, .iconst 0, 1, 0, 0, 0, 0),
  (114, .istore 7, 2, 0, 7, 0, 0),
  (116, .iload 7, 2, 0, 7, 0, 0),
  (118, .aload_n 0, 1, 0, 0, 0, 0),
  (119, .getfield 20, 3, 0, 10, 10, 1338),
  (122, .iconst 2, 1, 2, 0, 0, 0),
  (123, .iaload, 1, 0, 0, 0, 0),
  (124, .if_icmp .ge 65, 3, 0, 189, 0, 0),
  (127, .iload_n 3, 1, 0, 3, 0, 0),
  (128, .iload 7, 2, 0, 7, 0, 0),
  (130, .ishr, 1, 0, 0, 0, 0),
  (131, .iconst 1, 1, 1, 0, 0, 0),
  (132, .iand, 1, 0, 0, 0, 0),
  (133, .iconst 1, 1, 1, 0, 0, 0),
  (134, .if_icmp .ne 6, 3, 0, 140, 0, 0),
  (137, .goto 46, 3, 0, 183, 0, 0),
  (140, .aload_n 0, 1, 0, 0, 0, 0),
  (141, .iload 6, 2, 0, 6, 0, 0),
  (143, .iload 7, 2, 0, 7, 0, 0),
  (145, .invokevirtual 301, 3, 0, 3, 0, 0),
  (148, .aload_n 0, 1, 0, 0, 0, 0),
  (149, .iload_n 1, 1, 0, 1, 0, 0),
  (150, .iload 6, 2, 0, 6, 0, 0),
  (152, .iconst 1, 1, 1, 0, 0, 0),
  (153, .iadd, 1, 0, 0, 0, 0),
  (154, .iload_n 3, 1, 0, 3, 0, 0),
  (155, .iconst 1, 1, 1, 0, 0, 0),
  (156, .iload 7, 2, 0, 7, 0, 0),
  (158, .ishl, 1, 0, 0, 0, 0),
  (159, .ior, 1, 0, 0, 0, 0),
  (160, .bipush 10, 2, 10, 0, 0, 0),
  (162, .iload 4, 2, 0, 4, 0, 0),
  (164, .imul, 1, 0, 0, 0, 0),
  (165, .iload 7, 2, 0, 7, 0, 0),
  (167, .iadd, 1, 0, 0, 0, 0),
  (168, .iconst 1, 1, 1, 0, 0, 0),
  (169, .iadd, 1, 0, 0, 0, 0),
  (170, .iload 5, 2, 0, 5, 0, 0),
  (172, .invokevirtual 332, 3, 0, 4, 0, 0),
  (175, .aload_n 0, 1, 0, 0, 0, 0),
  (176, .iload 6, 2, 0, 6, 0, 0),
  (178, .iload 7, 2, 0, 7, 0, 0),
  (180, .invokevirtual 301, 3, 0, 3, 0, 0),
  (183, .iinc 7 1, 3, 1, 7, 0, 0),
  (186, .goto (-70), 3, 0, 116, 0, 0),
  (189, .return_, 1, 0, 0, 0, 0)],
  [(0, 276, 2, 0, 0, pt_X10_goesOn), (0, 286, 1, 0, 0, pt_X10_rightNow), (0, 326, 1, 0, 0, pt_X10_mostWeight), (0, 301, 3, 0, 0, pt_X10_hangsOn), (0, 332, 6, 0, 0, pt_X10_tries0)], [])
set_option maxRecDepth 100000 in
theorem vd_X10_tries1 : md_X10_tries1.cd.all (cb_vE md_X10_tries1) = true := by decide +kernel
theorem wd_X10_tries1 : cb_wd yX10_tries md_X10_tries1 := ⟨cb_tw (i := 1767) (by decide +kernel), cb_tw (i := 11) (by decide +kernel), by decide, by decide⟩
theorem cs_X10_tries1 : ∀ X, cb_Bs md_X10_tries1 X → ∀ g ∈ md_X10_tries1.ga, cb_CS cb_tb md_X10_tries1 X g := fun X B => List.forall_mem_cons.mpr ⟨cb_csV B ok_X10_goesOn wd_X10_goesOn (cb_tw (i := 1646) (by decide +kernel)) (cb_tw (i := 1648) (by decide +kernel)) (cb_tp (i := 68) (by decide +kernel)) rc_X10_goesOn ⟨by decide, by decide⟩ (by decide +kernel), List.forall_mem_cons.mpr ⟨cb_csV B ok_X10_rightNow wd_X10_rightNow (cb_tw (i := 1674) (by decide +kernel)) (cb_tw (i := 1676) (by decide +kernel)) (cb_tp (i := 71) (by decide +kernel)) rc_X10_rightNow ⟨by decide, by decide⟩ (by decide +kernel), List.forall_mem_cons.mpr ⟨cb_csV B ok_X10_mostWeight wd_X10_mostWeight (cb_tw (i := 1768) (by decide +kernel)) (cb_tw (i := 1770) (by decide +kernel)) (cb_tp (i := 82) (by decide +kernel)) rc_X10_mostWeight ⟨by decide, by decide⟩ (by decide +kernel), List.forall_mem_cons.mpr ⟨cb_csV B ok_X10_hangsOn wd_X10_hangsOn (cb_tw (i := 1713) (by decide +kernel)) (cb_tw (i := 1715) (by decide +kernel)) (cb_tp (i := 76) (by decide +kernel)) rc_X10_hangsOn ⟨by decide, by decide⟩ (by decide +kernel), List.forall_mem_cons.mpr ⟨cb_csV B ok_X10_tries0 wd_X10_tries0 (cb_tw (i := 1764) (by decide +kernel)) (cb_tw (i := 1766) (by decide +kernel)) (cb_tp (i := 81) (by decide +kernel)) rc_X10_tries0 ⟨by decide, by decide⟩ (by decide +kernel), fun _ h => nomatch h⟩⟩⟩⟩⟩
theorem ok_X10_tries1 : cb_MOK cb_tb yX10_tries md_X10_tries1 pt_X10_tries1 := by
  refine cb_okm ⟨plainFor_of_name (by decide), rfl⟩ (by decide) cs_X10_tries1 (by decide) (fun X n0 f i r M hr ha h => ?_)
  have h0 := cb_a1 (T := 46) rfl ha
  subst h0
  match r, hr, h with
  | [.inl those, .inl from_, .inl us, .inl dg, .inl N], hr, h =>
    obtain ⟨M0, n, hh, nb, k, bd, pl, hb, hp, fr, d, ⟨hFJ, hI, hbd, hhk, hfr, hfn, hdg, hN, hk, hlen⟩, h⟩ := h
    obtain ⟨hG, ⟨hh1, hh6, hnb1, hnb4⟩, -, -, -, -, hu, -⟩ := id hI
    obtain ⟨hn1, hn8, -⟩ := id hG
    obtain ⟨V, hV⟩ : ∃ V, V = mv M0 n hh nb := ⟨_, rfl⟩
    have hVn : V.n = n := by rw [hV]; rfl
    have hVh : V.h = hh := by rw [hV]; rfl
    have hVnb : V.nb = nb := by rw [hV]; rfl
    rw [← hV] at h
    have leaf : mt_L those n fr = [] → ∀ v7 : Option cb_V, cb_Gd cb_tb md_X10_tries1 X 40 [some (cb_r 46 0), some (cb_i (those)), some (cb_i (from_)), some (cb_i (us)), some (cb_i (dg)), some (cb_i (N)), some (cb_i (nI n)), v7] [] (cb_aS n0, f) M 0 0 := by
      intro hL v7
      rw [hL, mt_dfs, ← hdg] at h
      have hwt : ∀ M1, cb_fr fr_X M M1 → wq_mw (cb_gI M1 64 0) (cb_gI M1 67 0) n nb = wq_mw bd V.wt V.n V.nb := by
        intro M1 hF1
        rw [hF1.fn 64 0 (fun _ => rfl), hF1.fn 67 0 (fun _ => rfl), hVn, hVnb, wq_mw_cong (fun i hi => (hbd i hi).1)]
        refine wq_mw_wt (fun i hi => ?_) nb
        rw [hFJ.1 67 0 i rfl, hV]
        exact (wn_tr_lt hi).symm
      obtain ⟨W, hW⟩ : ∃ W, W = wq_mw bd V.wt V.n V.nb := ⟨_, rfl⟩
      rw [← hW] at hwt h
      have hok : ∀ s : wm_S, s = vq_on (mv M n hh nb) k → (wq_r (cb_gI M 49 0 3) 255 s n &&& those = those ↔ mt_ok V those k bd pl = true) := by
        intro s hs
        have e1 := mv_ht (nb := nb) (hh := hh) hFJ hn8 hbd k
        have e2 := vq_tr_all (V := mv M n hh nb) hn8 k
        have e3 : s = vq_ht V bd pl k := by
          rw [hs, ← e2, hV]
          exact e1
        have e4 : V.w = cb_gI M 49 0 3 := by
          rw [hV]
          exact (hFJ.1 49 0 3 rfl).symm
        unfold mt_ok vq_rts
        rw [decide_eq_true_eq, mt_and, wq_r_255 hn8, e3, hVn, e4]
      have at98 : ∀ M2, cb_fr fr_X M M2 → cb_gI M2 46 0 0 = cb_gI M 46 0 0 → X.K (.inl none) (cb_aS n0, f) (cb_sI (cb_sI M2 46 0 49 dg) 46 0 50 W) → cb_Gd cb_tb md_X10_tries1 X 98 [some (cb_r 46 0), some (cb_i (those)), some (cb_i (from_)), some (cb_i (us)), some (cb_i (dg)), some (cb_i (N)), some (cb_i (nI n)), v7] [] (cb_aS n0, f) M2 0 0 := by
        intro M2 hF2 h02 hK
        refine cb_run cb_tb_ok vd_X10_tries1 (cuts := []) 90 ?_
        refine And.intro (cb_on rfl) ⟨n, nb, ⟨(hF2.1 49 0 1 rfl).trans hn1, hn8, (hF2.1 49 0 0 rfl).trans hnb1, hnb4⟩, And.intro rfl ?_⟩
        show X.K (.inl none) (cb_aS n0, f) (cb_sI (cb_sI M2 46 0 49 dg) 46 0 50 (wq_mw (cb_gI M2 64 0) (cb_gI M2 67 0) n nb))
        rw [hwt M2 hF2]
        exact hK
      have at78 : ∀ M2, cb_fr fr_X M M2 → cb_gI M2 46 0 0 = cb_gI M 46 0 0 → (∀ M', cb_fr fr_X M M' → cb_gI M' 46 0 0 = cb_gI M 46 0 0 → mt_g M' = (cb_gI M2 46 0 48, if cb_gI M2 46 0 49 = -1 ∨ W < cb_gI M2 46 0 50 then (dg, W) else (cb_gI M2 46 0 49, cb_gI M2 46 0 50)) → X.K (.inl none) (cb_aS n0, f) M') → cb_Gd cb_tb md_X10_tries1 X 78 [some (cb_r 46 0), some (cb_i (those)), some (cb_i (from_)), some (cb_i (us)), some (cb_i (dg)), some (cb_i (N)), some (cb_i (nI n)), v7] [] (cb_aS n0, f) M2 0 0 := by
        intro M2 hF2 h02 hK
        have yes : (cb_gI M2 46 0 49 = -1 ∨ W < cb_gI M2 46 0 50) → cb_Gd cb_tb md_X10_tries1 X 98 [some (cb_r 46 0), some (cb_i (those)), some (cb_i (from_)), some (cb_i (us)), some (cb_i (dg)), some (cb_i (N)), some (cb_i (nI n)), v7] [] (cb_aS n0, f) M2 0 0 := fun q => at98 M2 hF2 h02 (hK _ ((hF2.set _ rfl).set _ rfl) h02 (by rw [if_pos q]; rfl))
        refine cb_run cb_tb_ok vd_X10_tries1 (cuts := [98]) 90 ?_
        refine And.intro (fun q => yes (Or.inl q)) (fun q => And.intro (cb_on rfl) ⟨n, nb, ⟨(hF2.1 49 0 1 rfl).trans hn1, hn8, (hF2.1 49 0 0 rfl).trans hnb1, hnb4⟩, And.intro (fun q1 => yes (Or.inr ?_)) (fun q1 => And.intro rfl (hK M2 hF2 h02 ?_))⟩)
        · have q1 : wq_mw (cb_gI M2 64 0) (cb_gI M2 67 0) n nb < cb_gI M2 46 0 50 := q1
          rw [hwt M2 hF2] at q1
          exact q1
        · have q : ¬ cb_gI M2 46 0 49 = -1 := q
          have q1 : ¬ wq_mw (cb_gI M2 64 0) (cb_gI M2 67 0) n nb < cb_gI M2 46 0 50 := q1
          rw [hwt M2 hF2] at q1
          rw [if_neg (fun w => w.elim q q1)]
          rfl
      refine cb_run cb_tb_ok vd_X10_tries1 (cuts := [75, 78]) 90 ?_
      refine And.intro (cb_on rfl) (mg_on hI hN hk (fun M1 hF1 hP1 hs1 => ?_))
      have hX1 := hF1.mono fr_n_X
      have e41 : cb_gI M1 46 0 41 = 255 := (hF1.1 46 0 41 rfl).trans hu
      have e3 : cb_gI M1 49 0 3 = cb_gI M 49 0 3 := hF1.1 49 0 3 rfl
      have h01 : cb_gI M1 46 0 0 = cb_gI M 46 0 0 := hF1.1 46 0 0 rfl
      have g48 : cb_gI M1 46 0 48 = cb_gI M 46 0 48 := hF1.1 46 0 48 rfl
      have g49 : cb_gI M1 46 0 49 = cb_gI M 46 0 49 := hF1.1 46 0 49 rfl
      have g50 : cb_gI M1 46 0 50 = cb_gI M 46 0 50 := hF1.1 46 0 50 rfl
      have hok := hok _ hs1
      have fin : ∀ v : Int32, v = (if cb_gI M 46 0 48 = -1 then dg else cb_gI M 46 0 48) → mt_ok V those k bd pl = true → cb_Gd cb_tb md_X10_tries1 X 75 [some (cb_r 46 0), some (cb_i those), some (cb_i from_), some (cb_i us), some (cb_i dg), some (cb_i N), some (cb_i (nI n)), v7] [cb_i v, cb_r 46 0] (cb_aS n0, f) M1 0 0 := by
        intro v hv q
        have h : ∀ M', cb_fr fr_X M M' → cb_gI M' 46 0 0 = cb_gI M 46 0 0 → mt_g M' = mt_leaf dg (mt_ok V those k bd pl) W (mt_g M) → X.K (.inl none) (cb_aS n0, f) M' := h
        unfold mt_leaf at h
        rw [if_pos q] at h
        refine cb_run cb_tb_ok vd_X10_tries1 (cuts := [78]) 90 ?_
        refine at78 (cb_sI M1 46 0 48 v) (hX1.set _ rfl) h01 (fun M' hF' h0' hg => h M' hF' h0' ?_)
        rw [hg]
        show (v, if cb_gI M1 46 0 49 = -1 ∨ W < cb_gI M1 46 0 50 then (dg, W) else (cb_gI M1 46 0 49, cb_gI M1 46 0 50)) = _
        rw [hv, g49, g50]
        rfl
      refine And.intro (cb_on rfl) ⟨n, ⟨(hF1.1 49 0 1 rfl).trans hn1, hn8⟩, And.intro (fun q => ?_) (fun q => And.intro rfl (h M1 hX1 h01 ?_))⟩
      · have q : wq_r (cb_gI M1 49 0 3) (cb_gI M1 46 0 41) (mk_s M1 n) n &&& those = those := q
        rw [e3, e41] at q
        have q := hok.mp q
        refine cb_ifne (fun q1 => fin _ ?_ q) (fun q1 => fin _ ?_ q)
        · have q1 : ¬ cb_gI M1 46 0 48 = -1 := q1
          show cb_gI M1 46 0 48 = _
          rw [g48] at q1 ⊢
          rw [if_neg q1]
        · have q1 : cb_gI M1 46 0 48 = -1 := q1
          rw [g48] at q1
          rw [if_pos q1]
      · have q : ¬ wq_r (cb_gI M1 49 0 3) (cb_gI M1 46 0 41) (mk_s M1 n) n &&& those = those := q
        rw [e3, e41] at q
        unfold mt_leaf
        rw [if_neg (fun w => q (hok.mpr w))]
        unfold mt_g
        rw [g48, g49, g50]
    have rec_ : ∀ i, i < n → cb_bit those i = true → mt_L those n i = mt_L those n fr → ∀ v7 : Option cb_V, cb_Gd cb_tb md_X10_tries1 X 113 [some (cb_r 46 0), some (cb_i (those)), some (cb_i (from_)), some (cb_i (us)), some (cb_i (dg)), some (cb_i (N)), some (cb_i (nI i)), v7] [] (cb_aS n0, f) M 0 0 := by
      intro i hi hbit hLi v7
      have hL : mt_L those n fr = i :: mt_L those n (i + 1) := by rw [← hLi, mt_L_s hi, if_pos hbit]
      rw [hL] at h hlen
      rw [mt_dfs, hVh] at h
      obtain ⟨step, hstep⟩ : ∃ step : Nat → mt_S → mt_S, step = fun g s => if cb_bit us g = true then s else mt_dfs V those k (mt_L those n (i + 1)) (us ||| wm_b1 g) (10 * d + g + 1) (wm_upd bd i (hb g)) (wm_upd pl i (hp g)) (wm_upd hb g (bd i)) (wm_upd hp g (pl i)) s := ⟨_, rfl⟩
      rw [← hstep] at h
      have loop : ∀ g, g ≤ hh → ∀ (y : Int32) (M2 : cb_M), y = nI g → cb_fr fr_X M M2 → cb_gI M2 46 0 0 = cb_gI M 46 0 0 → mt_g M2 = mf step g (mt_g M) → cb_Gd cb_tb md_X10_tries1 X 116 [some (cb_r 46 0), some (cb_i (those)), some (cb_i (from_)), some (cb_i (us)), some (cb_i (dg)), some (cb_i (N)), some (cb_i (nI i)), some (cb_i (y))] [] (cb_aS n0, f) M2 0 0 := by
        refine cb_up (fun g => ∀ (y : Int32) (M2 : cb_M), y = nI g → cb_fr fr_X M M2 → cb_gI M2 46 0 0 = cb_gI M 46 0 0 → mt_g M2 = mf step g (mt_g M) → cb_Gd cb_tb md_X10_tries1 X 116 [some (cb_r 46 0), some (cb_i (those)), some (cb_i (from_)), some (cb_i (us)), some (cb_i (dg)), some (cb_i (N)), some (cb_i (nI i)), some (cb_i (y))] [] (cb_aS n0, f) M2 0 0) ?_ ?_
        · intro y M2 hy hF2 h02 hg2
          refine cb_run cb_tb_ok vd_X10_tries1 (cuts := [116]) 90 ?_
          exact And.intro (mi_v 2 (by decide)) (cb_lout hy ((hF2.1 49 0 2 rfl).trans hh1) (And.intro rfl (h M2 hF2 h02 hg2)))
        · intro g hg ih y M2 hy hF2 h02 hg2
          subst hy
          refine cb_run cb_tb_ok vd_X10_tries1 (cuts := [116, 140, 183]) 90 ?_
          refine And.intro (mi_v 2 (by decide)) (cb_lin rfl ((hF2.1 49 0 2 rfl).trans hh1) hg (by omega) ?_)
          show (¬ (us >>> (nI g &&& 31)) &&& 1 = 1 → _) ∧ (¬ ¬ (us >>> (nI g &&& 31)) &&& 1 = 1 → _)
          rw [mi_sbit _ (by omega)]
          have nx : ∀ M3, cb_fr fr_X M M3 → cb_gI M3 46 0 0 = cb_gI M 46 0 0 → mt_g M3 = step g (mt_g M2) → cb_Gd cb_tb md_X10_tries1 X 183 [some (cb_r 46 0), some (cb_i (those)), some (cb_i (from_)), some (cb_i (us)), some (cb_i (dg)), some (cb_i (N)), some (cb_i (nI i)), some (cb_i (nI g))] [] (cb_aS n0, f) M3 0 0 := by
            intro M3 hF3 h03 hg3
            refine cb_run cb_tb_ok vd_X10_tries1 (cuts := [116]) 90 ?_
            exact ih _ M3 (nI_1 g) hF3 h03 (by rw [hg3, hg2]; rfl)
          refine cb_ifn1 (fun q => ?_) (fun q => ?_)
          · have go : cb_Gd cb_tb md_X10_tries1 X 140 [some (cb_r 46 0), some (cb_i (those)), some (cb_i (from_)), some (cb_i (us)), some (cb_i (dg)), some (cb_i (N)), some (cb_i (nI i)), some (cb_i (nI g))] [] (cb_aS n0, f) M2 0 0 := by
              have hI2 := mi_I_X hF2 hI
              have hIs := md_swap_I hI2 hi hg
              have hJs : cb_fr fr_J M0 (md_swap M2 i g) := (hFJ.trans (hF2.mono fr_X_J)).trans (md_swap_J M2 i g)
              have ed : (10 : Int32) * dg + nI g + 1 = nI (10 * d + g + 1) := by
                rw [hdg, show (10 : Int32) = nI 10 from rfl, show nI 10 * nI d = nI (10 * d) from (Int32.ofNat_mul 10 d).symm, nI_add, nI_1]
              refine cb_run cb_tb_ok vd_X10_tries1 (cuts := [183]) 90 ?_
              refine And.intro (cb_on rfl) ⟨i, g, ⟨rfl, by omega, rfl, by omega⟩, And.intro (cb_on rfl) ?_⟩
              show sp_X10_tries 0 0 [.inl those, .inl (nI i + 1), .inl (us ||| (1 : Int32) <<< (nI g &&& 31)), .inl (10 * dg + nI g + 1), .inl N] (md_swap M2 i g) _
              rw [nI_1, ed]
              refine ⟨M0, n, hh, nb, k, wm_upd bd i (hb g), wm_upd pl i (hp g), wm_upd hb g (bd i), wm_upd hp g (pl i), i + 1, 10 * d + g + 1, ⟨hJs, hIs, fun a ha' => ?_, fun l hl => ?_, rfl, by omega, rfl, hN, hk, by simpa using hlen⟩, fun M3 hF3 h03 hg3 => And.intro (cb_on rfl) ⟨i, g, ⟨rfl, by omega, rfl, by omega⟩, nx (md_swap M3 i g) (hF2.trans (md_back hF3)) ?_ ?_⟩⟩
              · rw [(md_swap_c M2 i g a).1, (md_swap_c M2 i g a).2]
                unfold wm_upd
                by_cases e : a = i
                · rw [if_pos e, if_pos e, if_pos e, if_pos e, hF2.1 72 0 g rfl, hF2.1 73 0 g rfl]
                  exact hhk g hg
                · rw [if_neg e, if_neg e, if_neg e, if_neg e, hF2.1 64 0 a rfl, hF2.1 65 0 a rfl]
                  exact hbd a ha'
              · rw [(md_swap_h M2 i g l).1, (md_swap_h M2 i g l).2]
                unfold wm_upd
                by_cases e : l = g
                · rw [if_pos e, if_pos e, if_pos e, if_pos e, hF2.1 64 0 i rfl, hF2.1 65 0 i rfl]
                  exact hbd i hi
                · rw [if_neg e, if_neg e, if_neg e, if_neg e, hF2.1 72 0 l rfl, hF2.1 73 0 l rfl]
                  exact hhk l hl
              · exact (h03 : cb_gI M3 46 0 0 = _).trans h02
              · show mt_g M3 = _
                rw [hg3, hstep, ← hV]
                show _ = if cb_bit us g = true then _ else _
                rw [if_neg (by rw [q]; decide)]
                rfl
            exact go
          · refine nx M2 hF2 h02 ?_
            rw [hstep]
            show _ = if cb_bit us g = true then _ else _
            rw [if_pos q]
      refine cb_run cb_tb_ok vd_X10_tries1 (cuts := [116]) 90 ?_
      exact loop 0 (Nat.zero_le _) _ M rfl (cb_fr.refl M) rfl rfl
    have at29 : ∀ i, (i = n ∨ i < n ∧ cb_bit those i = true) → mt_L those n i = mt_L those n fr → ∀ v7 : Option cb_V, cb_Gd cb_tb md_X10_tries1 X 29 [some (cb_r 46 0), some (cb_i (those)), some (cb_i (from_)), some (cb_i (us)), some (cb_i (dg)), some (cb_i (N)), some (cb_i (nI i)), v7] [] (cb_aS n0, f) M 0 0 := by
      intro i hi hLi v7
      refine cb_run cb_tb_ok vd_X10_tries1 (cuts := [40, 113]) 90 ?_
      refine And.intro (mi_v 1 (by decide)) (cb_ifne (fun q => ?_) (fun q => ?_))
      · have q : ¬ nI i = cb_gI M 49 0 1 := q
        rw [hn1] at q
        rcases hi with rfl | ⟨hi, hb⟩
        · exact absurd rfl q
        · exact rec_ i hi hb hLi v7
      · have q : nI i = cb_gI M 49 0 1 := q
        rw [hn1] at q
        have hin : i = n := by
          rcases hi with hi | ⟨hi, hb⟩
          · exact hi
          · exact (nI_eq (by omega) (by omega)).mp q
        subst hin
        exact leaf (by rw [← hLi, mt_L_end]) v7
    have scan : ∀ g i, n - i = g → i ≤ n → mt_L those n i = mt_L those n fr → ∀ v7 : Option cb_V, cb_Gd cb_tb md_X10_tries1 X 3 [some (cb_r 46 0), some (cb_i (those)), some (cb_i (from_)), some (cb_i (us)), some (cb_i (dg)), some (cb_i (N)), some (cb_i (nI i)), v7] [] (cb_aS n0, f) M 0 0 := by
      intro g
      induction g with
      | zero =>
        intro i hg hi hLi v7
        have hin : i = n := by omega
        refine cb_run cb_tb_ok vd_X10_tries1 (cuts := [3, 29]) 90 ?_
        exact And.intro (mi_v 1 (by decide)) (cb_lout (n := n) (by rw [hin]) hn1 (at29 i (Or.inl hin) hLi v7))
      | succ g ih =>
        intro i hg hi hLi v7
        have hin : i < n := by omega
        refine cb_run cb_tb_ok vd_X10_tries1 (cuts := [3, 29]) 90 ?_
        refine And.intro (mi_v 1 (by decide)) (cb_lin rfl hn1 hin (by omega) ?_)
        show (¬ (those >>> (nI i &&& 31)) &&& 1 = 0 → _) ∧ (¬ ¬ (those >>> (nI i &&& 31)) &&& 1 = 0 → _)
        rw [mi_sbit _ (by omega)]
        refine cb_ifnz (fun q => at29 i (Or.inr ⟨hin, q⟩) hLi v7) (fun q => ?_)
        show cb_Gd cb_tb md_X10_tries1 X 3 [some (cb_r 46 0), some (cb_i (those)), some (cb_i (from_)), some (cb_i (us)), some (cb_i (dg)), some (cb_i (N)), some (cb_i (nI i + 1)), v7] [] (cb_aS n0, f) M 0 0
        rw [nI_1]
        refine ih (i + 1) (by omega) (by omega) ?_ v7
        rw [← hLi, mt_L_s hin, if_neg (by rw [q]; decide)]
    refine cb_run cb_tb_ok vd_X10_tries1 (cuts := [3]) 90 ?_
    show cb_Gd cb_tb md_X10_tries1 X 3 [some (cb_r 46 0), some (cb_i (those)), some (cb_i (from_)), some (cb_i (us)), some (cb_i (dg)), some (cb_i (N)), some (cb_i (from_)), none] [] (cb_aS n0, f) M 0 0
    have z := scan (n - fr) fr rfl hfn rfl none
    rw [← hfr] at z
    exact z

def pt_X10_tries2 : cb_PT := cb_m 46 5 (sp_X10_tries 2)
theorem rc_X10_tries2 : cb_rc cb_tb RX10 pt_X10_tries2 := cb_m_rc rfl rfl
def md_X10_tries2 : cb_D := (RX10, cX10_tries, 8, none, (0, 0, 8, 188), [
  (0, .iload_n 2, 1, 0, 2, 0, 0),
  (1, .istore 6, 2, 0, 6, 0, 0),
  (3, .iload 6, 2, 0, 6, 0, 0),
  (5, .aload_n 0, 1, 0, 0, 0, 0),
  (6, .getfield 20, 3, 0, 10, 10, 1338),
  (9, .iconst 1, 1, 1, 0, 0, 0),
  (10, .iaload, 1, 0, 0, 0, 0),
  (11, .if_icmp .ge 18, 3, 0, 29, 0, 0),
  (14, .iload_n 1, 1, 0, 1, 0, 0),
  (15, .iload 6, 2, 0, 6, 0, 0),
  (17, .ishr, 1, 0, 0, 0, 0),
  (18, .iconst 1, 1, 1, 0, 0, 0),
  (19, .iand, 1, 0, 0, 0, 0),
  (20, .ifCond .ne 9, 3, 0, 29, 0, 0),
  (23, .iinc 6 1, 3, 1, 6, 0, 0),
  (26, .goto (-23), 3, 0, 3, 0, 0),
  (29, .iload 6, 2, 0, 6, 0, 0),
  (31, .aload_n 0, 1, 0, 0, 0, 0),
  (32, .getfield 20, 3, 0, 10, 10, 1338),
  (35, .iconst 1, 1, 1, 0, 0, 0),
  (36, .iaload, 1, 0, 0, 0, 0),
  (37, .if_icmp .ne 76, 3, 0, 113, 0, 0),
  (40, .aload_n 0, 1, 0, 0, 0, 0),
  (41, .iload 5, 2, 0, 5, 0, 0),
  (43, .invokevirtual 276, 3, 0, 0, 0, 0),
  (46, .aload_n 0, 1, 0, 0, 0, 0),
  (47, .invokevirtual 286, 3, 0, 1, 0, 0),
  (50, .iload_n 1, 1, 0, 1, 0, 0),
  (51, .iand, 1, 0, 0, 0, 0),
  (52, .iload_n 1, 1, 0, 1, 0, 0),
  (53, .if_icmp .eq 4, 3, 0, 57, 0, 0),
  (56, .return_, 1, 0, 0, 0, 0),
  (57, .aload_n 0, 1, 0, 0, 0, 0),
  (58, .aload_n 0, 1, 0, 0, 0, 0),
  (59, .getfield 320, 3, 0, 10, 48, 1376),
  (62, .iconst (-1), 1, (-1), 0, 0, 0),
  (63, .if_icmp .ne 8, 3, 0, 71, 0, 0),
  (66, .iload 4, 2, 0, 4, 0, 0),
  (68, .goto 7, 3, 0, 75, 0, 0),
  (71, .aload_n 0, 1, 0, 0, 0, 0),
  (72, .getfield 320, 3, 0, 10, 48, 1376),
  (75, .putfield 320, 3, 0, 10, 48, 1376),
  (78, .aload_n 0, 1, 0, 0, 0, 0),
  (79, .getfield 323, 3, 0, 10, 49, 1377),
  (82, .iconst (-1), 1, (-1), 0, 0, 0),
  (83, .if_icmp .eq 15, 3, 0, 98, 0, 0),
  (86, .aload_n 0, 1, 0, 0, 0, 0),
  (87, .invokevirtual 326, 3, 0, 2, 0, 0),
  (90, .aload_n 0, 1, 0, 0, 0, 0),
  (91, .getfield 329, 3, 0, 10, 50, 1378),
  (94, .if_icmp .lt 4, 3, 0, 98, 0, 0),
  (97, .return_, 1, 0, 0, 0, 0),
  (98, .aload_n 0, 1, 0, 0, 0, 0),
  (99, .iload 4, 2, 0, 4, 0, 0),
  (101, .putfield 323, 3, 0, 10, 49, 1377),
  (104, .aload_n 0, 1, 0, 0, 0, 0),
  (105, .aload_n 0, 1, 0, 0, 0, 0),
  (106, .invokevirtual 326, 3, 0, 2, 0, 0),
  (109, .putfield 329, 3, 0, 10, 50, 1378),
  (112, .return_, 1, 0, 0, 0, 0),
  (113, .iconst 0, 1, 0, 0, 0, 0),
  (114, .istore 7, 2, 0, 7, 0, 0),
  (116, .iload 7, 2, 0, 7, 0, 0),
  (118, .aload_n 0, 1, 0, 0, 0, 0),
  (119, .getfield 20, 3, 0, 10, 10, 1338),
  (122, .iconst 2, 1, 2, 0, 0, 0),
  (123, .iaload, 1, 0, 0, 0, 0),
  (124, .if_icmp .ge 65, 3, 0, 189, 0, 0),
  (127, .iload_n 3, 1, 0, 3, 0, 0),
  (128, .iload 7, 2, 0, 7, 0, 0),
  (130, .ishr, 1, 0, 0, 0, 0),
  (131, .iconst 1, 1, 1, 0, 0, 0),
  (132, .iand, 1, 0, 0, 0, 0),
  (133, .iconst 1, 1, 1, 0, 0, 0),
  (134, .if_icmp .ne 6, 3, 0, 140, 0, 0),
  (137, .goto 46, 3, 0, 183, 0, 0),
  (140, .aload_n 0, 1, 0, 0, 0, 0),
  (141, .iload 6, 2, 0, 6, 0, 0),
  (143, .iload 7, 2, 0, 7, 0, 0),
  (145, .invokevirtual 301, 3, 0, 3, 0, 0),
  (148, .aload_n 0, 1, 0, 0, 0, 0),
  (149, .iload_n 1, 1, 0, 1, 0, 0),
  (150, .iload 6, 2, 0, 6, 0, 0),
  (152, .iconst 1, 1, 1, 0, 0, 0),
  (153, .iadd, 1, 0, 0, 0, 0),
  (154, .iload_n 3, 1, 0, 3, 0, 0),
  (155, .iconst 1, 1, 1, 0, 0, 0),
  (156, .iload 7, 2, 0, 7, 0, 0),
  (158, .ishl, 1, 0, 0, 0, 0),
  (159, .ior, 1, 0, 0, 0, 0),
  (160, .bipush 10, 2, 10, 0, 0, 0),
  (162, .iload 4, 2, 0, 4, 0, 0),
  (164, .imul, 1, 0, 0, 0, 0),
  (165, .iload 7, 2, 0, 7, 0, 0),
  (167, .iadd, 1, 0, 0, 0, 0),
  (168, .iconst 1, 1, 1, 0, 0, 0),
  (169, .iadd, 1, 0, 0, 0, 0),
  (170, .iload 5, 2, 0, 5, 0, 0),
  (172, .invokevirtual 332, 3, 0, 4, 0, 0),
  (175, .aload_n 0, 1, 0, 0, 0, 0),
  (176, .iload 6, 2, 0, 6, 0, 0),
  (178, .iload 7, 2, 0, 7, 0, 0),
  (180, .invokevirtual 301, 3, 0, 3, 0, 0),
  (183, .iinc 7 1, 3, 1, 7, 0, 0),
  (186, .goto (-70), 3, 0, 116, 0, 0),
  (189, .return_, 1, 0, 0, 0, 0)],
  [(0, 276, 2, 0, 0, pt_X10_goesOn), (0, 286, 1, 0, 0, pt_X10_rightNow), (0, 326, 1, 0, 0, pt_X10_mostWeight), (0, 301, 3, 0, 0, pt_X10_hangsOn), (0, 332, 6, 0, 0, pt_X10_tries1)], [])
set_option maxRecDepth 100000 in
theorem vd_X10_tries2 : md_X10_tries2.cd.all (cb_vE md_X10_tries2) = true := by decide +kernel
theorem wd_X10_tries2 : cb_wd yX10_tries md_X10_tries2 := ⟨cb_tw (i := 1767) (by decide +kernel), cb_tw (i := 11) (by decide +kernel), by decide, by decide⟩
theorem cs_X10_tries2 : ∀ X, cb_Bs md_X10_tries2 X → ∀ g ∈ md_X10_tries2.ga, cb_CS cb_tb md_X10_tries2 X g := fun X B => List.forall_mem_cons.mpr ⟨cb_csV B ok_X10_goesOn wd_X10_goesOn (cb_tw (i := 1646) (by decide +kernel)) (cb_tw (i := 1648) (by decide +kernel)) (cb_tp (i := 68) (by decide +kernel)) rc_X10_goesOn ⟨by decide, by decide⟩ (by decide +kernel), List.forall_mem_cons.mpr ⟨cb_csV B ok_X10_rightNow wd_X10_rightNow (cb_tw (i := 1674) (by decide +kernel)) (cb_tw (i := 1676) (by decide +kernel)) (cb_tp (i := 71) (by decide +kernel)) rc_X10_rightNow ⟨by decide, by decide⟩ (by decide +kernel), List.forall_mem_cons.mpr ⟨cb_csV B ok_X10_mostWeight wd_X10_mostWeight (cb_tw (i := 1768) (by decide +kernel)) (cb_tw (i := 1770) (by decide +kernel)) (cb_tp (i := 82) (by decide +kernel)) rc_X10_mostWeight ⟨by decide, by decide⟩ (by decide +kernel), List.forall_mem_cons.mpr ⟨cb_csV B ok_X10_hangsOn wd_X10_hangsOn (cb_tw (i := 1713) (by decide +kernel)) (cb_tw (i := 1715) (by decide +kernel)) (cb_tp (i := 76) (by decide +kernel)) rc_X10_hangsOn ⟨by decide, by decide⟩ (by decide +kernel), List.forall_mem_cons.mpr ⟨cb_csV B ok_X10_tries1 wd_X10_tries1 (cb_tw (i := 1764) (by decide +kernel)) (cb_tw (i := 1766) (by decide +kernel)) (cb_tp (i := 81) (by decide +kernel)) rc_X10_tries1 ⟨by decide, by decide⟩ (by decide +kernel), fun _ h => nomatch h⟩⟩⟩⟩⟩
theorem ok_X10_tries2 : cb_MOK cb_tb yX10_tries md_X10_tries2 pt_X10_tries2 := by
  refine cb_okm ⟨plainFor_of_name (by decide), rfl⟩ (by decide) cs_X10_tries2 (by decide) (fun X n0 f i r M hr ha h => ?_)
  have h0 := cb_a1 (T := 46) rfl ha
  subst h0
  match r, hr, h with
  | [.inl those, .inl from_, .inl us, .inl dg, .inl N], hr, h =>
    obtain ⟨M0, n, hh, nb, k, bd, pl, hb, hp, fr, d, ⟨hFJ, hI, hbd, hhk, hfr, hfn, hdg, hN, hk, hlen⟩, h⟩ := h
    obtain ⟨hG, ⟨hh1, hh6, hnb1, hnb4⟩, -, -, -, -, hu, -⟩ := id hI
    obtain ⟨hn1, hn8, -⟩ := id hG
    obtain ⟨V, hV⟩ : ∃ V, V = mv M0 n hh nb := ⟨_, rfl⟩
    have hVn : V.n = n := by rw [hV]; rfl
    have hVh : V.h = hh := by rw [hV]; rfl
    have hVnb : V.nb = nb := by rw [hV]; rfl
    rw [← hV] at h
    have leaf : mt_L those n fr = [] → ∀ v7 : Option cb_V, cb_Gd cb_tb md_X10_tries2 X 40 [some (cb_r 46 0), some (cb_i (those)), some (cb_i (from_)), some (cb_i (us)), some (cb_i (dg)), some (cb_i (N)), some (cb_i (nI n)), v7] [] (cb_aS n0, f) M 0 0 := by
      intro hL v7
      rw [hL, mt_dfs, ← hdg] at h
      have hwt : ∀ M1, cb_fr fr_X M M1 → wq_mw (cb_gI M1 64 0) (cb_gI M1 67 0) n nb = wq_mw bd V.wt V.n V.nb := by
        intro M1 hF1
        rw [hF1.fn 64 0 (fun _ => rfl), hF1.fn 67 0 (fun _ => rfl), hVn, hVnb, wq_mw_cong (fun i hi => (hbd i hi).1)]
        refine wq_mw_wt (fun i hi => ?_) nb
        rw [hFJ.1 67 0 i rfl, hV]
        exact (wn_tr_lt hi).symm
      obtain ⟨W, hW⟩ : ∃ W, W = wq_mw bd V.wt V.n V.nb := ⟨_, rfl⟩
      rw [← hW] at hwt h
      have hok : ∀ s : wm_S, s = vq_on (mv M n hh nb) k → (wq_r (cb_gI M 49 0 3) 255 s n &&& those = those ↔ mt_ok V those k bd pl = true) := by
        intro s hs
        have e1 := mv_ht (nb := nb) (hh := hh) hFJ hn8 hbd k
        have e2 := vq_tr_all (V := mv M n hh nb) hn8 k
        have e3 : s = vq_ht V bd pl k := by
          rw [hs, ← e2, hV]
          exact e1
        have e4 : V.w = cb_gI M 49 0 3 := by
          rw [hV]
          exact (hFJ.1 49 0 3 rfl).symm
        unfold mt_ok vq_rts
        rw [decide_eq_true_eq, mt_and, wq_r_255 hn8, e3, hVn, e4]
      have at98 : ∀ M2, cb_fr fr_X M M2 → cb_gI M2 46 0 0 = cb_gI M 46 0 0 → X.K (.inl none) (cb_aS n0, f) (cb_sI (cb_sI M2 46 0 49 dg) 46 0 50 W) → cb_Gd cb_tb md_X10_tries2 X 98 [some (cb_r 46 0), some (cb_i (those)), some (cb_i (from_)), some (cb_i (us)), some (cb_i (dg)), some (cb_i (N)), some (cb_i (nI n)), v7] [] (cb_aS n0, f) M2 0 0 := by
        intro M2 hF2 h02 hK
        refine cb_run cb_tb_ok vd_X10_tries2 (cuts := []) 90 ?_
        refine And.intro (cb_on rfl) ⟨n, nb, ⟨(hF2.1 49 0 1 rfl).trans hn1, hn8, (hF2.1 49 0 0 rfl).trans hnb1, hnb4⟩, And.intro rfl ?_⟩
        show X.K (.inl none) (cb_aS n0, f) (cb_sI (cb_sI M2 46 0 49 dg) 46 0 50 (wq_mw (cb_gI M2 64 0) (cb_gI M2 67 0) n nb))
        rw [hwt M2 hF2]
        exact hK
      have at78 : ∀ M2, cb_fr fr_X M M2 → cb_gI M2 46 0 0 = cb_gI M 46 0 0 → (∀ M', cb_fr fr_X M M' → cb_gI M' 46 0 0 = cb_gI M 46 0 0 → mt_g M' = (cb_gI M2 46 0 48, if cb_gI M2 46 0 49 = -1 ∨ W < cb_gI M2 46 0 50 then (dg, W) else (cb_gI M2 46 0 49, cb_gI M2 46 0 50)) → X.K (.inl none) (cb_aS n0, f) M') → cb_Gd cb_tb md_X10_tries2 X 78 [some (cb_r 46 0), some (cb_i (those)), some (cb_i (from_)), some (cb_i (us)), some (cb_i (dg)), some (cb_i (N)), some (cb_i (nI n)), v7] [] (cb_aS n0, f) M2 0 0 := by
        intro M2 hF2 h02 hK
        have yes : (cb_gI M2 46 0 49 = -1 ∨ W < cb_gI M2 46 0 50) → cb_Gd cb_tb md_X10_tries2 X 98 [some (cb_r 46 0), some (cb_i (those)), some (cb_i (from_)), some (cb_i (us)), some (cb_i (dg)), some (cb_i (N)), some (cb_i (nI n)), v7] [] (cb_aS n0, f) M2 0 0 := fun q => at98 M2 hF2 h02 (hK _ ((hF2.set _ rfl).set _ rfl) h02 (by rw [if_pos q]; rfl))
        refine cb_run cb_tb_ok vd_X10_tries2 (cuts := [98]) 90 ?_
        refine And.intro (fun q => yes (Or.inl q)) (fun q => And.intro (cb_on rfl) ⟨n, nb, ⟨(hF2.1 49 0 1 rfl).trans hn1, hn8, (hF2.1 49 0 0 rfl).trans hnb1, hnb4⟩, And.intro (fun q1 => yes (Or.inr ?_)) (fun q1 => And.intro rfl (hK M2 hF2 h02 ?_))⟩)
        · have q1 : wq_mw (cb_gI M2 64 0) (cb_gI M2 67 0) n nb < cb_gI M2 46 0 50 := q1
          rw [hwt M2 hF2] at q1
          exact q1
        · have q : ¬ cb_gI M2 46 0 49 = -1 := q
          have q1 : ¬ wq_mw (cb_gI M2 64 0) (cb_gI M2 67 0) n nb < cb_gI M2 46 0 50 := q1
          rw [hwt M2 hF2] at q1
          rw [if_neg (fun w => w.elim q q1)]
          rfl
      refine cb_run cb_tb_ok vd_X10_tries2 (cuts := [75, 78]) 90 ?_
      refine And.intro (cb_on rfl) (mg_on hI hN hk (fun M1 hF1 hP1 hs1 => ?_))
      have hX1 := hF1.mono fr_n_X
      have e41 : cb_gI M1 46 0 41 = 255 := (hF1.1 46 0 41 rfl).trans hu
      have e3 : cb_gI M1 49 0 3 = cb_gI M 49 0 3 := hF1.1 49 0 3 rfl
      have h01 : cb_gI M1 46 0 0 = cb_gI M 46 0 0 := hF1.1 46 0 0 rfl
      have g48 : cb_gI M1 46 0 48 = cb_gI M 46 0 48 := hF1.1 46 0 48 rfl
      have g49 : cb_gI M1 46 0 49 = cb_gI M 46 0 49 := hF1.1 46 0 49 rfl
      have g50 : cb_gI M1 46 0 50 = cb_gI M 46 0 50 := hF1.1 46 0 50 rfl
      have hok := hok _ hs1
      have fin : ∀ v : Int32, v = (if cb_gI M 46 0 48 = -1 then dg else cb_gI M 46 0 48) → mt_ok V those k bd pl = true → cb_Gd cb_tb md_X10_tries2 X 75 [some (cb_r 46 0), some (cb_i those), some (cb_i from_), some (cb_i us), some (cb_i dg), some (cb_i N), some (cb_i (nI n)), v7] [cb_i v, cb_r 46 0] (cb_aS n0, f) M1 0 0 := by
        intro v hv q
        have h : ∀ M', cb_fr fr_X M M' → cb_gI M' 46 0 0 = cb_gI M 46 0 0 → mt_g M' = mt_leaf dg (mt_ok V those k bd pl) W (mt_g M) → X.K (.inl none) (cb_aS n0, f) M' := h
        unfold mt_leaf at h
        rw [if_pos q] at h
        refine cb_run cb_tb_ok vd_X10_tries2 (cuts := [78]) 90 ?_
        refine at78 (cb_sI M1 46 0 48 v) (hX1.set _ rfl) h01 (fun M' hF' h0' hg => h M' hF' h0' ?_)
        rw [hg]
        show (v, if cb_gI M1 46 0 49 = -1 ∨ W < cb_gI M1 46 0 50 then (dg, W) else (cb_gI M1 46 0 49, cb_gI M1 46 0 50)) = _
        rw [hv, g49, g50]
        rfl
      refine And.intro (cb_on rfl) ⟨n, ⟨(hF1.1 49 0 1 rfl).trans hn1, hn8⟩, And.intro (fun q => ?_) (fun q => And.intro rfl (h M1 hX1 h01 ?_))⟩
      · have q : wq_r (cb_gI M1 49 0 3) (cb_gI M1 46 0 41) (mk_s M1 n) n &&& those = those := q
        rw [e3, e41] at q
        have q := hok.mp q
        refine cb_ifne (fun q1 => fin _ ?_ q) (fun q1 => fin _ ?_ q)
        · have q1 : ¬ cb_gI M1 46 0 48 = -1 := q1
          show cb_gI M1 46 0 48 = _
          rw [g48] at q1 ⊢
          rw [if_neg q1]
        · have q1 : cb_gI M1 46 0 48 = -1 := q1
          rw [g48] at q1
          rw [if_pos q1]
      · have q : ¬ wq_r (cb_gI M1 49 0 3) (cb_gI M1 46 0 41) (mk_s M1 n) n &&& those = those := q
        rw [e3, e41] at q
        unfold mt_leaf
        rw [if_neg (fun w => q (hok.mpr w))]
        unfold mt_g
        rw [g48, g49, g50]
    have rec_ : ∀ i, i < n → cb_bit those i = true → mt_L those n i = mt_L those n fr → ∀ v7 : Option cb_V, cb_Gd cb_tb md_X10_tries2 X 113 [some (cb_r 46 0), some (cb_i (those)), some (cb_i (from_)), some (cb_i (us)), some (cb_i (dg)), some (cb_i (N)), some (cb_i (nI i)), v7] [] (cb_aS n0, f) M 0 0 := by
      intro i hi hbit hLi v7
      have hL : mt_L those n fr = i :: mt_L those n (i + 1) := by rw [← hLi, mt_L_s hi, if_pos hbit]
      rw [hL] at h hlen
      rw [mt_dfs, hVh] at h
      obtain ⟨step, hstep⟩ : ∃ step : Nat → mt_S → mt_S, step = fun g s => if cb_bit us g = true then s else mt_dfs V those k (mt_L those n (i + 1)) (us ||| wm_b1 g) (10 * d + g + 1) (wm_upd bd i (hb g)) (wm_upd pl i (hp g)) (wm_upd hb g (bd i)) (wm_upd hp g (pl i)) s := ⟨_, rfl⟩
      rw [← hstep] at h
      have loop : ∀ g, g ≤ hh → ∀ (y : Int32) (M2 : cb_M), y = nI g → cb_fr fr_X M M2 → cb_gI M2 46 0 0 = cb_gI M 46 0 0 → mt_g M2 = mf step g (mt_g M) → cb_Gd cb_tb md_X10_tries2 X 116 [some (cb_r 46 0), some (cb_i (those)), some (cb_i (from_)), some (cb_i (us)), some (cb_i (dg)), some (cb_i (N)), some (cb_i (nI i)), some (cb_i (y))] [] (cb_aS n0, f) M2 0 0 := by
        refine cb_up (fun g => ∀ (y : Int32) (M2 : cb_M), y = nI g → cb_fr fr_X M M2 → cb_gI M2 46 0 0 = cb_gI M 46 0 0 → mt_g M2 = mf step g (mt_g M) → cb_Gd cb_tb md_X10_tries2 X 116 [some (cb_r 46 0), some (cb_i (those)), some (cb_i (from_)), some (cb_i (us)), some (cb_i (dg)), some (cb_i (N)), some (cb_i (nI i)), some (cb_i (y))] [] (cb_aS n0, f) M2 0 0) ?_ ?_
        · intro y M2 hy hF2 h02 hg2
          refine cb_run cb_tb_ok vd_X10_tries2 (cuts := [116]) 90 ?_
          exact And.intro (mi_v 2 (by decide)) (cb_lout hy ((hF2.1 49 0 2 rfl).trans hh1) (And.intro rfl (h M2 hF2 h02 hg2)))
        · intro g hg ih y M2 hy hF2 h02 hg2
          subst hy
          refine cb_run cb_tb_ok vd_X10_tries2 (cuts := [116, 140, 183]) 90 ?_
          refine And.intro (mi_v 2 (by decide)) (cb_lin rfl ((hF2.1 49 0 2 rfl).trans hh1) hg (by omega) ?_)
          show (¬ (us >>> (nI g &&& 31)) &&& 1 = 1 → _) ∧ (¬ ¬ (us >>> (nI g &&& 31)) &&& 1 = 1 → _)
          rw [mi_sbit _ (by omega)]
          have nx : ∀ M3, cb_fr fr_X M M3 → cb_gI M3 46 0 0 = cb_gI M 46 0 0 → mt_g M3 = step g (mt_g M2) → cb_Gd cb_tb md_X10_tries2 X 183 [some (cb_r 46 0), some (cb_i (those)), some (cb_i (from_)), some (cb_i (us)), some (cb_i (dg)), some (cb_i (N)), some (cb_i (nI i)), some (cb_i (nI g))] [] (cb_aS n0, f) M3 0 0 := by
            intro M3 hF3 h03 hg3
            refine cb_run cb_tb_ok vd_X10_tries2 (cuts := [116]) 90 ?_
            exact ih _ M3 (nI_1 g) hF3 h03 (by rw [hg3, hg2]; rfl)
          refine cb_ifn1 (fun q => ?_) (fun q => ?_)
          · have go : cb_Gd cb_tb md_X10_tries2 X 140 [some (cb_r 46 0), some (cb_i (those)), some (cb_i (from_)), some (cb_i (us)), some (cb_i (dg)), some (cb_i (N)), some (cb_i (nI i)), some (cb_i (nI g))] [] (cb_aS n0, f) M2 0 0 := by
              have hI2 := mi_I_X hF2 hI
              have hIs := md_swap_I hI2 hi hg
              have hJs : cb_fr fr_J M0 (md_swap M2 i g) := (hFJ.trans (hF2.mono fr_X_J)).trans (md_swap_J M2 i g)
              have ed : (10 : Int32) * dg + nI g + 1 = nI (10 * d + g + 1) := by
                rw [hdg, show (10 : Int32) = nI 10 from rfl, show nI 10 * nI d = nI (10 * d) from (Int32.ofNat_mul 10 d).symm, nI_add, nI_1]
              refine cb_run cb_tb_ok vd_X10_tries2 (cuts := [183]) 90 ?_
              refine And.intro (cb_on rfl) ⟨i, g, ⟨rfl, by omega, rfl, by omega⟩, And.intro (cb_on rfl) ?_⟩
              show sp_X10_tries 1 0 [.inl those, .inl (nI i + 1), .inl (us ||| (1 : Int32) <<< (nI g &&& 31)), .inl (10 * dg + nI g + 1), .inl N] (md_swap M2 i g) _
              rw [nI_1, ed]
              refine ⟨M0, n, hh, nb, k, wm_upd bd i (hb g), wm_upd pl i (hp g), wm_upd hb g (bd i), wm_upd hp g (pl i), i + 1, 10 * d + g + 1, ⟨hJs, hIs, fun a ha' => ?_, fun l hl => ?_, rfl, by omega, rfl, hN, hk, by simpa using hlen⟩, fun M3 hF3 h03 hg3 => And.intro (cb_on rfl) ⟨i, g, ⟨rfl, by omega, rfl, by omega⟩, nx (md_swap M3 i g) (hF2.trans (md_back hF3)) ?_ ?_⟩⟩
              · rw [(md_swap_c M2 i g a).1, (md_swap_c M2 i g a).2]
                unfold wm_upd
                by_cases e : a = i
                · rw [if_pos e, if_pos e, if_pos e, if_pos e, hF2.1 72 0 g rfl, hF2.1 73 0 g rfl]
                  exact hhk g hg
                · rw [if_neg e, if_neg e, if_neg e, if_neg e, hF2.1 64 0 a rfl, hF2.1 65 0 a rfl]
                  exact hbd a ha'
              · rw [(md_swap_h M2 i g l).1, (md_swap_h M2 i g l).2]
                unfold wm_upd
                by_cases e : l = g
                · rw [if_pos e, if_pos e, if_pos e, if_pos e, hF2.1 64 0 i rfl, hF2.1 65 0 i rfl]
                  exact hbd i hi
                · rw [if_neg e, if_neg e, if_neg e, if_neg e, hF2.1 72 0 l rfl, hF2.1 73 0 l rfl]
                  exact hhk l hl
              · exact (h03 : cb_gI M3 46 0 0 = _).trans h02
              · show mt_g M3 = _
                rw [hg3, hstep, ← hV]
                show _ = if cb_bit us g = true then _ else _
                rw [if_neg (by rw [q]; decide)]
                rfl
            exact go
          · refine nx M2 hF2 h02 ?_
            rw [hstep]
            show _ = if cb_bit us g = true then _ else _
            rw [if_pos q]
      refine cb_run cb_tb_ok vd_X10_tries2 (cuts := [116]) 90 ?_
      exact loop 0 (Nat.zero_le _) _ M rfl (cb_fr.refl M) rfl rfl
    have at29 : ∀ i, (i = n ∨ i < n ∧ cb_bit those i = true) → mt_L those n i = mt_L those n fr → ∀ v7 : Option cb_V, cb_Gd cb_tb md_X10_tries2 X 29 [some (cb_r 46 0), some (cb_i (those)), some (cb_i (from_)), some (cb_i (us)), some (cb_i (dg)), some (cb_i (N)), some (cb_i (nI i)), v7] [] (cb_aS n0, f) M 0 0 := by
      intro i hi hLi v7
      refine cb_run cb_tb_ok vd_X10_tries2 (cuts := [40, 113]) 90 ?_
      refine And.intro (mi_v 1 (by decide)) (cb_ifne (fun q => ?_) (fun q => ?_))
      · have q : ¬ nI i = cb_gI M 49 0 1 := q
        rw [hn1] at q
        rcases hi with rfl | ⟨hi, hb⟩
        · exact absurd rfl q
        · exact rec_ i hi hb hLi v7
      · have q : nI i = cb_gI M 49 0 1 := q
        rw [hn1] at q
        have hin : i = n := by
          rcases hi with hi | ⟨hi, hb⟩
          · exact hi
          · exact (nI_eq (by omega) (by omega)).mp q
        subst hin
        exact leaf (by rw [← hLi, mt_L_end]) v7
    have scan : ∀ g i, n - i = g → i ≤ n → mt_L those n i = mt_L those n fr → ∀ v7 : Option cb_V, cb_Gd cb_tb md_X10_tries2 X 3 [some (cb_r 46 0), some (cb_i (those)), some (cb_i (from_)), some (cb_i (us)), some (cb_i (dg)), some (cb_i (N)), some (cb_i (nI i)), v7] [] (cb_aS n0, f) M 0 0 := by
      intro g
      induction g with
      | zero =>
        intro i hg hi hLi v7
        have hin : i = n := by omega
        refine cb_run cb_tb_ok vd_X10_tries2 (cuts := [3, 29]) 90 ?_
        exact And.intro (mi_v 1 (by decide)) (cb_lout (n := n) (by rw [hin]) hn1 (at29 i (Or.inl hin) hLi v7))
      | succ g ih =>
        intro i hg hi hLi v7
        have hin : i < n := by omega
        refine cb_run cb_tb_ok vd_X10_tries2 (cuts := [3, 29]) 90 ?_
        refine And.intro (mi_v 1 (by decide)) (cb_lin rfl hn1 hin (by omega) ?_)
        show (¬ (those >>> (nI i &&& 31)) &&& 1 = 0 → _) ∧ (¬ ¬ (those >>> (nI i &&& 31)) &&& 1 = 0 → _)
        rw [mi_sbit _ (by omega)]
        refine cb_ifnz (fun q => at29 i (Or.inr ⟨hin, q⟩) hLi v7) (fun q => ?_)
        show cb_Gd cb_tb md_X10_tries2 X 3 [some (cb_r 46 0), some (cb_i (those)), some (cb_i (from_)), some (cb_i (us)), some (cb_i (dg)), some (cb_i (N)), some (cb_i (nI i + 1)), v7] [] (cb_aS n0, f) M 0 0
        rw [nI_1]
        refine ih (i + 1) (by omega) (by omega) ?_ v7
        rw [← hLi, mt_L_s hin, if_neg (by rw [q]; decide)]
    refine cb_run cb_tb_ok vd_X10_tries2 (cuts := [3]) 90 ?_
    show cb_Gd cb_tb md_X10_tries2 X 3 [some (cb_r 46 0), some (cb_i (those)), some (cb_i (from_)), some (cb_i (us)), some (cb_i (dg)), some (cb_i (N)), some (cb_i (from_)), none] [] (cb_aS n0, f) M 0 0
    have z := scan (n - fr) fr rfl hfn rfl none
    rw [← hfr] at z
    exact z

def pt_X10_tries3 : cb_PT := cb_m 46 5 (sp_X10_tries 3)
theorem rc_X10_tries3 : cb_rc cb_tb RX10 pt_X10_tries3 := cb_m_rc rfl rfl
def md_X10_tries3 : cb_D := (RX10, cX10_tries, 8, none, (0, 0, 9, 215), [
  (0, .iload_n 2, 1, 0, 2, 0, 0),
  (1, .istore 6, 2, 0, 6, 0, 0),
  (3, .iload 6, 2, 0, 6, 0, 0),
  (5, .aload_n 0, 1, 0, 0, 0, 0),
  (6, .getfield 20, 3, 0, 10, 10, 1338),
  (9, .iconst 1, 1, 1, 0, 0, 0),
  (10, .iaload, 1, 0, 0, 0, 0),
  (11, .if_icmp .ge 18, 3, 0, 29, 0, 0),
  (14, .iload_n 1, 1, 0, 1, 0, 0),
  (15, .iload 6, 2, 0, 6, 0, 0),
  (17, .ishr, 1, 0, 0, 0, 0),
  (18, .iconst 1, 1, 1, 0, 0, 0),
  (19, .iand, 1, 0, 0, 0, 0),
  (20, .ifCond .ne 9, 3, 0, 29, 0, 0),
  (23, .iinc 6 1, 3, 1, 6, 0, 0),
  (26, .goto (-23), 3, 0, 3, 0, 0),
  (29, .iload 6, 2, 0, 6, 0, 0),
  (31, .aload_n 0, 1, 0, 0, 0, 0),
  (32, .getfield 20, 3, 0, 10, 10, 1338),
  (35, .iconst 1, 1, 1, 0, 0, 0),
  (36, .iaload, 1, 0, 0, 0, 0),
  (37, .if_icmp .ne 76, 3, 0, 113, 0, 0),
  (40, .aload_n 0, 1, 0, 0, 0, 0),
  (41, .iload 5, 2, 0, 5, 0, 0),
  (43, .invokevirtual 276, 3, 0, 0, 0, 0),
  (46, .aload_n 0, 1, 0, 0, 0, 0),
  (47, .invokevirtual 286, 3, 0, 1, 0, 0),
  (50, .iload_n 1, 1, 0, 1, 0, 0),
  (51, .iand, 1, 0, 0, 0, 0),
  (52, .iload_n 1, 1, 0, 1, 0, 0),
  (53, .if_icmp .eq 4, 3, 0, 57, 0, 0),
  (56, .return_, 1, 0, 0, 0, 0),
  (57, .aload_n 0, 1, 0, 0, 0, 0),
  (58, .aload_n 0, 1, 0, 0, 0, 0),
  (59, .getfield 320, 3, 0, 10, 48, 1376),
  (62, .iconst (-1), 1, (-1), 0, 0, 0),
  (63, .if_icmp .ne 8, 3, 0, 71, 0, 0),
  (66, .iload 4, 2, 0, 4, 0, 0),
  (68, .goto 7, 3, 0, 75, 0, 0),
  (71, .aload_n 0, 1, 0, 0, 0, 0),
  (72, .getfield 320, 3, 0, 10, 48, 1376),
  (75, .putfield 320, 3, 0, 10, 48, 1376),
  (78, .aload_n 0, 1, 0, 0, 0, 0),
  (79, .getfield 323, 3, 0, 10, 49, 1377),
  (82, .iconst (-1), 1, (-1), 0, 0, 0),
  (83, .if_icmp .eq 15, 3, 0, 98, 0, 0),
  (86, .aload_n 0, 1, 0, 0, 0, 0),
  (87, .invokevirtual 326, 3, 0, 2, 0, 0),
  (90, .aload_n 0, 1, 0, 0, 0, 0),
  (91, .getfield 329, 3, 0, 10, 50, 1378),
  (94, .if_icmp .lt 4, 3, 0, 98, 0, 0),
  (97, .return_, 1, 0, 0, 0, 0),
  (98, .aload_n 0, 1, 0, 0, 0, 0),
  (99, .iload 4, 2, 0, 4, 0, 0),
  (101, .putfield 323, 3, 0, 10, 49, 1377),
  (104, .aload_n 0, 1, 0, 0, 0, 0),
  (105, .aload_n 0, 1, 0, 0, 0, 0),
  (106, .invokevirtual 326, 3, 0, 2, 0, 0),
  (109, .putfield 329, 3, 0, 10, 50, 1378),
  (112, .return_, 1, 0, 0, 0, 0),
  (113, .iconst 0, 1, 0, 0, 0, 0),
  (114, .istore 7, 2, 0, 7, 0, 0),
  (116, .iload 7, 2, 0, 7, 0, 0),
  (118, .aload_n 0, 1, 0, 0, 0, 0),
  (119, .getfield 20, 3, 0, 10, 10, 1338),
  (122, .iconst 2, 1, 2, 0, 0, 0),
  (123, .iaload, 1, 0, 0, 0, 0),
  (124, .if_icmp .ge 65, 3, 0, 189, 0, 0),
  (127, .iload_n 3, 1, 0, 3, 0, 0),
  (128, .iload 7, 2, 0, 7, 0, 0),
  (130, .ishr, 1, 0, 0, 0, 0),
  (131, .iconst 1, 1, 1, 0, 0, 0),
  (132, .iand, 1, 0, 0, 0, 0),
  (133, .iconst 1, 1, 1, 0, 0, 0),
  (134, .if_icmp .ne 6, 3, 0, 140, 0, 0),
  (137, .goto 46, 3, 0, 183, 0, 0),
  (140, .aload_n 0, 1, 0, 0, 0, 0),
  (141, .iload 6, 2, 0, 6, 0, 0),
  (143, .iload 7, 2, 0, 7, 0, 0),
  (145, .invokevirtual 301, 3, 0, 3, 0, 0),
  (148, .aload_n 0, 1, 0, 0, 0, 0),
  (149, .iload_n 1, 1, 0, 1, 0, 0),
  (150, .iload 6, 2, 0, 6, 0, 0),
  (152, .iconst 1, 1, 1, 0, 0, 0),
  (153, .iadd, 1, 0, 0, 0, 0),
  (154, .iload_n 3, 1, 0, 3, 0, 0),
  (155, .iconst 1, 1, 1, 0, 0, 0),
  (156, .iload 7, 2, 0, 7, 0, 0),
  (158, .ishl, 1, 0, 0, 0, 0),
  (159, .ior, 1, 0, 0, 0, 0),
  (160, .bipush 10, 2, 10, 0, 0, 0),
  (162, .iload 4, 2, 0, 4, 0, 0),
  (164, .imul, 1, 0, 0, 0, 0),
  (165, .iload 7, 2, 0, 7, 0, 0),
  (167, .iadd, 1, 0, 0, 0, 0),
  (168, .iconst 1, 1, 1, 0, 0, 0),
  (169, .iadd, 1, 0, 0, 0, 0),
  (170, .iload 5, 2, 0, 5, 0, 0),
  (172, .invokevirtual 332, 3, 0, 4, 0, 0),
  (175, .aload_n 0, 1, 0, 0, 0, 0),
  (176, .iload 6, 2, 0, 6, 0, 0),
  (178, .iload 7, 2, 0, 7, 0, 0),
  (180, .invokevirtual 301, 3, 0, 3, 0, 0),
  (183, .iinc 7 1, 3, 1, 7, 0, 0),
  (186, .goto (-70), 3, 0, 116, 0, 0),
  (189, .return_, 1, 0, 0, 0, 0)],
  [(0, 276, 2, 0, 0, pt_X10_goesOn), (0, 286, 1, 0, 0, pt_X10_rightNow), (0, 326, 1, 0, 0, pt_X10_mostWeight), (0, 301, 3, 0, 0, pt_X10_hangsOn), (0, 332, 6, 0, 0, pt_X10_tries2)], [])
set_option maxRecDepth 100000 in
theorem vd_X10_tries3 : md_X10_tries3.cd.all (cb_vE md_X10_tries3) = true := by decide +kernel
theorem wd_X10_tries3 : cb_wd yX10_tries md_X10_tries3 := ⟨cb_tw (i := 1767) (by decide +kernel), cb_tw (i := 11) (by decide +kernel), by decide, by decide⟩
theorem cs_X10_tries3 : ∀ X, cb_Bs md_X10_tries3 X → ∀ g ∈ md_X10_tries3.ga, cb_CS cb_tb md_X10_tries3 X g := fun X B => List.forall_mem_cons.mpr ⟨cb_csV B ok_X10_goesOn wd_X10_goesOn (cb_tw (i := 1646) (by decide +kernel)) (cb_tw (i := 1648) (by decide +kernel)) (cb_tp (i := 68) (by decide +kernel)) rc_X10_goesOn ⟨by decide, by decide⟩ (by decide +kernel), List.forall_mem_cons.mpr ⟨cb_csV B ok_X10_rightNow wd_X10_rightNow (cb_tw (i := 1674) (by decide +kernel)) (cb_tw (i := 1676) (by decide +kernel)) (cb_tp (i := 71) (by decide +kernel)) rc_X10_rightNow ⟨by decide, by decide⟩ (by decide +kernel), List.forall_mem_cons.mpr ⟨cb_csV B ok_X10_mostWeight wd_X10_mostWeight (cb_tw (i := 1768) (by decide +kernel)) (cb_tw (i := 1770) (by decide +kernel)) (cb_tp (i := 82) (by decide +kernel)) rc_X10_mostWeight ⟨by decide, by decide⟩ (by decide +kernel), List.forall_mem_cons.mpr ⟨cb_csV B ok_X10_hangsOn wd_X10_hangsOn (cb_tw (i := 1713) (by decide +kernel)) (cb_tw (i := 1715) (by decide +kernel)) (cb_tp (i := 76) (by decide +kernel)) rc_X10_hangsOn ⟨by decide, by decide⟩ (by decide +kernel), List.forall_mem_cons.mpr ⟨cb_csV B ok_X10_tries2 wd_X10_tries2 (cb_tw (i := 1764) (by decide +kernel)) (cb_tw (i := 1766) (by decide +kernel)) (cb_tp (i := 81) (by decide +kernel)) rc_X10_tries2 ⟨by decide, by decide⟩ (by decide +kernel), fun _ h => nomatch h⟩⟩⟩⟩⟩
theorem ok_X10_tries3 : cb_MOK cb_tb yX10_tries md_X10_tries3 pt_X10_tries3 := by
  refine cb_okm ⟨plainFor_of_name (by decide), rfl⟩ (by decide) cs_X10_tries3 (by decide) (fun X n0 f i r M hr ha h => ?_)
  have h0 := cb_a1 (T := 46) rfl ha
  subst h0
  match r, hr, h with
  | [.inl those, .inl from_, .inl us, .inl dg, .inl N], hr, h =>
    obtain ⟨M0, n, hh, nb, k, bd, pl, hb, hp, fr, d, ⟨hFJ, hI, hbd, hhk, hfr, hfn, hdg, hN, hk, hlen⟩, h⟩ := h
    obtain ⟨hG, ⟨hh1, hh6, hnb1, hnb4⟩, -, -, -, -, hu, -⟩ := id hI
    obtain ⟨hn1, hn8, -⟩ := id hG
    obtain ⟨V, hV⟩ : ∃ V, V = mv M0 n hh nb := ⟨_, rfl⟩
    have hVn : V.n = n := by rw [hV]; rfl
    have hVh : V.h = hh := by rw [hV]; rfl
    have hVnb : V.nb = nb := by rw [hV]; rfl
    rw [← hV] at h
    have leaf : mt_L those n fr = [] → ∀ v7 : Option cb_V, cb_Gd cb_tb md_X10_tries3 X 40 [some (cb_r 46 0), some (cb_i (those)), some (cb_i (from_)), some (cb_i (us)), some (cb_i (dg)), some (cb_i (N)), some (cb_i (nI n)), v7] [] (cb_aS n0, f) M 0 0 := by
      intro hL v7
      rw [hL, mt_dfs, ← hdg] at h
      have hwt : ∀ M1, cb_fr fr_X M M1 → wq_mw (cb_gI M1 64 0) (cb_gI M1 67 0) n nb = wq_mw bd V.wt V.n V.nb := by
        intro M1 hF1
        rw [hF1.fn 64 0 (fun _ => rfl), hF1.fn 67 0 (fun _ => rfl), hVn, hVnb, wq_mw_cong (fun i hi => (hbd i hi).1)]
        refine wq_mw_wt (fun i hi => ?_) nb
        rw [hFJ.1 67 0 i rfl, hV]
        exact (wn_tr_lt hi).symm
      obtain ⟨W, hW⟩ : ∃ W, W = wq_mw bd V.wt V.n V.nb := ⟨_, rfl⟩
      rw [← hW] at hwt h
      have hok : ∀ s : wm_S, s = vq_on (mv M n hh nb) k → (wq_r (cb_gI M 49 0 3) 255 s n &&& those = those ↔ mt_ok V those k bd pl = true) := by
        intro s hs
        have e1 := mv_ht (nb := nb) (hh := hh) hFJ hn8 hbd k
        have e2 := vq_tr_all (V := mv M n hh nb) hn8 k
        have e3 : s = vq_ht V bd pl k := by
          rw [hs, ← e2, hV]
          exact e1
        have e4 : V.w = cb_gI M 49 0 3 := by
          rw [hV]
          exact (hFJ.1 49 0 3 rfl).symm
        unfold mt_ok vq_rts
        rw [decide_eq_true_eq, mt_and, wq_r_255 hn8, e3, hVn, e4]
      have at98 : ∀ M2, cb_fr fr_X M M2 → cb_gI M2 46 0 0 = cb_gI M 46 0 0 → X.K (.inl none) (cb_aS n0, f) (cb_sI (cb_sI M2 46 0 49 dg) 46 0 50 W) → cb_Gd cb_tb md_X10_tries3 X 98 [some (cb_r 46 0), some (cb_i (those)), some (cb_i (from_)), some (cb_i (us)), some (cb_i (dg)), some (cb_i (N)), some (cb_i (nI n)), v7] [] (cb_aS n0, f) M2 0 0 := by
        intro M2 hF2 h02 hK
        refine cb_run cb_tb_ok vd_X10_tries3 (cuts := []) 90 ?_
        refine And.intro (cb_on rfl) ⟨n, nb, ⟨(hF2.1 49 0 1 rfl).trans hn1, hn8, (hF2.1 49 0 0 rfl).trans hnb1, hnb4⟩, And.intro rfl ?_⟩
        show X.K (.inl none) (cb_aS n0, f) (cb_sI (cb_sI M2 46 0 49 dg) 46 0 50 (wq_mw (cb_gI M2 64 0) (cb_gI M2 67 0) n nb))
        rw [hwt M2 hF2]
        exact hK
      have at78 : ∀ M2, cb_fr fr_X M M2 → cb_gI M2 46 0 0 = cb_gI M 46 0 0 → (∀ M', cb_fr fr_X M M' → cb_gI M' 46 0 0 = cb_gI M 46 0 0 → mt_g M' = (cb_gI M2 46 0 48, if cb_gI M2 46 0 49 = -1 ∨ W < cb_gI M2 46 0 50 then (dg, W) else (cb_gI M2 46 0 49, cb_gI M2 46 0 50)) → X.K (.inl none) (cb_aS n0, f) M') → cb_Gd cb_tb md_X10_tries3 X 78 [some (cb_r 46 0), some (cb_i (those)), some (cb_i (from_)), some (cb_i (us)), some (cb_i (dg)), some (cb_i (N)), some (cb_i (nI n)), v7] [] (cb_aS n0, f) M2 0 0 := by
        intro M2 hF2 h02 hK
        have yes : (cb_gI M2 46 0 49 = -1 ∨ W < cb_gI M2 46 0 50) → cb_Gd cb_tb md_X10_tries3 X 98 [some (cb_r 46 0), some (cb_i (those)), some (cb_i (from_)), some (cb_i (us)), some (cb_i (dg)), some (cb_i (N)), some (cb_i (nI n)), v7] [] (cb_aS n0, f) M2 0 0 := fun q => at98 M2 hF2 h02 (hK _ ((hF2.set _ rfl).set _ rfl) h02 (by rw [if_pos q]; rfl))
        refine cb_run cb_tb_ok vd_X10_tries3 (cuts := [98]) 90 ?_
        refine And.intro (fun q => yes (Or.inl q)) (fun q => And.intro (cb_on rfl) ⟨n, nb, ⟨(hF2.1 49 0 1 rfl).trans hn1, hn8, (hF2.1 49 0 0 rfl).trans hnb1, hnb4⟩, And.intro (fun q1 => yes (Or.inr ?_)) (fun q1 => And.intro rfl (hK M2 hF2 h02 ?_))⟩)
        · have q1 : wq_mw (cb_gI M2 64 0) (cb_gI M2 67 0) n nb < cb_gI M2 46 0 50 := q1
          rw [hwt M2 hF2] at q1
          exact q1
        · have q : ¬ cb_gI M2 46 0 49 = -1 := q
          have q1 : ¬ wq_mw (cb_gI M2 64 0) (cb_gI M2 67 0) n nb < cb_gI M2 46 0 50 := q1
          rw [hwt M2 hF2] at q1
          rw [if_neg (fun w => w.elim q q1)]
          rfl
      refine cb_run cb_tb_ok vd_X10_tries3 (cuts := [75, 78]) 90 ?_
      refine And.intro (cb_on rfl) (mg_on hI hN hk (fun M1 hF1 hP1 hs1 => ?_))
      have hX1 := hF1.mono fr_n_X
      have e41 : cb_gI M1 46 0 41 = 255 := (hF1.1 46 0 41 rfl).trans hu
      have e3 : cb_gI M1 49 0 3 = cb_gI M 49 0 3 := hF1.1 49 0 3 rfl
      have h01 : cb_gI M1 46 0 0 = cb_gI M 46 0 0 := hF1.1 46 0 0 rfl
      have g48 : cb_gI M1 46 0 48 = cb_gI M 46 0 48 := hF1.1 46 0 48 rfl
      have g49 : cb_gI M1 46 0 49 = cb_gI M 46 0 49 := hF1.1 46 0 49 rfl
      have g50 : cb_gI M1 46 0 50 = cb_gI M 46 0 50 := hF1.1 46 0 50 rfl
      have hok := hok _ hs1
      have fin : ∀ v : Int32, v = (if cb_gI M 46 0 48 = -1 then dg else cb_gI M 46 0 48) → mt_ok V those k bd pl = true → cb_Gd cb_tb md_X10_tries3 X 75 [some (cb_r 46 0), some (cb_i those), some (cb_i from_), some (cb_i us), some (cb_i dg), some (cb_i N), some (cb_i (nI n)), v7] [cb_i v, cb_r 46 0] (cb_aS n0, f) M1 0 0 := by
        intro v hv q
        have h : ∀ M', cb_fr fr_X M M' → cb_gI M' 46 0 0 = cb_gI M 46 0 0 → mt_g M' = mt_leaf dg (mt_ok V those k bd pl) W (mt_g M) → X.K (.inl none) (cb_aS n0, f) M' := h
        unfold mt_leaf at h
        rw [if_pos q] at h
        refine cb_run cb_tb_ok vd_X10_tries3 (cuts := [78]) 90 ?_
        refine at78 (cb_sI M1 46 0 48 v) (hX1.set _ rfl) h01 (fun M' hF' h0' hg => h M' hF' h0' ?_)
        rw [hg]
        show (v, if cb_gI M1 46 0 49 = -1 ∨ W < cb_gI M1 46 0 50 then (dg, W) else (cb_gI M1 46 0 49, cb_gI M1 46 0 50)) = _
        rw [hv, g49, g50]
        rfl
      refine And.intro (cb_on rfl) ⟨n, ⟨(hF1.1 49 0 1 rfl).trans hn1, hn8⟩, And.intro (fun q => ?_) (fun q => And.intro rfl (h M1 hX1 h01 ?_))⟩
      · have q : wq_r (cb_gI M1 49 0 3) (cb_gI M1 46 0 41) (mk_s M1 n) n &&& those = those := q
        rw [e3, e41] at q
        have q := hok.mp q
        refine cb_ifne (fun q1 => fin _ ?_ q) (fun q1 => fin _ ?_ q)
        · have q1 : ¬ cb_gI M1 46 0 48 = -1 := q1
          show cb_gI M1 46 0 48 = _
          rw [g48] at q1 ⊢
          rw [if_neg q1]
        · have q1 : cb_gI M1 46 0 48 = -1 := q1
          rw [g48] at q1
          rw [if_pos q1]
      · have q : ¬ wq_r (cb_gI M1 49 0 3) (cb_gI M1 46 0 41) (mk_s M1 n) n &&& those = those := q
        rw [e3, e41] at q
        unfold mt_leaf
        rw [if_neg (fun w => q (hok.mpr w))]
        unfold mt_g
        rw [g48, g49, g50]
    have rec_ : ∀ i, i < n → cb_bit those i = true → mt_L those n i = mt_L those n fr → ∀ v7 : Option cb_V, cb_Gd cb_tb md_X10_tries3 X 113 [some (cb_r 46 0), some (cb_i (those)), some (cb_i (from_)), some (cb_i (us)), some (cb_i (dg)), some (cb_i (N)), some (cb_i (nI i)), v7] [] (cb_aS n0, f) M 0 0 := by
      intro i hi hbit hLi v7
      have hL : mt_L those n fr = i :: mt_L those n (i + 1) := by rw [← hLi, mt_L_s hi, if_pos hbit]
      rw [hL] at h hlen
      rw [mt_dfs, hVh] at h
      obtain ⟨step, hstep⟩ : ∃ step : Nat → mt_S → mt_S, step = fun g s => if cb_bit us g = true then s else mt_dfs V those k (mt_L those n (i + 1)) (us ||| wm_b1 g) (10 * d + g + 1) (wm_upd bd i (hb g)) (wm_upd pl i (hp g)) (wm_upd hb g (bd i)) (wm_upd hp g (pl i)) s := ⟨_, rfl⟩
      rw [← hstep] at h
      have loop : ∀ g, g ≤ hh → ∀ (y : Int32) (M2 : cb_M), y = nI g → cb_fr fr_X M M2 → cb_gI M2 46 0 0 = cb_gI M 46 0 0 → mt_g M2 = mf step g (mt_g M) → cb_Gd cb_tb md_X10_tries3 X 116 [some (cb_r 46 0), some (cb_i (those)), some (cb_i (from_)), some (cb_i (us)), some (cb_i (dg)), some (cb_i (N)), some (cb_i (nI i)), some (cb_i (y))] [] (cb_aS n0, f) M2 0 0 := by
        refine cb_up (fun g => ∀ (y : Int32) (M2 : cb_M), y = nI g → cb_fr fr_X M M2 → cb_gI M2 46 0 0 = cb_gI M 46 0 0 → mt_g M2 = mf step g (mt_g M) → cb_Gd cb_tb md_X10_tries3 X 116 [some (cb_r 46 0), some (cb_i (those)), some (cb_i (from_)), some (cb_i (us)), some (cb_i (dg)), some (cb_i (N)), some (cb_i (nI i)), some (cb_i (y))] [] (cb_aS n0, f) M2 0 0) ?_ ?_
        · intro y M2 hy hF2 h02 hg2
          refine cb_run cb_tb_ok vd_X10_tries3 (cuts := [116]) 90 ?_
          exact And.intro (mi_v 2 (by decide)) (cb_lout hy ((hF2.1 49 0 2 rfl).trans hh1) (And.intro rfl (h M2 hF2 h02 hg2)))
        · intro g hg ih y M2 hy hF2 h02 hg2
          subst hy
          refine cb_run cb_tb_ok vd_X10_tries3 (cuts := [116, 140, 183]) 90 ?_
          refine And.intro (mi_v 2 (by decide)) (cb_lin rfl ((hF2.1 49 0 2 rfl).trans hh1) hg (by omega) ?_)
          show (¬ (us >>> (nI g &&& 31)) &&& 1 = 1 → _) ∧ (¬ ¬ (us >>> (nI g &&& 31)) &&& 1 = 1 → _)
          rw [mi_sbit _ (by omega)]
          have nx : ∀ M3, cb_fr fr_X M M3 → cb_gI M3 46 0 0 = cb_gI M 46 0 0 → mt_g M3 = step g (mt_g M2) → cb_Gd cb_tb md_X10_tries3 X 183 [some (cb_r 46 0), some (cb_i (those)), some (cb_i (from_)), some (cb_i (us)), some (cb_i (dg)), some (cb_i (N)), some (cb_i (nI i)), some (cb_i (nI g))] [] (cb_aS n0, f) M3 0 0 := by
            intro M3 hF3 h03 hg3
            refine cb_run cb_tb_ok vd_X10_tries3 (cuts := [116]) 90 ?_
            exact ih _ M3 (nI_1 g) hF3 h03 (by rw [hg3, hg2]; rfl)
          refine cb_ifn1 (fun q => ?_) (fun q => ?_)
          · have go : cb_Gd cb_tb md_X10_tries3 X 140 [some (cb_r 46 0), some (cb_i (those)), some (cb_i (from_)), some (cb_i (us)), some (cb_i (dg)), some (cb_i (N)), some (cb_i (nI i)), some (cb_i (nI g))] [] (cb_aS n0, f) M2 0 0 := by
              have hI2 := mi_I_X hF2 hI
              have hIs := md_swap_I hI2 hi hg
              have hJs : cb_fr fr_J M0 (md_swap M2 i g) := (hFJ.trans (hF2.mono fr_X_J)).trans (md_swap_J M2 i g)
              have ed : (10 : Int32) * dg + nI g + 1 = nI (10 * d + g + 1) := by
                rw [hdg, show (10 : Int32) = nI 10 from rfl, show nI 10 * nI d = nI (10 * d) from (Int32.ofNat_mul 10 d).symm, nI_add, nI_1]
              refine cb_run cb_tb_ok vd_X10_tries3 (cuts := [183]) 90 ?_
              refine And.intro (cb_on rfl) ⟨i, g, ⟨rfl, by omega, rfl, by omega⟩, And.intro (cb_on rfl) ?_⟩
              show sp_X10_tries 2 0 [.inl those, .inl (nI i + 1), .inl (us ||| (1 : Int32) <<< (nI g &&& 31)), .inl (10 * dg + nI g + 1), .inl N] (md_swap M2 i g) _
              rw [nI_1, ed]
              refine ⟨M0, n, hh, nb, k, wm_upd bd i (hb g), wm_upd pl i (hp g), wm_upd hb g (bd i), wm_upd hp g (pl i), i + 1, 10 * d + g + 1, ⟨hJs, hIs, fun a ha' => ?_, fun l hl => ?_, rfl, by omega, rfl, hN, hk, by simpa using hlen⟩, fun M3 hF3 h03 hg3 => And.intro (cb_on rfl) ⟨i, g, ⟨rfl, by omega, rfl, by omega⟩, nx (md_swap M3 i g) (hF2.trans (md_back hF3)) ?_ ?_⟩⟩
              · rw [(md_swap_c M2 i g a).1, (md_swap_c M2 i g a).2]
                unfold wm_upd
                by_cases e : a = i
                · rw [if_pos e, if_pos e, if_pos e, if_pos e, hF2.1 72 0 g rfl, hF2.1 73 0 g rfl]
                  exact hhk g hg
                · rw [if_neg e, if_neg e, if_neg e, if_neg e, hF2.1 64 0 a rfl, hF2.1 65 0 a rfl]
                  exact hbd a ha'
              · rw [(md_swap_h M2 i g l).1, (md_swap_h M2 i g l).2]
                unfold wm_upd
                by_cases e : l = g
                · rw [if_pos e, if_pos e, if_pos e, if_pos e, hF2.1 64 0 i rfl, hF2.1 65 0 i rfl]
                  exact hbd i hi
                · rw [if_neg e, if_neg e, if_neg e, if_neg e, hF2.1 72 0 l rfl, hF2.1 73 0 l rfl]
                  exact hhk l hl
              · exact (h03 : cb_gI M3 46 0 0 = _).trans h02
              · show mt_g M3 = _
                rw [hg3, hstep, ← hV]
                show _ = if cb_bit us g = true then _ else _
                rw [if_neg (by rw [q]; decide)]
                rfl
            exact go
          · refine nx M2 hF2 h02 ?_
            rw [hstep]
            show _ = if cb_bit us g = true then _ else _
            rw [if_pos q]
      refine cb_run cb_tb_ok vd_X10_tries3 (cuts := [116]) 90 ?_
      exact loop 0 (Nat.zero_le _) _ M rfl (cb_fr.refl M) rfl rfl
    have at29 : ∀ i, (i = n ∨ i < n ∧ cb_bit those i = true) → mt_L those n i = mt_L those n fr → ∀ v7 : Option cb_V, cb_Gd cb_tb md_X10_tries3 X 29 [some (cb_r 46 0), some (cb_i (those)), some (cb_i (from_)), some (cb_i (us)), some (cb_i (dg)), some (cb_i (N)), some (cb_i (nI i)), v7] [] (cb_aS n0, f) M 0 0 := by
      intro i hi hLi v7
      refine cb_run cb_tb_ok vd_X10_tries3 (cuts := [40, 113]) 90 ?_
      refine And.intro (mi_v 1 (by decide)) (cb_ifne (fun q => ?_) (fun q => ?_))
      · have q : ¬ nI i = cb_gI M 49 0 1 := q
        rw [hn1] at q
        rcases hi with rfl | ⟨hi, hb⟩
        · exact absurd rfl q
        · exact rec_ i hi hb hLi v7
      · have q : nI i = cb_gI M 49 0 1 := q
        rw [hn1] at q
        have hin : i = n := by
          rcases hi with hi | ⟨hi, hb⟩
          · exact hi
          · exact (nI_eq (by omega) (by omega)).mp q
        subst hin
        exact leaf (by rw [← hLi, mt_L_end]) v7
    have scan : ∀ g i, n - i = g → i ≤ n → mt_L those n i = mt_L those n fr → ∀ v7 : Option cb_V, cb_Gd cb_tb md_X10_tries3 X 3 [some (cb_r 46 0), some (cb_i (those)), some (cb_i (from_)), some (cb_i (us)), some (cb_i (dg)), some (cb_i (N)), some (cb_i (nI i)), v7] [] (cb_aS n0, f) M 0 0 := by
      intro g
      induction g with
      | zero =>
        intro i hg hi hLi v7
        have hin : i = n := by omega
        refine cb_run cb_tb_ok vd_X10_tries3 (cuts := [3, 29]) 90 ?_
        exact And.intro (mi_v 1 (by decide)) (cb_lout (n := n) (by rw [hin]) hn1 (at29 i (Or.inl hin) hLi v7))
      | succ g ih =>
        intro i hg hi hLi v7
        have hin : i < n := by omega
        refine cb_run cb_tb_ok vd_X10_tries3 (cuts := [3, 29]) 90 ?_
        refine And.intro (mi_v 1 (by decide)) (cb_lin rfl hn1 hin (by omega) ?_)
        show (¬ (those >>> (nI i &&& 31)) &&& 1 = 0 → _) ∧ (¬ ¬ (those >>> (nI i &&& 31)) &&& 1 = 0 → _)
        rw [mi_sbit _ (by omega)]
        refine cb_ifnz (fun q => at29 i (Or.inr ⟨hin, q⟩) hLi v7) (fun q => ?_)
        show cb_Gd cb_tb md_X10_tries3 X 3 [some (cb_r 46 0), some (cb_i (those)), some (cb_i (from_)), some (cb_i (us)), some (cb_i (dg)), some (cb_i (N)), some (cb_i (nI i + 1)), v7] [] (cb_aS n0, f) M 0 0
        rw [nI_1]
        refine ih (i + 1) (by omega) (by omega) ?_ v7
        rw [← hLi, mt_L_s hin, if_neg (by rw [q]; decide)]
    refine cb_run cb_tb_ok vd_X10_tries3 (cuts := [3]) 90 ?_
    show cb_Gd cb_tb md_X10_tries3 X 3 [some (cb_r 46 0), some (cb_i (those)), some (cb_i (from_)), some (cb_i (us)), some (cb_i (dg)), some (cb_i (N)), some (cb_i (from_)), none] [] (cb_aS n0, f) M 0 0
    have z := scan (n - fr) fr rfl hfn rfl none
    rw [← hfr] at z
    exact z

def pt_X10_tries4 : cb_PT := cb_m 46 5 (sp_X10_tries 4)
theorem rc_X10_tries4 : cb_rc cb_tb RX10 pt_X10_tries4 := cb_m_rc rfl rfl
def md_X10_tries4 : cb_D := (RX10, cX10_tries, 8, none, (0, 0, 10, 242), [
  (0, .iload_n 2, 1, 0, 2, 0, 0),
  (1, .istore 6, 2, 0, 6, 0, 0),
  (3, .iload 6, 2, 0, 6, 0, 0),
  (5, .aload_n 0, 1, 0, 0, 0, 0),
  (6, .getfield 20, 3, 0, 10, 10, 1338),
  (9, .iconst 1, 1, 1, 0, 0, 0),
  (10, .iaload, 1, 0, 0, 0, 0),
  (11, .if_icmp .ge 18, 3, 0, 29, 0, 0),
  (14, .iload_n 1, 1, 0, 1, 0, 0),
  (15, .iload 6, 2, 0, 6, 0, 0),
  (17, .ishr, 1, 0, 0, 0, 0),
  (18, .iconst 1, 1, 1, 0, 0, 0),
  (19, .iand, 1, 0, 0, 0, 0),
  (20, .ifCond .ne 9, 3, 0, 29, 0, 0),
  (23, .iinc 6 1, 3, 1, 6, 0, 0),
  (26, .goto (-23), 3, 0, 3, 0, 0),
  (29, .iload 6, 2, 0, 6, 0, 0),
  (31, .aload_n 0, 1, 0, 0, 0, 0),
  (32, .getfield 20, 3, 0, 10, 10, 1338),
  (35, .iconst 1, 1, 1, 0, 0, 0),
  (36, .iaload, 1, 0, 0, 0, 0),
  (37, .if_icmp .ne 76, 3, 0, 113, 0, 0),
  (40, .aload_n 0, 1, 0, 0, 0, 0),
  (41, .iload 5, 2, 0, 5, 0, 0),
  (43, .invokevirtual 276, 3, 0, 0, 0, 0),
  (46, .aload_n 0, 1, 0, 0, 0, 0),
  (47, .invokevirtual 286, 3, 0, 1, 0, 0),
  (50, .iload_n 1, 1, 0, 1, 0, 0),
  (51, .iand, 1, 0, 0, 0, 0),
  (52, .iload_n 1, 1, 0, 1, 0, 0),
  (53, .if_icmp .eq 4, 3, 0, 57, 0, 0),
  (56, .return_, 1, 0, 0, 0, 0),
  (57, .aload_n 0, 1, 0, 0, 0, 0),
  (58, .aload_n 0, 1, 0, 0, 0, 0),
  (59, .getfield 320, 3, 0, 10, 48, 1376),
  (62, .iconst (-1), 1, (-1), 0, 0, 0),
  (63, .if_icmp .ne 8, 3, 0, 71, 0, 0),
  (66, .iload 4, 2, 0, 4, 0, 0),
  (68, .goto 7, 3, 0, 75, 0, 0),
  (71, .aload_n 0, 1, 0, 0, 0, 0),
  (72, .getfield 320, 3, 0, 10, 48, 1376),
  (75, .putfield 320, 3, 0, 10, 48, 1376),
  (78, .aload_n 0, 1, 0, 0, 0, 0),
  (79, .getfield 323, 3, 0, 10, 49, 1377),
  (82, .iconst (-1), 1, (-1), 0, 0, 0),
  (83, .if_icmp .eq 15, 3, 0, 98, 0, 0),
  (86, .aload_n 0, 1, 0, 0, 0, 0),
  (87, .invokevirtual 326, 3, 0, 2, 0, 0),
  (90, .aload_n 0, 1, 0, 0, 0, 0),
  (91, .getfield 329, 3, 0, 10, 50, 1378),
  (94, .if_icmp .lt 4, 3, 0, 98, 0, 0),
  (97, .return_, 1, 0, 0, 0, 0),
  (98, .aload_n 0, 1, 0, 0, 0, 0),
  (99, .iload 4, 2, 0, 4, 0, 0),
  (101, .putfield 323, 3, 0, 10, 49, 1377),
  (104, .aload_n 0, 1, 0, 0, 0, 0),
  (105, .aload_n 0, 1, 0, 0, 0, 0),
  (106, .invokevirtual 326, 3, 0, 2, 0, 0),
  (109, .putfield 329, 3, 0, 10, 50, 1378),
  (112, .return_, 1, 0, 0, 0, 0),
  (113, .iconst 0, 1, 0, 0, 0, 0),
  (114, .istore 7, 2, 0, 7, 0, 0),
  (116, .iload 7, 2, 0, 7, 0, 0),
  (118, .aload_n 0, 1, 0, 0, 0, 0),
  (119, .getfield 20, 3, 0, 10, 10, 1338),
  (122, .iconst 2, 1, 2, 0, 0, 0),
  (123, .iaload, 1, 0, 0, 0, 0),
  (124, .if_icmp .ge 65, 3, 0, 189, 0, 0),
  (127, .iload_n 3, 1, 0, 3, 0, 0),
  (128, .iload 7, 2, 0, 7, 0, 0),
  (130, .ishr, 1, 0, 0, 0, 0),
  (131, .iconst 1, 1, 1, 0, 0, 0),
  (132, .iand, 1, 0, 0, 0, 0),
  (133, .iconst 1, 1, 1, 0, 0, 0),
  (134, .if_icmp .ne 6, 3, 0, 140, 0, 0),
  (137, .goto 46, 3, 0, 183, 0, 0),
  (140, .aload_n 0, 1, 0, 0, 0, 0),
  (141, .iload 6, 2, 0, 6, 0, 0),
  (143, .iload 7, 2, 0, 7, 0, 0),
  (145, .invokevirtual 301, 3, 0, 3, 0, 0),
  (148, .aload_n 0, 1, 0, 0, 0, 0),
  (149, .iload_n 1, 1, 0, 1, 0, 0),
  (150, .iload 6, 2, 0, 6, 0, 0),
  (152, .iconst 1, 1, 1, 0, 0, 0),
  (153, .iadd, 1, 0, 0, 0, 0),
  (154, .iload_n 3, 1, 0, 3, 0, 0),
  (155, .iconst 1, 1, 1, 0, 0, 0),
  (156, .iload 7, 2, 0, 7, 0, 0),
  (158, .ishl, 1, 0, 0, 0, 0),
  (159, .ior, 1, 0, 0, 0, 0),
  (160, .bipush 10, 2, 10, 0, 0, 0),
  (162, .iload 4, 2, 0, 4, 0, 0),
  (164, .imul, 1, 0, 0, 0, 0),
  (165, .iload 7, 2, 0, 7, 0, 0),
  (167, .iadd, 1, 0, 0, 0, 0),
  (168, .iconst 1, 1, 1, 0, 0, 0),
  (169, .iadd, 1, 0, 0, 0, 0),
  (170, .iload 5, 2, 0, 5, 0, 0),
  (172, .invokevirtual 332, 3, 0, 4, 0, 0),
  (175, .aload_n 0, 1, 0, 0, 0, 0),
  (176, .iload 6, 2, 0, 6, 0, 0),
  (178, .iload 7, 2, 0, 7, 0, 0),
  (180, .invokevirtual 301, 3, 0, 3, 0, 0),
  (183, .iinc 7 1, 3, 1, 7, 0, 0),
  (186, .goto (-70), 3, 0, 116, 0, 0),
  (189, .return_, 1, 0, 0, 0, 0)],
  [(0, 276, 2, 0, 0, pt_X10_goesOn), (0, 286, 1, 0, 0, pt_X10_rightNow), (0, 326, 1, 0, 0, pt_X10_mostWeight), (0, 301, 3, 0, 0, pt_X10_hangsOn), (0, 332, 6, 0, 0, pt_X10_tries3)], [])
set_option maxRecDepth 100000 in
theorem vd_X10_tries4 : md_X10_tries4.cd.all (cb_vE md_X10_tries4) = true := by decide +kernel
theorem wd_X10_tries4 : cb_wd yX10_tries md_X10_tries4 := ⟨cb_tw (i := 1767) (by decide +kernel), cb_tw (i := 11) (by decide +kernel), by decide, by decide⟩
theorem cs_X10_tries4 : ∀ X, cb_Bs md_X10_tries4 X → ∀ g ∈ md_X10_tries4.ga, cb_CS cb_tb md_X10_tries4 X g := fun X B => List.forall_mem_cons.mpr ⟨cb_csV B ok_X10_goesOn wd_X10_goesOn (cb_tw (i := 1646) (by decide +kernel)) (cb_tw (i := 1648) (by decide +kernel)) (cb_tp (i := 68) (by decide +kernel)) rc_X10_goesOn ⟨by decide, by decide⟩ (by decide +kernel), List.forall_mem_cons.mpr ⟨cb_csV B ok_X10_rightNow wd_X10_rightNow (cb_tw (i := 1674) (by decide +kernel)) (cb_tw (i := 1676) (by decide +kernel)) (cb_tp (i := 71) (by decide +kernel)) rc_X10_rightNow ⟨by decide, by decide⟩ (by decide +kernel), List.forall_mem_cons.mpr ⟨cb_csV B ok_X10_mostWeight wd_X10_mostWeight (cb_tw (i := 1768) (by decide +kernel)) (cb_tw (i := 1770) (by decide +kernel)) (cb_tp (i := 82) (by decide +kernel)) rc_X10_mostWeight ⟨by decide, by decide⟩ (by decide +kernel), List.forall_mem_cons.mpr ⟨cb_csV B ok_X10_hangsOn wd_X10_hangsOn (cb_tw (i := 1713) (by decide +kernel)) (cb_tw (i := 1715) (by decide +kernel)) (cb_tp (i := 76) (by decide +kernel)) rc_X10_hangsOn ⟨by decide, by decide⟩ (by decide +kernel), List.forall_mem_cons.mpr ⟨cb_csV B ok_X10_tries3 wd_X10_tries3 (cb_tw (i := 1764) (by decide +kernel)) (cb_tw (i := 1766) (by decide +kernel)) (cb_tp (i := 81) (by decide +kernel)) rc_X10_tries3 ⟨by decide, by decide⟩ (by decide +kernel), fun _ h => nomatch h⟩⟩⟩⟩⟩
theorem ok_X10_tries4 : cb_MOK cb_tb yX10_tries md_X10_tries4 pt_X10_tries4 := by
  refine cb_okm ⟨plainFor_of_name (by decide), rfl⟩ (by decide) cs_X10_tries4 (by decide) (fun X n0 f i r M hr ha h => ?_)
  have h0 := cb_a1 (T := 46) rfl ha
  subst h0
  match r, hr, h with
  | [.inl those, .inl from_, .inl us, .inl dg, .inl N], hr, h =>
    obtain ⟨M0, n, hh, nb, k, bd, pl, hb, hp, fr, d, ⟨hFJ, hI, hbd, hhk, hfr, hfn, hdg, hN, hk, hlen⟩, h⟩ := h
    obtain ⟨hG, ⟨hh1, hh6, hnb1, hnb4⟩, -, -, -, -, hu, -⟩ := id hI
    obtain ⟨hn1, hn8, -⟩ := id hG
    obtain ⟨V, hV⟩ : ∃ V, V = mv M0 n hh nb := ⟨_, rfl⟩
    have hVn : V.n = n := by rw [hV]; rfl
    have hVh : V.h = hh := by rw [hV]; rfl
    have hVnb : V.nb = nb := by rw [hV]; rfl
    rw [← hV] at h
    have leaf : mt_L those n fr = [] → ∀ v7 : Option cb_V, cb_Gd cb_tb md_X10_tries4 X 40 [some (cb_r 46 0), some (cb_i (those)), some (cb_i (from_)), some (cb_i (us)), some (cb_i (dg)), some (cb_i (N)), some (cb_i (nI n)), v7] [] (cb_aS n0, f) M 0 0 := by
      intro hL v7
      rw [hL, mt_dfs, ← hdg] at h
      have hwt : ∀ M1, cb_fr fr_X M M1 → wq_mw (cb_gI M1 64 0) (cb_gI M1 67 0) n nb = wq_mw bd V.wt V.n V.nb := by
        intro M1 hF1
        rw [hF1.fn 64 0 (fun _ => rfl), hF1.fn 67 0 (fun _ => rfl), hVn, hVnb, wq_mw_cong (fun i hi => (hbd i hi).1)]
        refine wq_mw_wt (fun i hi => ?_) nb
        rw [hFJ.1 67 0 i rfl, hV]
        exact (wn_tr_lt hi).symm
      obtain ⟨W, hW⟩ : ∃ W, W = wq_mw bd V.wt V.n V.nb := ⟨_, rfl⟩
      rw [← hW] at hwt h
      have hok : ∀ s : wm_S, s = vq_on (mv M n hh nb) k → (wq_r (cb_gI M 49 0 3) 255 s n &&& those = those ↔ mt_ok V those k bd pl = true) := by
        intro s hs
        have e1 := mv_ht (nb := nb) (hh := hh) hFJ hn8 hbd k
        have e2 := vq_tr_all (V := mv M n hh nb) hn8 k
        have e3 : s = vq_ht V bd pl k := by
          rw [hs, ← e2, hV]
          exact e1
        have e4 : V.w = cb_gI M 49 0 3 := by
          rw [hV]
          exact (hFJ.1 49 0 3 rfl).symm
        unfold mt_ok vq_rts
        rw [decide_eq_true_eq, mt_and, wq_r_255 hn8, e3, hVn, e4]
      have at98 : ∀ M2, cb_fr fr_X M M2 → cb_gI M2 46 0 0 = cb_gI M 46 0 0 → X.K (.inl none) (cb_aS n0, f) (cb_sI (cb_sI M2 46 0 49 dg) 46 0 50 W) → cb_Gd cb_tb md_X10_tries4 X 98 [some (cb_r 46 0), some (cb_i (those)), some (cb_i (from_)), some (cb_i (us)), some (cb_i (dg)), some (cb_i (N)), some (cb_i (nI n)), v7] [] (cb_aS n0, f) M2 0 0 := by
        intro M2 hF2 h02 hK
        refine cb_run cb_tb_ok vd_X10_tries4 (cuts := []) 90 ?_
        refine And.intro (cb_on rfl) ⟨n, nb, ⟨(hF2.1 49 0 1 rfl).trans hn1, hn8, (hF2.1 49 0 0 rfl).trans hnb1, hnb4⟩, And.intro rfl ?_⟩
        show X.K (.inl none) (cb_aS n0, f) (cb_sI (cb_sI M2 46 0 49 dg) 46 0 50 (wq_mw (cb_gI M2 64 0) (cb_gI M2 67 0) n nb))
        rw [hwt M2 hF2]
        exact hK
      have at78 : ∀ M2, cb_fr fr_X M M2 → cb_gI M2 46 0 0 = cb_gI M 46 0 0 → (∀ M', cb_fr fr_X M M' → cb_gI M' 46 0 0 = cb_gI M 46 0 0 → mt_g M' = (cb_gI M2 46 0 48, if cb_gI M2 46 0 49 = -1 ∨ W < cb_gI M2 46 0 50 then (dg, W) else (cb_gI M2 46 0 49, cb_gI M2 46 0 50)) → X.K (.inl none) (cb_aS n0, f) M') → cb_Gd cb_tb md_X10_tries4 X 78 [some (cb_r 46 0), some (cb_i (those)), some (cb_i (from_)), some (cb_i (us)), some (cb_i (dg)), some (cb_i (N)), some (cb_i (nI n)), v7] [] (cb_aS n0, f) M2 0 0 := by
        intro M2 hF2 h02 hK
        have yes : (cb_gI M2 46 0 49 = -1 ∨ W < cb_gI M2 46 0 50) → cb_Gd cb_tb md_X10_tries4 X 98 [some (cb_r 46 0), some (cb_i (those)), some (cb_i (from_)), some (cb_i (us)), some (cb_i (dg)), some (cb_i (N)), some (cb_i (nI n)), v7] [] (cb_aS n0, f) M2 0 0 := fun q => at98 M2 hF2 h02 (hK _ ((hF2.set _ rfl).set _ rfl) h02 (by rw [if_pos q]; rfl))
        refine cb_run cb_tb_ok vd_X10_tries4 (cuts := [98]) 90 ?_
        refine And.intro (fun q => yes (Or.inl q)) (fun q => And.intro (cb_on rfl) ⟨n, nb, ⟨(hF2.1 49 0 1 rfl).trans hn1, hn8, (hF2.1 49 0 0 rfl).trans hnb1, hnb4⟩, And.intro (fun q1 => yes (Or.inr ?_)) (fun q1 => And.intro rfl (hK M2 hF2 h02 ?_))⟩)
        · have q1 : wq_mw (cb_gI M2 64 0) (cb_gI M2 67 0) n nb < cb_gI M2 46 0 50 := q1
          rw [hwt M2 hF2] at q1
          exact q1
        · have q : ¬ cb_gI M2 46 0 49 = -1 := q
          have q1 : ¬ wq_mw (cb_gI M2 64 0) (cb_gI M2 67 0) n nb < cb_gI M2 46 0 50 := q1
          rw [hwt M2 hF2] at q1
          rw [if_neg (fun w => w.elim q q1)]
          rfl
      refine cb_run cb_tb_ok vd_X10_tries4 (cuts := [75, 78]) 90 ?_
      refine And.intro (cb_on rfl) (mg_on hI hN hk (fun M1 hF1 hP1 hs1 => ?_))
      have hX1 := hF1.mono fr_n_X
      have e41 : cb_gI M1 46 0 41 = 255 := (hF1.1 46 0 41 rfl).trans hu
      have e3 : cb_gI M1 49 0 3 = cb_gI M 49 0 3 := hF1.1 49 0 3 rfl
      have h01 : cb_gI M1 46 0 0 = cb_gI M 46 0 0 := hF1.1 46 0 0 rfl
      have g48 : cb_gI M1 46 0 48 = cb_gI M 46 0 48 := hF1.1 46 0 48 rfl
      have g49 : cb_gI M1 46 0 49 = cb_gI M 46 0 49 := hF1.1 46 0 49 rfl
      have g50 : cb_gI M1 46 0 50 = cb_gI M 46 0 50 := hF1.1 46 0 50 rfl
      have hok := hok _ hs1
      have fin : ∀ v : Int32, v = (if cb_gI M 46 0 48 = -1 then dg else cb_gI M 46 0 48) → mt_ok V those k bd pl = true → cb_Gd cb_tb md_X10_tries4 X 75 [some (cb_r 46 0), some (cb_i those), some (cb_i from_), some (cb_i us), some (cb_i dg), some (cb_i N), some (cb_i (nI n)), v7] [cb_i v, cb_r 46 0] (cb_aS n0, f) M1 0 0 := by
        intro v hv q
        have h : ∀ M', cb_fr fr_X M M' → cb_gI M' 46 0 0 = cb_gI M 46 0 0 → mt_g M' = mt_leaf dg (mt_ok V those k bd pl) W (mt_g M) → X.K (.inl none) (cb_aS n0, f) M' := h
        unfold mt_leaf at h
        rw [if_pos q] at h
        refine cb_run cb_tb_ok vd_X10_tries4 (cuts := [78]) 90 ?_
        refine at78 (cb_sI M1 46 0 48 v) (hX1.set _ rfl) h01 (fun M' hF' h0' hg => h M' hF' h0' ?_)
        rw [hg]
        show (v, if cb_gI M1 46 0 49 = -1 ∨ W < cb_gI M1 46 0 50 then (dg, W) else (cb_gI M1 46 0 49, cb_gI M1 46 0 50)) = _
        rw [hv, g49, g50]
        rfl
      refine And.intro (cb_on rfl) ⟨n, ⟨(hF1.1 49 0 1 rfl).trans hn1, hn8⟩, And.intro (fun q => ?_) (fun q => And.intro rfl (h M1 hX1 h01 ?_))⟩
      · have q : wq_r (cb_gI M1 49 0 3) (cb_gI M1 46 0 41) (mk_s M1 n) n &&& those = those := q
        rw [e3, e41] at q
        have q := hok.mp q
        refine cb_ifne (fun q1 => fin _ ?_ q) (fun q1 => fin _ ?_ q)
        · have q1 : ¬ cb_gI M1 46 0 48 = -1 := q1
          show cb_gI M1 46 0 48 = _
          rw [g48] at q1 ⊢
          rw [if_neg q1]
        · have q1 : cb_gI M1 46 0 48 = -1 := q1
          rw [g48] at q1
          rw [if_pos q1]
      · have q : ¬ wq_r (cb_gI M1 49 0 3) (cb_gI M1 46 0 41) (mk_s M1 n) n &&& those = those := q
        rw [e3, e41] at q
        unfold mt_leaf
        rw [if_neg (fun w => q (hok.mpr w))]
        unfold mt_g
        rw [g48, g49, g50]
    have rec_ : ∀ i, i < n → cb_bit those i = true → mt_L those n i = mt_L those n fr → ∀ v7 : Option cb_V, cb_Gd cb_tb md_X10_tries4 X 113 [some (cb_r 46 0), some (cb_i (those)), some (cb_i (from_)), some (cb_i (us)), some (cb_i (dg)), some (cb_i (N)), some (cb_i (nI i)), v7] [] (cb_aS n0, f) M 0 0 := by
      intro i hi hbit hLi v7
      have hL : mt_L those n fr = i :: mt_L those n (i + 1) := by rw [← hLi, mt_L_s hi, if_pos hbit]
      rw [hL] at h hlen
      rw [mt_dfs, hVh] at h
      obtain ⟨step, hstep⟩ : ∃ step : Nat → mt_S → mt_S, step = fun g s => if cb_bit us g = true then s else mt_dfs V those k (mt_L those n (i + 1)) (us ||| wm_b1 g) (10 * d + g + 1) (wm_upd bd i (hb g)) (wm_upd pl i (hp g)) (wm_upd hb g (bd i)) (wm_upd hp g (pl i)) s := ⟨_, rfl⟩
      rw [← hstep] at h
      have loop : ∀ g, g ≤ hh → ∀ (y : Int32) (M2 : cb_M), y = nI g → cb_fr fr_X M M2 → cb_gI M2 46 0 0 = cb_gI M 46 0 0 → mt_g M2 = mf step g (mt_g M) → cb_Gd cb_tb md_X10_tries4 X 116 [some (cb_r 46 0), some (cb_i (those)), some (cb_i (from_)), some (cb_i (us)), some (cb_i (dg)), some (cb_i (N)), some (cb_i (nI i)), some (cb_i (y))] [] (cb_aS n0, f) M2 0 0 := by
        refine cb_up (fun g => ∀ (y : Int32) (M2 : cb_M), y = nI g → cb_fr fr_X M M2 → cb_gI M2 46 0 0 = cb_gI M 46 0 0 → mt_g M2 = mf step g (mt_g M) → cb_Gd cb_tb md_X10_tries4 X 116 [some (cb_r 46 0), some (cb_i (those)), some (cb_i (from_)), some (cb_i (us)), some (cb_i (dg)), some (cb_i (N)), some (cb_i (nI i)), some (cb_i (y))] [] (cb_aS n0, f) M2 0 0) ?_ ?_
        · intro y M2 hy hF2 h02 hg2
          refine cb_run cb_tb_ok vd_X10_tries4 (cuts := [116]) 90 ?_
          exact And.intro (mi_v 2 (by decide)) (cb_lout hy ((hF2.1 49 0 2 rfl).trans hh1) (And.intro rfl (h M2 hF2 h02 hg2)))
        · intro g hg ih y M2 hy hF2 h02 hg2
          subst hy
          refine cb_run cb_tb_ok vd_X10_tries4 (cuts := [116, 140, 183]) 90 ?_
          refine And.intro (mi_v 2 (by decide)) (cb_lin rfl ((hF2.1 49 0 2 rfl).trans hh1) hg (by omega) ?_)
          show (¬ (us >>> (nI g &&& 31)) &&& 1 = 1 → _) ∧ (¬ ¬ (us >>> (nI g &&& 31)) &&& 1 = 1 → _)
          rw [mi_sbit _ (by omega)]
          have nx : ∀ M3, cb_fr fr_X M M3 → cb_gI M3 46 0 0 = cb_gI M 46 0 0 → mt_g M3 = step g (mt_g M2) → cb_Gd cb_tb md_X10_tries4 X 183 [some (cb_r 46 0), some (cb_i (those)), some (cb_i (from_)), some (cb_i (us)), some (cb_i (dg)), some (cb_i (N)), some (cb_i (nI i)), some (cb_i (nI g))] [] (cb_aS n0, f) M3 0 0 := by
            intro M3 hF3 h03 hg3
            refine cb_run cb_tb_ok vd_X10_tries4 (cuts := [116]) 90 ?_
            exact ih _ M3 (nI_1 g) hF3 h03 (by rw [hg3, hg2]; rfl)
          refine cb_ifn1 (fun q => ?_) (fun q => ?_)
          · have go : cb_Gd cb_tb md_X10_tries4 X 140 [some (cb_r 46 0), some (cb_i (those)), some (cb_i (from_)), some (cb_i (us)), some (cb_i (dg)), some (cb_i (N)), some (cb_i (nI i)), some (cb_i (nI g))] [] (cb_aS n0, f) M2 0 0 := by
              have hI2 := mi_I_X hF2 hI
              have hIs := md_swap_I hI2 hi hg
              have hJs : cb_fr fr_J M0 (md_swap M2 i g) := (hFJ.trans (hF2.mono fr_X_J)).trans (md_swap_J M2 i g)
              have ed : (10 : Int32) * dg + nI g + 1 = nI (10 * d + g + 1) := by
                rw [hdg, show (10 : Int32) = nI 10 from rfl, show nI 10 * nI d = nI (10 * d) from (Int32.ofNat_mul 10 d).symm, nI_add, nI_1]
              refine cb_run cb_tb_ok vd_X10_tries4 (cuts := [183]) 90 ?_
              refine And.intro (cb_on rfl) ⟨i, g, ⟨rfl, by omega, rfl, by omega⟩, And.intro (cb_on rfl) ?_⟩
              show sp_X10_tries 3 0 [.inl those, .inl (nI i + 1), .inl (us ||| (1 : Int32) <<< (nI g &&& 31)), .inl (10 * dg + nI g + 1), .inl N] (md_swap M2 i g) _
              rw [nI_1, ed]
              refine ⟨M0, n, hh, nb, k, wm_upd bd i (hb g), wm_upd pl i (hp g), wm_upd hb g (bd i), wm_upd hp g (pl i), i + 1, 10 * d + g + 1, ⟨hJs, hIs, fun a ha' => ?_, fun l hl => ?_, rfl, by omega, rfl, hN, hk, by simpa using hlen⟩, fun M3 hF3 h03 hg3 => And.intro (cb_on rfl) ⟨i, g, ⟨rfl, by omega, rfl, by omega⟩, nx (md_swap M3 i g) (hF2.trans (md_back hF3)) ?_ ?_⟩⟩
              · rw [(md_swap_c M2 i g a).1, (md_swap_c M2 i g a).2]
                unfold wm_upd
                by_cases e : a = i
                · rw [if_pos e, if_pos e, if_pos e, if_pos e, hF2.1 72 0 g rfl, hF2.1 73 0 g rfl]
                  exact hhk g hg
                · rw [if_neg e, if_neg e, if_neg e, if_neg e, hF2.1 64 0 a rfl, hF2.1 65 0 a rfl]
                  exact hbd a ha'
              · rw [(md_swap_h M2 i g l).1, (md_swap_h M2 i g l).2]
                unfold wm_upd
                by_cases e : l = g
                · rw [if_pos e, if_pos e, if_pos e, if_pos e, hF2.1 64 0 i rfl, hF2.1 65 0 i rfl]
                  exact hbd i hi
                · rw [if_neg e, if_neg e, if_neg e, if_neg e, hF2.1 72 0 l rfl, hF2.1 73 0 l rfl]
                  exact hhk l hl
              · exact (h03 : cb_gI M3 46 0 0 = _).trans h02
              · show mt_g M3 = _
                rw [hg3, hstep, ← hV]
                show _ = if cb_bit us g = true then _ else _
                rw [if_neg (by rw [q]; decide)]
                rfl
            exact go
          · refine nx M2 hF2 h02 ?_
            rw [hstep]
            show _ = if cb_bit us g = true then _ else _
            rw [if_pos q]
      refine cb_run cb_tb_ok vd_X10_tries4 (cuts := [116]) 90 ?_
      exact loop 0 (Nat.zero_le _) _ M rfl (cb_fr.refl M) rfl rfl
    have at29 : ∀ i, (i = n ∨ i < n ∧ cb_bit those i = true) → mt_L those n i = mt_L those n fr → ∀ v7 : Option cb_V, cb_Gd cb_tb md_X10_tries4 X 29 [some (cb_r 46 0), some (cb_i (those)), some (cb_i (from_)), some (cb_i (us)), some (cb_i (dg)), some (cb_i (N)), some (cb_i (nI i)), v7] [] (cb_aS n0, f) M 0 0 := by
      intro i hi hLi v7
      refine cb_run cb_tb_ok vd_X10_tries4 (cuts := [40, 113]) 90 ?_
      refine And.intro (mi_v 1 (by decide)) (cb_ifne (fun q => ?_) (fun q => ?_))
      · have q : ¬ nI i = cb_gI M 49 0 1 := q
        rw [hn1] at q
        rcases hi with rfl | ⟨hi, hb⟩
        · exact absurd rfl q
        · exact rec_ i hi hb hLi v7
      · have q : nI i = cb_gI M 49 0 1 := q
        rw [hn1] at q
        have hin : i = n := by
          rcases hi with hi | ⟨hi, hb⟩
          · exact hi
          · exact (nI_eq (by omega) (by omega)).mp q
        subst hin
        exact leaf (by rw [← hLi, mt_L_end]) v7
    have scan : ∀ g i, n - i = g → i ≤ n → mt_L those n i = mt_L those n fr → ∀ v7 : Option cb_V, cb_Gd cb_tb md_X10_tries4 X 3 [some (cb_r 46 0), some (cb_i (those)), some (cb_i (from_)), some (cb_i (us)), some (cb_i (dg)), some (cb_i (N)), some (cb_i (nI i)), v7] [] (cb_aS n0, f) M 0 0 := by
      intro g
      induction g with
      | zero =>
        intro i hg hi hLi v7
        have hin : i = n := by omega
        refine cb_run cb_tb_ok vd_X10_tries4 (cuts := [3, 29]) 90 ?_
        exact And.intro (mi_v 1 (by decide)) (cb_lout (n := n) (by rw [hin]) hn1 (at29 i (Or.inl hin) hLi v7))
      | succ g ih =>
        intro i hg hi hLi v7
        have hin : i < n := by omega
        refine cb_run cb_tb_ok vd_X10_tries4 (cuts := [3, 29]) 90 ?_
        refine And.intro (mi_v 1 (by decide)) (cb_lin rfl hn1 hin (by omega) ?_)
        show (¬ (those >>> (nI i &&& 31)) &&& 1 = 0 → _) ∧ (¬ ¬ (those >>> (nI i &&& 31)) &&& 1 = 0 → _)
        rw [mi_sbit _ (by omega)]
        refine cb_ifnz (fun q => at29 i (Or.inr ⟨hin, q⟩) hLi v7) (fun q => ?_)
        show cb_Gd cb_tb md_X10_tries4 X 3 [some (cb_r 46 0), some (cb_i (those)), some (cb_i (from_)), some (cb_i (us)), some (cb_i (dg)), some (cb_i (N)), some (cb_i (nI i + 1)), v7] [] (cb_aS n0, f) M 0 0
        rw [nI_1]
        refine ih (i + 1) (by omega) (by omega) ?_ v7
        rw [← hLi, mt_L_s hin, if_neg (by rw [q]; decide)]
    refine cb_run cb_tb_ok vd_X10_tries4 (cuts := [3]) 90 ?_
    show cb_Gd cb_tb md_X10_tries4 X 3 [some (cb_r 46 0), some (cb_i (those)), some (cb_i (from_)), some (cb_i (us)), some (cb_i (dg)), some (cb_i (N)), some (cb_i (from_)), none] [] (cb_aS n0, f) M 0 0
    have z := scan (n - fr) fr rfl hfn rfl none
    rw [← hfr] at z
    exact z

