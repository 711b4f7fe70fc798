/-! ===== the reference: images ===== -/
def sp_X10_moves : cb_Sp := fun _ r M K => match r with
  | [.inr (.inr (some (t, q))), .inl v, .inl z] => t = 79 ∧ q < 3 ∧ ∃ (s : Nat) (b : Bool), (cb_gI M 46 0 35 = nI s ∧ s < 6469 ∧ z = cb_z b) ∧ K (some (cb_i (if b = true then cb_gI M 79 q s else v))) (cb_sI (if b = true then M else cb_sI M 79 q s v) 46 0 35 (nI (s + 1)))
  | _ => False
def pt_X10_moves : cb_PT := cb_m 46 3 sp_X10_moves
theorem rc_X10_moves : cb_rc cb_tb RX10 pt_X10_moves := cb_m_rc rfl rfl
def md_X10_moves : cb_D := (RX10, cX10_moves, 4, (some .int), (0, 0, 0, 0), [
  (0, .iload_n 3, 1, 0, 3, 0, 0),
  (1, .ifCond .ne 10, 3, 0, 11, 0, 0),
  (4, .aload_n 1, 1, 0, 1, 0, 0),
  (5, .aload_n 0, 1, 0, 0, 0, 0),
  (6, .getfield 359, 3, 0, 10, 35, 1363),
  (9, .iload_n 2, 1, 0, 2, 0, 0),
  (10, .iastore, 1, 0, 0, 0, 0),
  (11, .aload_n 0, 1, 0, 0, 0, 0),
  (12, .dup, 1, 0, 0, 0, 0),
  (13, .getfield 359, 3, 0, 10, 35, 1363),
  (16, .iconst 1, 1, 1, 0, 0, 0),
  (17, .iadd, 1, 0, 0, 0, 0),
  (18, .putfield 359, 3, 0, 10, 35, 1363),
  (21, .aload_n 1, 1, 0, 1, 0, 0),
  (22, .aload_n 0, 1, 0, 0, 0, 0),
  (23, .getfield 359, 3, 0, 10, 35, 1363),
  (26, .iconst 1, 1, 1, 0, 0, 0),
  (27, .isub, 1, 0, 0, 0, 0),
  (28, .iaload, 1, 0, 0, 0, 0),
  (29, .ireturn, 1, 0, 0, 0, 0)],
  [], [])
set_option maxRecDepth 100000 in
theorem vd_X10_moves : md_X10_moves.cd.all (cb_vE md_X10_moves) = true := by decide +kernel
theorem wd_X10_moves : cb_wd yX10_moves md_X10_moves := ⟨cb_tw (i := 1867) (by decide +kernel), cb_tw (i := 11) (by decide +kernel), by decide, by decide⟩
theorem cs_X10_moves : ∀ X, cb_Bs md_X10_moves X → ∀ g ∈ md_X10_moves.ga, cb_CS cb_tb md_X10_moves X g := fun X B => fun _ h => nomatch h
theorem ok_X10_moves : cb_MOK cb_tb yX10_moves md_X10_moves pt_X10_moves := by
  refine cb_okm ⟨plainFor_of_name (by decide), rfl⟩ (by decide) cs_X10_moves (by decide) (fun X n0 f i r M hr ha h => ?_)
  have h0 := cb_a1 (T := 46) rfl ha
  subst h0
  match r, hr, h with
  | [.inr (.inr (some (t, q))), .inl v, .inl z], hr, h =>
    obtain ⟨rfl, hq, s, b, ⟨h35, hs, rfl⟩, h⟩ := h
    have aq : cb_aS n0 79 q = true := by
      show Nat.blt q 3 = true
      exact Nat.blt_eq.mpr hq
    have vs : vp_in (nI s) 6469 := vp_in_nI hs (by decide)
    have cs : (nI s).toNatClampNeg = s := nI_clamp (by omega)
    have pred : nI s + 1 - 1 = nI s := by rw [nI_1]; exact nI_pred s
    have fin : ∀ M1, cb_gI M1 46 0 35 = nI s → X.K (.inl (some (cb_i (cb_gI M1 79 q s)))) (cb_aS n0, f) (cb_sI M1 46 0 35 (nI (s + 1))) → cb_Gd cb_tb md_X10_moves X 11 [some (cb_r 46 0), some (cb_r 79 q), some (cb_i (v)), some (cb_i (cb_z b))] [] (cb_aS n0, f) M1 0 0 := by
      intro M1 e hK
      have ve : vp_in (cb_gI M1 46 0 35 + 1 - 1) 6469 := by rw [e, pred]; exact vs
      refine cb_run cb_tb_ok vd_X10_moves (cuts := []) 90 ?_
      refine cb_av.of aq (And.intro ve (And.intro trivial ?_))
      show X.K (.inl (some (cb_i (cb_gI M1 79 q (cb_gI M1 46 0 35 + 1 - 1).toNatClampNeg)))) (cb_aS n0, f) (cb_sI M1 46 0 35 (cb_gI M1 46 0 35 + 1))
      rw [e, pred, cs, nI_1]
      exact hK
    refine cb_run cb_tb_ok vd_X10_moves (cuts := [11]) 90 ?_
    cases b with
    | true =>
      rw [if_pos rfl, if_pos rfl] at h
      exact And.intro (fun _ => fin M h35 h) (fun q => absurd q (fun w => w (show ¬ (1 : Int32) = 0 by decide)))
    | false =>
      rw [if_neg (by decide), if_neg (by decide)] at h
      refine And.intro (fun w => absurd rfl w) (fun _ => cb_av.of aq (And.intro (by rw [h35]; exact vs) ?_))
      show cb_Gd cb_tb md_X10_moves X 11 [some (cb_r 46 0), some (cb_r 79 q), some (cb_i (v)), some (cb_i (cb_z false))] [] (cb_aS n0, f) (cb_sI M 79 q (cb_gI M 46 0 35).toNatClampNeg v) 0 0
      rw [h35, cs]
      refine fin _ h35 ?_
      rw [cb_gs_eq]
      exact h
/-- where the things of an image lie -/
def mo_c (s : Nat) : Nat × Nat × Nat := if s = 0 then (46, 0, 33) else if s < 41 then ((if (s - 1) % 5 = 0 then 69 else if (s - 1) % 5 = 1 then 70 else if (s - 1) % 5 = 2 then 64 else if (s - 1) % 5 = 3 then 65 else 71), 0, (s - 1) / 5) else if s < 53 then ((if (s - 41) % 2 = 0 then 72 else 73), 0, (s - 41) / 2) else ((if (s - 53) % 2 = 0 then 75 else 77), (s - 53) / 16, (s - 53) / 2 % 8)
theorem mo_c_i : ∀ i, i < 8 → mo_c (1 + 5 * i) = (69, 0, i) ∧ mo_c (1 + 5 * i + 1) = (70, 0, i) ∧ mo_c (1 + 5 * i + 2) = (64, 0, i) ∧ mo_c (1 + 5 * i + 3) = (65, 0, i) ∧ mo_c (1 + 5 * i + 4) = (71, 0, i) := by decide
theorem mo_c_h : ∀ i, i < 6 → mo_c (41 + 2 * i) = (72, 0, i) ∧ mo_c (41 + 2 * i + 1) = (73, 0, i) := by decide
theorem mo_c_d {d i : Nat} (hi : i < 8) : mo_c (53 + 16 * d + 2 * i) = (75, d, i) ∧ mo_c (53 + 16 * d + 2 * i + 1) = (77, d, i) := by
  unfold mo_c
  refine ⟨?_, ?_⟩
  · rw [if_neg (by omega), if_neg (by omega), if_neg (by omega), if_pos (by omega)]
    refine Prod.ext rfl (Prod.ext ?_ ?_)
    · show (53 + 16 * d + 2 * i - 53) / 16 = d
      omega
    · show (53 + 16 * d + 2 * i - 53) / 2 % 8 = i
      omega
  · rw [if_neg (by omega), if_neg (by omega), if_neg (by omega), if_neg (by omega)]
    refine Prod.ext rfl (Prod.ext ?_ ?_)
    · show (53 + 16 * d + 2 * i + 1 - 53) / 16 = d
      omega
    · show (53 + 16 * d + 2 * i + 1 - 53) / 2 % 8 = i
      omega
def mo_step (b : Bool) (q s : Nat) (M : cb_M) : cb_M := cb_sI (cb_sI (if b = true then M else cb_sI M 79 q s (cb_gI M (mo_c s).1 (mo_c s).2.1 (mo_c s).2.2)) 46 0 35 (nI (s + 1))) (mo_c s).1 (mo_c s).2.1 (mo_c s).2.2 (if b = true then cb_gI M 79 q s else cb_gI M (mo_c s).1 (mo_c s).2.1 (mo_c s).2.2)
theorem mo_step_e {b : Bool} {q s : Nat} {M : cb_M} {t i j : Nat} (h : mo_c s = (t, i, j)) : mo_step b q s M = cb_sI (cb_sI (if b = true then M else cb_sI M 79 q s (cb_gI M t i j)) 46 0 35 (nI (s + 1))) t i j (if b = true then cb_gI M 79 q s else cb_gI M t i j) := by
  unfold mo_step
  rw [h]
def sp_X10_movesAll : cb_Sp := fun _ r M K => match r with
  | [.inr (.inr (some (t, q))), .inl z] => t = 79 ∧ q < 3 ∧ ∃ (b : Bool) (P : Nat → cb_M → Prop), (z = cb_z b ∧ P 0 (cb_sI M 46 0 35 0) ∧ ∀ s M', s < 6469 → P s M' → cb_gI M' 46 0 35 = nI s ∧ P (s + 1) (mo_step b q s M')) ∧ ∀ M', P 6469 M' → K none M'
  | _ => False
def pt_X10_movesAll : cb_PT := cb_m 46 2 sp_X10_movesAll
theorem rc_X10_movesAll : cb_rc cb_tb RX10 pt_X10_movesAll := cb_m_rc rfl rfl
def md_X10_movesAll : cb_D := (RX10, cX10_movesAll, 5, none, (0, 0, 1, 23), [
  (0, .aload_n 0, 1, 0, 0, 0, 0),
  (1, .iconst 0, 1, 0, 0, 0, 0),
  (2, .putfield 359, 3, 0, 10, 35, 1363),
  (5, .aload_n 0, 1, 0, 0, 0, 0),
  (6, .aload_n 0, 1, 0, 0, 0, 0),
  (7, .aload_n 1, 1, 0, 1, 0, 0),
  (8, .aload_n 0, 1, 0, 0, 0, 0),
  (9, .getfield 210, 3, 0, 10, 33, 1361),
  (12, .iload_n 2, 1, 0, 2, 0, 0),
  (13, .invokevirtual 362, 3, 0, 0, 0, 0),
  (16, .putfield 210, 3, 0, 10, 33, 1361),
  (19, .iconst 0, 1, 0, 0, 0, 0),
  (20, .istore_n 3, 1, 0, 3, 0, 0),
  (21, .iload_n 3, 1, 0, 3, 0, 0),
  (22, .bipush 8, 2, 8, 0, 0, 0),
  (24, .if_icmp .ge 99, 3, 0, 123, 0, 0),
  (27, .aload_n 0, 1, 0, 0, 0, 0),
  (28, .getfield 70, 3, 0, 10, 26, 1354),
  (31, .iload_n 3, 1, 0, 3, 0, 0),
  (32, .aload_n 0, 1, 0, 0, 0, 0),
  (33, .aload_n 1, 1, 0, 1, 0, 0),
  (34, .aload_n 0, 1, 0, 0, 0, 0),
  (35, .getfield 70, 3, 0, 10, 26, 1354),
  (38, .iload_n 3, 1, 0, 3, 0, 0),
  (39, .iaload, 1, 0, 0, 0, 0),
  (40, .iload_n 2, 1, 0, 2, 0, 0),
  (41, .invokevirtual 362, 3, 0, 0, 0, 0),
  (44, .iastore, 1, 0, 0, 0, 0),
  (45, .aload_n 0, 1, 0, 0, 0, 0),
  (46, .getfield 73, 3, 0, 10, 27, 1355),
  (49, .iload_n 3, 1, 0, 3, 0, 0),
  (50, .aload_n 0, 1, 0, 0, 0, 0),
  (51, .aload_n 1, 1, 0, 1, 0, 0),
  (52, .aload_n 0, 1, 0, 0, 0, 0),
  (53, .getfield 73, 3, 0, 10, 27, 1355),
  (56, .iload_n 3, 1, 0, 3, 0, 0),
  (57, .iaload, 1, 0, 0, 0, 0),
  (58, .iload_n 2, 1, 0, 2, 0, 0),
  (59, .invokevirtual 362, 3, 0, 0, 0, 0),
  (62, .iastore, 1, 0, 0, 0, 0),
  (63, .aload_n 0, 1, 0, 0, 0, 0),
  (64, .getfield 55, 3, 0, 10, 21, 1349),
  (67, .iload_n 3, 1, 0, 3, 0, 0),
  (68, .aload_n 0, 1, 0, 0, 0, 0),
  (69, .aload_n 1, 1, 0, 1, 0, 0),
  (70, .aload_n 0, 1, 0, 0, 0, 0),
  (71, .getfield 55, 3, 0, 10, 21, 1349),
  (74, .iload_n 3, 1, 0, 3, 0, 0),
  (75, .iaload, 1, 0, 0, 0, 0),
  (76, .iload_n 2, 1, 0, 2, 0, 0),
  (77, .invokevirtual 362, 3, 0, 0, 0, 0),
  (80, .iastore, 1, 0, 0, 0, 0),
  (81, .aload_n 0, 1, 0, 0, 0, 0),
  (82, .getfield 58, 3, 0, 10, 22, 1350),
  (85, .iload_n 3, 1, 0, 3, 0, 0),
  (86, .aload_n 0, 1, 0, 0, 0, 0),
  (87, .aload_n 1, 1, 0, 1, 0, 0),
  (88, .aload_n 0, 1, 0, 0, 0, 0),
  (89, .getfield 58, 3, 0, 10, 22, 1350),
  (92, .iload_n 3, 1, 0, 3, 0, 0),
  (93, .iaload, 1, 0, 0, 0, 0),
  (94, .iload_n 2, 1, 0, 2, 0, 0),
  (95, .invokevirtual 362, 3, 0, 0, 0, 0),
  (98, .iastore, 1, 0, 0, 0, 0),
  (99, .aload_n 0, 1, 0, 0, 0, 0),
  (100, .getfield 76, 3, 0, 10, 28, 1356),
  (103, .iload_n 3, 1, 0, 3, 0, 0),
  (104, .aload_n 0, 1, 0, 0, 0, 0),
  (105, .aload_n 1, 1, 0, 1, 0, 0),
  (106, .aload_n 0, 1, 0, 0, 0, 0),
  (107, .getfield 76, 3, 0, 10, 28, 1356),
  (110, .iload_n 3, 1, 0, 3, 0, 0),
  (111, .iaload, 1, 0, 0, 0, 0),
  (112, .iload_n 2, 1, 0, 2, 0, 0),
  (113, .invokevirtual 362, 3, 0, 0, 0, 0),
  (116, .iastore, 1, 0, 0, 0, 0),
  (117, .iinc 3 1, 3, 1, 3, 0, 0),
  (120, .goto (-99), 3, 0, 21, 0, 0),
  (123, .iconst 0, 1, 0, 0, 0, 0),
  (124, .istore_n 3, 1, 0, 3, 0, 0),
  (125, .iload_n 3, 1, 0, 3, 0, 0),
  (126, .bipush 6, 2, 6, 0, 0, 0),
  (128, .if_icmp .ge 45, 3, 0, 173, 0, 0),
  (131, .aload_n 0, 1, 0, 0, 0, 0),
  (132, .getfield 79, 3, 0, 10, 29, 1357),
  (135, .iload_n 3, 1, 0, 3, 0, 0),
  (136, .aload_n 0, 1, 0, 0, 0, 0),
  (137, .aload_n 1, 1, 0, 1, 0, 0),
  (138, .aload_n 0, 1, 0, 0, 0, 0),
  (139, .getfield 79, 3, 0, 10, 29, 1357),
  (142, .iload_n 3, 1, 0, 3, 0, 0),
  (143, .iaload, 1, 0, 0, 0, 0),
  (144, .iload_n 2, 1, 0, 2, 0, 0),
  (145, .invokevirtual 362, 3, 0, 0, 0, 0),
  (148, .iastore, 1, 0, 0, 0, 0),
  (149, .aload_n 0, 1, 0, 0, 0, 0),
  (150, .getfield 82, 3, 0, 10, 30, 1358),
  (153, .iload_n 3, 1, 0, 3, 0, 0),
  (154, .aload_n 0, 1, 0, 0, 0, 0),
  (155, .aload_n 1, 1, 0, 1, 0, 0),
  (156, .aload_n 0, 1, 0, 0, 0, 0),
  (157, .getfield 82, 3, 0, 10, 30, 1358),
  (160, .iload_n 3, 1, 0, 3, 0, 0),
  (161, .iaload, 1, 0, 0, 0, 0),
  (162, .iload_n 2, 1, 0, 2, 0, 0),
  (163, .invokevirtual 362, 3, 0, 0, 0, 0),
  (166, .iastore, 1, 0, 0, 0, 0),
  (167, .iinc 3 1, 3, 1, 3, 0, 0),
  (170, .goto (-45), 3, 0, 125, 0, 0),
  (173, .iconst 0, 1, 0, 0, 0, 0),
  (174, .istore_n 3, 1, 0, 3, 0, 0),
  (175, .iload_n 3, 1, 0, 3, 0, 0),
  (176, .sipush 400, 3, 400, 0, 0, 0),
  (179, .if_icmp .gt 73, 3, 0, 252, 0, 0),
  (182, .iconst 0, 1, 0, 0, 0, 0),
  (183, .istore 4, 2, 0, 4, 0, 0),
  (185, .iload 4, 2, 0, 4, 0, 0),
  (187, .bipush 8, 2, 8, 0, 0, 0),
  (189, .if_icmp .ge 57, 3, 0, 246, 0, 0),
  (192, .aload_n 0, 1, 0, 0, 0, 0),
  (193, .getfield 85, 3, 0, 10, 31, 1359),
  (196, .iload_n 3, 1, 0, 3, 0, 0),
  (197, .aaload, 1, 0, 0, 0, 0),
  (198, .iload 4, 2, 0, 4, 0, 0),
  (200, .aload_n 0, 1, 0, 0, 0, 0),
  (201, .aload_n 1, 1, 0, 1, 0, 0),
  (202, .aload_n 0, 1, 0, 0, 0, 0),
  (203, .getfield 85, 3, 0, 10, 31, 1359),
  (206, .iload_n 3, 1, 0, 3, 0, 0),
  (207, .aaload, 1, 0, 0, 0, 0),
  (208, .iload 4, 2, 0, 4, 0, 0),
  (210, .iaload, 1, 0, 0, 0, 0),
  (211, .iload_n 2, 1, 0, 2, 0, 0),
  (212, .invokevirtual 362, 3, 0, 0, 0, 0),
  (215, .iastore, 1, 0, 0, 0, 0),
  (216, .aload_n 0, 1, 0, 0, 0, 0),
  (217, .getfield 88, 3, 0, 10, 32, 1360),
  (220, .iload_n 3, 1, 0, 3, 0, 0),
  (221, .aaload, 1, 0, 0, 0, 0),
  (222, .iload 4, 2, 0, 4, 0, 0),
  (224, .aload_n 0, 1, 0, 0, 0, 0),
  (225, .aload_n 1, 1, 0, 1, 0, 0),
  (226, .aload_n 0, 1, 0, 0, 0, 0),
  (227, .getfield 88, 3, 0, 10, 32, 1360),
  (230, .iload_n 3, 1, 0, 3, 0, 0),
  (231, .aaload, 1, 0, 0, 0, 0),
  (232, .iload 4, 2, 0, 4, 0, 0),
  (234, .iaload, 1, 0, 0, 0, 0),
  (235, .iload_n 2, 1, 0, 2, 0, 0),
  (236, .invokevirtual 362, 3, 0, 0, 0, 0),
  (239, .iastore, 1, 0, 0, 0, 0),
  (240, .iinc 4 1, 3, 1, 4, 0, 0),
  (243, .goto (-58), 3, 0, 185, 0, 0),
  (246, .iinc 3 1, 3, 1, 3, 0, 0),
  (249, .goto (-74), 3, 0, 175, 0, 0),
  (252, .return_, 1, 0, 0, 0, 0)],
  [(0, 362, 4, 0, 0, pt_X10_moves)], [])
set_option maxRecDepth 100000 in
theorem vd_X10_movesAll : md_X10_movesAll.cd.all (cb_vE md_X10_movesAll) = true := by decide +kernel
theorem wd_X10_movesAll : cb_wd yX10_movesAll md_X10_movesAll := ⟨cb_tw (i := 1863) (by decide +kernel), cb_tw (i := 11) (by decide +kernel), by decide, by decide⟩
theorem cs_X10_movesAll : ∀ X, cb_Bs md_X10_movesAll X → ∀ g ∈ md_X10_movesAll.ga, cb_CS cb_tb md_X10_movesAll X g := fun X B => List.forall_mem_cons.mpr ⟨cb_csV B ok_X10_moves wd_X10_moves (cb_tw (i := 1864) (by decide +kernel)) (cb_tw (i := 1866) (by decide +kernel)) (cb_tp (i := 88) (by decide +kernel)) rc_X10_moves ⟨by decide, by decide⟩ (by decide +kernel), fun _ h => nomatch h⟩
theorem ok_X10_movesAll : cb_MOK cb_tb yX10_movesAll md_X10_movesAll pt_X10_movesAll := by
  refine cb_okm ⟨plainFor_of_name (by decide), rfl⟩ (by decide) cs_X10_movesAll (by decide) (fun X n0 f i r M hr ha h => ?_)
  have h0 := cb_a1 (T := 46) rfl ha
  subst h0
  match r, hr, h with
  | [.inr (.inr (some (t, q))), .inl z], hr, h =>
    obtain ⟨rfl, hq, b, P, ⟨hz, hP0, hst⟩, h⟩ := h
    have p27 : ∀ (i : Nat) (y : Int32) (l4 : Option cb_V) M', i < 8 → y = nI i → P (1 + 5 * i) M' → (∀ M1, P (1 + 5 * i + 1) M1 → cb_Gd cb_tb md_X10_movesAll X 45 [some (cb_r 46 0), some (cb_r 79 q), some (cb_i (z)), some (cb_i (y)), l4] [] (cb_aS n0, f) M1 0 0) → cb_Gd cb_tb md_X10_movesAll X 27 [some (cb_r 46 0), some (cb_r 79 q), some (cb_i (z)), some (cb_i (y)), l4] [] (cb_aS n0, f) M' 0 0 := by
      intro i y l4 M' hi hy hP k
      have vy : vp_in y 8 := by rw [hy]; exact vp_in_nI hi (by decide)
      have cy : y.toNatClampNeg = i := by rw [hy]; exact nI_clamp (by omega)
      have st := hst (1 + 5 * i) M' (by omega) hP
      rw [mo_step_e ((mo_c_i i hi).1)] at st
      refine cb_run cb_tb_ok vd_X10_movesAll (cuts := [45]) 90 ?_
      refine And.intro vy (And.intro (cb_on rfl) ⟨rfl, hq, 1 + 5 * i, b, ⟨st.1, by omega, hz⟩, And.intro vy ?_⟩)
      show cb_Gd cb_tb md_X10_movesAll X 45 [some (cb_r 46 0), some (cb_r 79 q), some (cb_i (z)), some (cb_i (y)), l4] [] (cb_aS n0, f) (cb_sI (cb_sI (if b = true then M' else cb_sI M' 79 q (1 + 5 * i) (cb_gI M' 69 0 y.toNatClampNeg)) 46 0 35 (nI (1 + 5 * i + 1))) 69 0 y.toNatClampNeg (if b = true then cb_gI M' 79 q (1 + 5 * i) else cb_gI M' 69 0 y.toNatClampNeg)) 0 0
      rw [cy]
      exact k _ st.2
    have p45 : ∀ (i : Nat) (y : Int32) (l4 : Option cb_V) M', i < 8 → y = nI i → P (1 + 5 * i + 1) M' → (∀ M1, P (1 + 5 * i + 1 + 1) M1 → cb_Gd cb_tb md_X10_movesAll X 63 [some (cb_r 46 0), some (cb_r 79 q), some (cb_i (z)), some (cb_i (y)), l4] [] (cb_aS n0, f) M1 0 0) → cb_Gd cb_tb md_X10_movesAll X 45 [some (cb_r 46 0), some (cb_r 79 q), some (cb_i (z)), some (cb_i (y)), l4] [] (cb_aS n0, f) M' 0 0 := by
      intro i y l4 M' hi hy hP k
      have vy : vp_in y 8 := by rw [hy]; exact vp_in_nI hi (by decide)
      have cy : y.toNatClampNeg = i := by rw [hy]; exact nI_clamp (by omega)
      have st := hst (1 + 5 * i + 1) M' (by omega) hP
      rw [mo_step_e ((mo_c_i i hi).2.1)] at st
      refine cb_run cb_tb_ok vd_X10_movesAll (cuts := [63]) 90 ?_
      refine And.intro vy (And.intro (cb_on rfl) ⟨rfl, hq, 1 + 5 * i + 1, b, ⟨st.1, by omega, hz⟩, And.intro vy ?_⟩)
      show cb_Gd cb_tb md_X10_movesAll X 63 [some (cb_r 46 0), some (cb_r 79 q), some (cb_i (z)), some (cb_i (y)), l4] [] (cb_aS n0, f) (cb_sI (cb_sI (if b = true then M' else cb_sI M' 79 q (1 + 5 * i + 1) (cb_gI M' 70 0 y.toNatClampNeg)) 46 0 35 (nI (1 + 5 * i + 1 + 1))) 70 0 y.toNatClampNeg (if b = true then cb_gI M' 79 q (1 + 5 * i + 1) else cb_gI M' 70 0 y.toNatClampNeg)) 0 0
      rw [cy]
      exact k _ st.2
    have p63 : ∀ (i : Nat) (y : Int32) (l4 : Option cb_V) M', i < 8 → y = nI i → P (1 + 5 * i + 2) M' → (∀ M1, P (1 + 5 * i + 2 + 1) M1 → cb_Gd cb_tb md_X10_movesAll X 81 [some (cb_r 46 0), some (cb_r 79 q), some (cb_i (z)), some (cb_i (y)), l4] [] (cb_aS n0, f) M1 0 0) → cb_Gd cb_tb md_X10_movesAll X 63 [some (cb_r 46 0), some (cb_r 79 q), some (cb_i (z)), some (cb_i (y)), l4] [] (cb_aS n0, f) M' 0 0 := by
      intro i y l4 M' hi hy hP k
      have vy : vp_in y 8 := by rw [hy]; exact vp_in_nI hi (by decide)
      have cy : y.toNatClampNeg = i := by rw [hy]; exact nI_clamp (by omega)
      have st := hst (1 + 5 * i + 2) M' (by omega) hP
      rw [mo_step_e ((mo_c_i i hi).2.2.1)] at st
      refine cb_run cb_tb_ok vd_X10_movesAll (cuts := [81]) 90 ?_
      refine And.intro vy (And.intro (cb_on rfl) ⟨rfl, hq, 1 + 5 * i + 2, b, ⟨st.1, by omega, hz⟩, And.intro vy ?_⟩)
      show cb_Gd cb_tb md_X10_movesAll X 81 [some (cb_r 46 0), some (cb_r 79 q), some (cb_i (z)), some (cb_i (y)), l4] [] (cb_aS n0, f) (cb_sI (cb_sI (if b = true then M' else cb_sI M' 79 q (1 + 5 * i + 2) (cb_gI M' 64 0 y.toNatClampNeg)) 46 0 35 (nI (1 + 5 * i + 2 + 1))) 64 0 y.toNatClampNeg (if b = true then cb_gI M' 79 q (1 + 5 * i + 2) else cb_gI M' 64 0 y.toNatClampNeg)) 0 0
      rw [cy]
      exact k _ st.2
    have p81 : ∀ (i : Nat) (y : Int32) (l4 : Option cb_V) M', i < 8 → y = nI i → P (1 + 5 * i + 3) M' → (∀ M1, P (1 + 5 * i + 3 + 1) M1 → cb_Gd cb_tb md_X10_movesAll X 99 [some (cb_r 46 0), some (cb_r 79 q), some (cb_i (z)), some (cb_i (y)), l4] [] (cb_aS n0, f) M1 0 0) → cb_Gd cb_tb md_X10_movesAll X 81 [some (cb_r 46 0), some (cb_r 79 q), some (cb_i (z)), some (cb_i (y)), l4] [] (cb_aS n0, f) M' 0 0 := by
      intro i y l4 M' hi hy hP k
      have vy : vp_in y 8 := by rw [hy]; exact vp_in_nI hi (by decide)
      have cy : y.toNatClampNeg = i := by rw [hy]; exact nI_clamp (by omega)
      have st := hst (1 + 5 * i + 3) M' (by omega) hP
      rw [mo_step_e ((mo_c_i i hi).2.2.2.1)] at st
      refine cb_run cb_tb_ok vd_X10_movesAll (cuts := [99]) 90 ?_
      refine And.intro vy (And.intro (cb_on rfl) ⟨rfl, hq, 1 + 5 * i + 3, b, ⟨st.1, by omega, hz⟩, And.intro vy ?_⟩)
      show cb_Gd cb_tb md_X10_movesAll X 99 [some (cb_r 46 0), some (cb_r 79 q), some (cb_i (z)), some (cb_i (y)), l4] [] (cb_aS n0, f) (cb_sI (cb_sI (if b = true then M' else cb_sI M' 79 q (1 + 5 * i + 3) (cb_gI M' 65 0 y.toNatClampNeg)) 46 0 35 (nI (1 + 5 * i + 3 + 1))) 65 0 y.toNatClampNeg (if b = true then cb_gI M' 79 q (1 + 5 * i + 3) else cb_gI M' 65 0 y.toNatClampNeg)) 0 0
      rw [cy]
      exact k _ st.2
    have p99 : ∀ (i : Nat) (y : Int32) (l4 : Option cb_V) M', i < 8 → y = nI i → P (1 + 5 * i + 4) M' → (∀ M1, P (1 + 5 * i + 4 + 1) M1 → cb_Gd cb_tb md_X10_movesAll X 117 [some (cb_r 46 0), some (cb_r 79 q), some (cb_i (z)), some (cb_i (y)), l4] [] (cb_aS n0, f) M1 0 0) → cb_Gd cb_tb md_X10_movesAll X 99 [some (cb_r 46 0), some (cb_r 79 q), some (cb_i (z)), some (cb_i (y)), l4] [] (cb_aS n0, f) M' 0 0 := by
      intro i y l4 M' hi hy hP k
      have vy : vp_in y 8 := by rw [hy]; exact vp_in_nI hi (by decide)
      have cy : y.toNatClampNeg = i := by rw [hy]; exact nI_clamp (by omega)
      have st := hst (1 + 5 * i + 4) M' (by omega) hP
      rw [mo_step_e ((mo_c_i i hi).2.2.2.2)] at st
      refine cb_run cb_tb_ok vd_X10_movesAll (cuts := [117]) 90 ?_
      refine And.intro vy (And.intro (cb_on rfl) ⟨rfl, hq, 1 + 5 * i + 4, b, ⟨st.1, by omega, hz⟩, And.intro vy ?_⟩)
      show cb_Gd cb_tb md_X10_movesAll X 117 [some (cb_r 46 0), some (cb_r 79 q), some (cb_i (z)), some (cb_i (y)), l4] [] (cb_aS n0, f) (cb_sI (cb_sI (if b = true then M' else cb_sI M' 79 q (1 + 5 * i + 4) (cb_gI M' 71 0 y.toNatClampNeg)) 46 0 35 (nI (1 + 5 * i + 4 + 1))) 71 0 y.toNatClampNeg (if b = true then cb_gI M' 79 q (1 + 5 * i + 4) else cb_gI M' 71 0 y.toNatClampNeg)) 0 0
      rw [cy]
      exact k _ st.2
    have p131 : ∀ (i : Nat) (y : Int32) (l4 : Option cb_V) M', i < 6 → y = nI i → P (41 + 2 * i) M' → (∀ M1, P (41 + 2 * i + 1) M1 → cb_Gd cb_tb md_X10_movesAll X 149 [some (cb_r 46 0), some (cb_r 79 q), some (cb_i (z)), some (cb_i (y)), l4] [] (cb_aS n0, f) M1 0 0) → cb_Gd cb_tb md_X10_movesAll X 131 [some (cb_r 46 0), some (cb_r 79 q), some (cb_i (z)), some (cb_i (y)), l4] [] (cb_aS n0, f) M' 0 0 := by
      intro i y l4 M' hi hy hP k
      have vy : vp_in y 6 := by rw [hy]; exact vp_in_nI hi (by decide)
      have cy : y.toNatClampNeg = i := by rw [hy]; exact nI_clamp (by omega)
      have st := hst (41 + 2 * i) M' (by omega) hP
      rw [mo_step_e ((mo_c_h i hi).1)] at st
      refine cb_run cb_tb_ok vd_X10_movesAll (cuts := [149]) 90 ?_
      refine And.intro vy (And.intro (cb_on rfl) ⟨rfl, hq, 41 + 2 * i, b, ⟨st.1, by omega, hz⟩, And.intro vy ?_⟩)
      show cb_Gd cb_tb md_X10_movesAll X 149 [some (cb_r 46 0), some (cb_r 79 q), some (cb_i (z)), some (cb_i (y)), l4] [] (cb_aS n0, f) (cb_sI (cb_sI (if b = true then M' else cb_sI M' 79 q (41 + 2 * i) (cb_gI M' 72 0 y.toNatClampNeg)) 46 0 35 (nI (41 + 2 * i + 1))) 72 0 y.toNatClampNeg (if b = true then cb_gI M' 79 q (41 + 2 * i) else cb_gI M' 72 0 y.toNatClampNeg)) 0 0
      rw [cy]
      exact k _ st.2
    have p149 : ∀ (i : Nat) (y : Int32) (l4 : Option cb_V) M', i < 6 → y = nI i → P (41 + 2 * i + 1) M' → (∀ M1, P (41 + 2 * i + 1 + 1) M1 → cb_Gd cb_tb md_X10_movesAll X 167 [some (cb_r 46 0), some (cb_r 79 q), some (cb_i (z)), some (cb_i (y)), l4] [] (cb_aS n0, f) M1 0 0) → cb_Gd cb_tb md_X10_movesAll X 149 [some (cb_r 46 0), some (cb_r 79 q), some (cb_i (z)), some (cb_i (y)), l4] [] (cb_aS n0, f) M' 0 0 := by
      intro i y l4 M' hi hy hP k
      have vy : vp_in y 6 := by rw [hy]; exact vp_in_nI hi (by decide)
      have cy : y.toNatClampNeg = i := by rw [hy]; exact nI_clamp (by omega)
      have st := hst (41 + 2 * i + 1) M' (by omega) hP
      rw [mo_step_e ((mo_c_h i hi).2)] at st
      refine cb_run cb_tb_ok vd_X10_movesAll (cuts := [167]) 90 ?_
      refine And.intro vy (And.intro (cb_on rfl) ⟨rfl, hq, 41 + 2 * i + 1, b, ⟨st.1, by omega, hz⟩, And.intro vy ?_⟩)
      show cb_Gd cb_tb md_X10_movesAll X 167 [some (cb_r 46 0), some (cb_r 79 q), some (cb_i (z)), some (cb_i (y)), l4] [] (cb_aS n0, f) (cb_sI (cb_sI (if b = true then M' else cb_sI M' 79 q (41 + 2 * i + 1) (cb_gI M' 73 0 y.toNatClampNeg)) 46 0 35 (nI (41 + 2 * i + 1 + 1))) 73 0 y.toNatClampNeg (if b = true then cb_gI M' 79 q (41 + 2 * i + 1) else cb_gI M' 73 0 y.toNatClampNeg)) 0 0
      rw [cy]
      exact k _ st.2
    have p192 : ∀ (d i : Nat) (x y : Int32) M', d < 401 → i < 8 → x = nI d → y = nI i → P (53 + 16 * d + 2 * i) M' → (∀ M1, P (53 + 16 * d + 2 * i + 1) M1 → cb_Gd cb_tb md_X10_movesAll X 216 [some (cb_r 46 0), some (cb_r 79 q), some (cb_i (z)), some (cb_i (x)), some (cb_i (y))] [] (cb_aS n0, f) M1 0 0) → cb_Gd cb_tb md_X10_movesAll X 192 [some (cb_r 46 0), some (cb_r 79 q), some (cb_i (z)), some (cb_i (x)), some (cb_i (y))] [] (cb_aS n0, f) M' 0 0 := by
      intro d i x y M' hd hi hx hy hP k
      have vy : vp_in y 8 := by rw [hy]; exact vp_in_nI hi (by decide)
      have cy : y.toNatClampNeg = i := by rw [hy]; exact nI_clamp (by omega)
      have vx : vp_in x 401 := by rw [hx]; exact vp_in_nI hd (by decide)
      have cx : x.toNatClampNeg = d := by rw [hx]; exact nI_clamp (by omega)
      have ax : cb_aS n0 75 x.toNatClampNeg = true := by
        rw [cx]
        show Nat.blt d 401 = true
        exact Nat.blt_eq.mpr hd
      have st := hst (53 + 16 * d + 2 * i) M' (by omega) hP
      rw [mo_step_e ((mo_c_d hi).1)] at st
      refine cb_run cb_tb_ok vd_X10_movesAll (cuts := [216]) 90 ?_
      refine And.intro vx (And.intro vx (cb_av.of ax (And.intro vy (And.intro (cb_on rfl) ⟨rfl, hq, 53 + 16 * d + 2 * i, b, ⟨st.1, by omega, hz⟩, cb_av.of ax (And.intro vy ?_)⟩))))
      show cb_Gd cb_tb md_X10_movesAll X 216 [some (cb_r 46 0), some (cb_r 79 q), some (cb_i (z)), some (cb_i (x)), some (cb_i (y))] [] (cb_aS n0, f) (cb_sI (cb_sI (if b = true then M' else cb_sI M' 79 q (53 + 16 * d + 2 * i) (cb_gI M' 75 x.toNatClampNeg y.toNatClampNeg)) 46 0 35 (nI (53 + 16 * d + 2 * i + 1))) 75 x.toNatClampNeg y.toNatClampNeg (if b = true then cb_gI M' 79 q (53 + 16 * d + 2 * i) else cb_gI M' 75 x.toNatClampNeg y.toNatClampNeg)) 0 0
      rw [cx, cy]
      exact k _ st.2
    have p216 : ∀ (d i : Nat) (x y : Int32) M', d < 401 → i < 8 → x = nI d → y = nI i → P (53 + 16 * d + 2 * i + 1) M' → (∀ M1, P (53 + 16 * d + 2 * i + 1 + 1) M1 → cb_Gd cb_tb md_X10_movesAll X 240 [some (cb_r 46 0), some (cb_r 79 q), some (cb_i (z)), some (cb_i (x)), some (cb_i (y))] [] (cb_aS n0, f) M1 0 0) → cb_Gd cb_tb md_X10_movesAll X 216 [some (cb_r 46 0), some (cb_r 79 q), some (cb_i (z)), some (cb_i (x)), some (cb_i (y))] [] (cb_aS n0, f) M' 0 0 := by
      intro d i x y M' hd hi hx hy hP k
      have vy : vp_in y 8 := by rw [hy]; exact vp_in_nI hi (by decide)
      have cy : y.toNatClampNeg = i := by rw [hy]; exact nI_clamp (by omega)
      have vx : vp_in x 401 := by rw [hx]; exact vp_in_nI hd (by decide)
      have cx : x.toNatClampNeg = d := by rw [hx]; exact nI_clamp (by omega)
      have ax : cb_aS n0 77 x.toNatClampNeg = true := by
        rw [cx]
        show Nat.blt d 401 = true
        exact Nat.blt_eq.mpr hd
      have st := hst (53 + 16 * d + 2 * i + 1) M' (by omega) hP
      rw [mo_step_e ((mo_c_d hi).2)] at st
      refine cb_run cb_tb_ok vd_X10_movesAll (cuts := [240]) 90 ?_
      refine And.intro vx (And.intro vx (cb_av.of ax (And.intro vy (And.intro (cb_on rfl) ⟨rfl, hq, 53 + 16 * d + 2 * i + 1, b, ⟨st.1, by omega, hz⟩, cb_av.of ax (And.intro vy ?_)⟩))))
      show cb_Gd cb_tb md_X10_movesAll X 240 [some (cb_r 46 0), some (cb_r 79 q), some (cb_i (z)), some (cb_i (x)), some (cb_i (y))] [] (cb_aS n0, f) (cb_sI (cb_sI (if b = true then M' else cb_sI M' 79 q (53 + 16 * d + 2 * i + 1) (cb_gI M' 77 x.toNatClampNeg y.toNatClampNeg)) 46 0 35 (nI (53 + 16 * d + 2 * i + 1 + 1))) 77 x.toNatClampNeg y.toNatClampNeg (if b = true then cb_gI M' 79 q (53 + 16 * d + 2 * i + 1) else cb_gI M' 77 x.toNatClampNeg y.toNatClampNeg)) 0 0
      rw [cx, cy]
      exact k _ st.2
    have lD : ∀ d, d ≤ 401 → ∀ (x : Int32) (l4 : Option cb_V) (M2 : cb_M), x = nI d → P (53 + 16 * d) M2 → cb_Gd cb_tb md_X10_movesAll X 175 [some (cb_r 46 0), some (cb_r 79 q), some (cb_i (z)), some (cb_i (x)), l4] [] (cb_aS n0, f) M2 0 0 := by
      refine cb_up (fun d => ∀ (x : Int32) (l4 : Option cb_V) (M2 : cb_M), x = nI d → P (53 + 16 * d) M2 → cb_Gd cb_tb md_X10_movesAll X 175 [some (cb_r 46 0), some (cb_r 79 q), some (cb_i (z)), some (cb_i (x)), l4] [] (cb_aS n0, f) M2 0 0) ?_ ?_
      · intro x l4 M2 hx hP
        refine cb_run cb_tb_ok vd_X10_movesAll (cuts := [175]) 90 ?_
        refine And.intro (fun _ => And.intro rfl (h M2 hP)) (fun w => absurd ?_ w)
        show (400 : Int32) < x
        rw [hx]
        decide
      · intro d hd ih x l4 M2 hx hP
        have lI : ∀ i, i ≤ 8 → ∀ (y : Int32) (M3 : cb_M), y = nI i → P (53 + 16 * d + 2 * i) M3 → cb_Gd cb_tb md_X10_movesAll X 185 [some (cb_r 46 0), some (cb_r 79 q), some (cb_i (z)), some (cb_i (x)), some (cb_i (y))] [] (cb_aS n0, f) M3 0 0 := by
          refine cb_up (fun i => ∀ (y : Int32) (M3 : cb_M), y = nI i → P (53 + 16 * d + 2 * i) M3 → cb_Gd cb_tb md_X10_movesAll X 185 [some (cb_r 46 0), some (cb_r 79 q), some (cb_i (z)), some (cb_i (x)), some (cb_i (y))] [] (cb_aS n0, f) M3 0 0) ?_ ?_
          · intro y M3 hy hP3
            refine cb_run cb_tb_ok vd_X10_movesAll (cuts := [175, 185]) 90 ?_
            exact cb_lout (N := 8) hy rfl (ih _ _ M3 (by rw [hx]; exact nI_1 d) hP3)
          · intro i hi ih2 y M3 hy hP3
            have go : cb_Gd cb_tb md_X10_movesAll X 192 [some (cb_r 46 0), some (cb_r 79 q), some (cb_i (z)), some (cb_i (x)), some (cb_i (y))] [] (cb_aS n0, f) M3 0 0 := by
              refine p192 d i x y M3 hd hi hx hy hP3 (fun M4 hP4 => p216 d i x y M4 hd hi hx hy hP4 (fun M5 hP5 => ?_))
              refine cb_run cb_tb_ok vd_X10_movesAll (cuts := [185]) 90 ?_
              exact ih2 _ M5 (by rw [hy]; exact nI_1 i) hP5
            refine cb_run cb_tb_ok vd_X10_movesAll (cuts := [185, 192]) 90 ?_
            exact cb_lin (N := 8) hy rfl hi (by decide) go
        refine cb_run cb_tb_ok vd_X10_movesAll (cuts := [175, 185]) 90 ?_
        refine And.intro (fun w => absurd w ?_) (fun _ => lI 0 (Nat.zero_le _) _ M2 rfl hP)
        show ¬ (400 : Int32) < x
        rw [hx]
        exact nI_nlt (a := 400) (b := d) (by omega) (by decide)
    have lH : ∀ i, i ≤ 6 → ∀ (y : Int32) (l4 : Option cb_V) (M2 : cb_M), y = nI i → P (41 + 2 * i) M2 → cb_Gd cb_tb md_X10_movesAll X 125 [some (cb_r 46 0), some (cb_r 79 q), some (cb_i (z)), some (cb_i (y)), l4] [] (cb_aS n0, f) M2 0 0 := by
      refine cb_up (fun i => ∀ (y : Int32) (l4 : Option cb_V) (M2 : cb_M), y = nI i → P (41 + 2 * i) M2 → cb_Gd cb_tb md_X10_movesAll X 125 [some (cb_r 46 0), some (cb_r 79 q), some (cb_i (z)), some (cb_i (y)), l4] [] (cb_aS n0, f) M2 0 0) ?_ ?_
      · intro y l4 M2 hy hP
        refine cb_run cb_tb_ok vd_X10_movesAll (cuts := [125, 175]) 90 ?_
        exact cb_lout (N := 6) hy rfl (lD 0 (Nat.zero_le _) _ _ M2 rfl hP)
      · intro i hi ih y l4 M2 hy hP
        have go : cb_Gd cb_tb md_X10_movesAll X 131 [some (cb_r 46 0), some (cb_r 79 q), some (cb_i (z)), some (cb_i (y)), l4] [] (cb_aS n0, f) M2 0 0 := by
          refine p131 i y l4 M2 hi hy hP (fun M4 hP4 => p149 i y l4 M4 hi hy hP4 (fun M5 hP5 => ?_))
          refine cb_run cb_tb_ok vd_X10_movesAll (cuts := [125]) 90 ?_
          exact ih _ _ M5 (by rw [hy]; exact nI_1 i) hP5
        refine cb_run cb_tb_ok vd_X10_movesAll (cuts := [125, 131]) 90 ?_
        exact cb_lin (N := 6) hy rfl hi (by decide) go
    have lC : ∀ i, i ≤ 8 → ∀ (y : Int32) (l4 : Option cb_V) (M2 : cb_M), y = nI i → P (1 + 5 * i) M2 → cb_Gd cb_tb md_X10_movesAll X 21 [some (cb_r 46 0), some (cb_r 79 q), some (cb_i (z)), some (cb_i (y)), l4] [] (cb_aS n0, f) M2 0 0 := by
      refine cb_up (fun i => ∀ (y : Int32) (l4 : Option cb_V) (M2 : cb_M), y = nI i → P (1 + 5 * i) M2 → cb_Gd cb_tb md_X10_movesAll X 21 [some (cb_r 46 0), some (cb_r 79 q), some (cb_i (z)), some (cb_i (y)), l4] [] (cb_aS n0, f) M2 0 0) ?_ ?_
      · intro y l4 M2 hy hP
        refine cb_run cb_tb_ok vd_X10_movesAll (cuts := [21, 125]) 90 ?_
        exact cb_lout (N := 8) hy rfl (lH 0 (Nat.zero_le _) _ _ M2 rfl hP)
      · intro i hi ih y l4 M2 hy hP
        have go : cb_Gd cb_tb md_X10_movesAll X 27 [some (cb_r 46 0), some (cb_r 79 q), some (cb_i (z)), some (cb_i (y)), l4] [] (cb_aS n0, f) M2 0 0 := by
          refine p27 i y l4 M2 hi hy hP (fun M3 hP3 => p45 i y l4 M3 hi hy hP3 (fun M4 hP4 => p63 i y l4 M4 hi hy hP4 (fun M5 hP5 => p81 i y l4 M5 hi hy hP5 (fun M6 hP6 => p99 i y l4 M6 hi hy hP6 (fun M7 hP7 => ?_)))))
          refine cb_run cb_tb_ok vd_X10_movesAll (cuts := [21]) 90 ?_
          exact ih _ _ M7 (by rw [hy]; exact nI_1 i) hP7
        refine cb_run cb_tb_ok vd_X10_movesAll (cuts := [21, 27]) 90 ?_
        exact cb_lin (N := 8) hy rfl hi (by decide) go
    have st := hst 0 (cb_sI M 46 0 35 0) (by decide) hP0
    rw [mo_step_e (show mo_c 0 = (46, 0, 33) from rfl)] at st
    refine cb_run cb_tb_ok vd_X10_movesAll (cuts := [21]) 90 ?_
    exact And.intro (cb_on rfl) ⟨rfl, hq, 0, b, ⟨st.1, by decide, hz⟩, lC 0 (Nat.zero_le _) _ _ _ rfl st.2⟩
