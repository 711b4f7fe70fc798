/-! ===== the reference: the new wall stands ===== -/
def fr_S (t j : Nat) : Bool := Nat.beq t 49 || (Nat.beq t 51 || (Nat.beq t 53 || (Nat.beq t 55 || (Nat.beq t 63 || ((Nat.ble 64 t && Nat.ble t 73) || (Nat.beq t 46 && (Nat.beq j 33 || Nat.beq j 34)))))))
def ms_Q (M M' : cb_M) (k1 k2 k3 k4 k5 k6 : Nat) : Prop := cb_fr fr_S M M' ∧ (∀ j, j < k1 → cb_gI M' 49 0 j = cb_gI M 48 0 j) ∧ (∀ j, j < k2 → cb_gI M' 53 0 j = cb_gI M 52 0 j) ∧ (∀ j, j < k3 → cb_gI M' 51 0 j = cb_gI M 50 0 j) ∧ (∀ i, i < k4 → cb_gI M' 55 0 i = cb_gI M 54 0 i ∧ cb_gI M' 71 0 i = -2147483648 ∧ ∀ j, j < 8 → cb_gI M' 63 i j = cb_gI M 61 i j) ∧
  (∀ i, i < k5 → cb_gI M' 64 0 i = cb_gI M 57 i 0 ∧ cb_gI M' 65 0 i = cb_gI M 57 i 1 ∧ cb_gI M' 66 0 i = cb_gI M 57 i 2 - 100 ∧ cb_gI M' 67 0 i = cb_gI M 57 i 3 ∧ cb_gI M' 68 0 i = cb_gI M 57 i 4 ∧ cb_gI M' 69 0 i = cb_gI M 57 i 5 ∧ cb_gI M' 70 0 i = 0) ∧ ∀ l, l < k6 → cb_gI M' 72 0 l = cb_gI M 59 l 0 ∧ cb_gI M' 73 0 l = cb_gI M 59 l 1
theorem ms_up {M : cb_M} {t k : Nat} {v : Int32} {f : Nat → Int32} (h : ∀ j, j < k → cb_gI M t 0 j = f j) (e : v = f k) : ∀ j, j < k + 1 → cb_gI (cb_sI M t 0 k v) t 0 j = f j := fun j hj => by
  by_cases q : j = k
  · subst q
    rw [cb_gs_eq, e]
  · rw [cb_gs_ne (fun w => q w.2.2)]
    exact h j (by omega)
def sp_X10_stands : cb_Sp := fun _ r M K => match r with
  | [] => ∃ nb n h, (cb_gI M 48 0 0 = nI nb ∧ cb_gI M 48 0 1 = nI n ∧ cb_gI M 48 0 2 = nI h ∧ nb ≤ 4 ∧ n ≤ 8 ∧ h ≤ 6) ∧ ∀ M', ms_Q M M' 5 400 nb 8 n h → cb_gI M' 46 0 33 = 0 → cb_gI M' 46 0 34 = 0 → K none M'
  | _ => False
def pt_X10_stands : cb_PT := cb_m 46 0 sp_X10_stands
theorem rc_X10_stands : cb_rc cb_tb RX10 pt_X10_stands := cb_m_rc rfl rfl
def md_X10_stands : cb_D := (RX10, cX10_stands, 3, none, (0, 0, 0, 0), [
  (0, .iconst 0, 1, 0, 0, 0, 0),
  (1, .istore_n 1, 1, 0, 1, 0, 0),
  (2, .iload_n 1, 1, 0, 1, 0, 0),
  (3, .iconst 5, 1, 5, 0, 0, 0),
  (4, .if_icmp .ge 21, 3, 0, 25, 0, 0),
  (7, .aload_n 0, 1, 0, 0, 0, 0),
  (8, .getfield 20, 3, 0, 10, 10, 1338),
  (11, .iload_n 1, 1, 0, 1, 0, 0),
  (12, .aload_n 0, 1, 0, 0, 0, 0),
  (13, .getfield 17, 3, 0, 10, 9, 1337),
  (16, .iload_n 1, 1, 0, 1, 0, 0),
  (17, .iaload, 1, 0, 0, 0, 0),
  (18, .iastore, 1, 0, 0, 0, 0),
  (19, .iinc 1 1, 3, 1, 1, 0, 0),
  (22, .goto (-20), 3, 0, 2, 0, 0),
  (25, .iconst 0, 1, 0, 0, 0, 0),
  (26, .istore_n 1, 1, 0, 1, 0, 0),
  (27, .iload_n 1, 1, 0, 1, 0, 0),
  (28, .sipush 400, 3, 400, 0, 0, 0),
  (31, .if_icmp .ge 21, 3, 0, 52, 0, 0),
  (34, .aload_n 0, 1, 0, 0, 0, 0),
  (35, .getfield 32, 3, 0, 10, 14, 1342),
  (38, .iload_n 1, 1, 0, 1, 0, 0),
  (39, .aload_n 0, 1, 0, 0, 0, 0),
  (40, .getfield 29, 3, 0, 10, 13, 1341),
  (43, .iload_n 1, 1, 0, 1, 0, 0),
  (44, .iaload, 1, 0, 0, 0, 0),
  (45, .iastore, 1, 0, 0, 0, 0),
  (46, .iinc 1 1, 3, 1, 1, 0, 0),
  (49, .goto (-22), 3, 0, 27, 0, 0),
  (52, .iconst 0, 1, 0, 0, 0, 0),
  (53, .istore_n 1, 1, 0, 1, 0, 0),
  (54, .iload_n 1, 1, 0, 1, 0, 0),
  (55, .aload_n 0, 1, 0, 0, 0, 0),
  (56, .getfield 20, 3, 0, 10, 10, 1338),
  (59, .iconst 0, 1, 0, 0, 0, 0),
  (60, .iaload, 1, 0, 0, 0, 0),
  (61, .if_icmp .ge 21, 3, 0, 82, 0, 0),
  (64, .aload_n 0, 1, 0, 0, 0, 0),
  (65, .getfield 26, 3, 0, 10, 12, 1340),
  (68, .iload_n 1, 1, 0, 1, 0, 0),
  (69, .aload_n 0, 1, 0, 0, 0, 0),
  (70, .getfield 23, 3, 0, 10, 11, 1339),
  (73, .iload_n 1, 1, 0, 1, 0, 0),
  (74, .iaload, 1, 0, 0, 0, 0),
  (75, .iastore, 1, 0, 0, 0, 0),
  (76, .iinc 1 1, 3, 1, 1, 0, 0),
  (79, .goto (-25), 3, 0, 54, 0, 0),
  (82, .iconst 0, 1, 0, 0, 0, 0),
  (83, .istore_n 1, 1, 0, 1, 0, 0),
  (84, .iload_n 1, 1, 0, 1, 0, 0),
  (85, .bipush 8, 2, 8, 0, 0, 0),
  (87, .if_icmp .ge 59, 3, 0, 146, 0, 0),
  (90, .aload_n 0, 1, 0, 0, 0, 0),
  (91, .getfield 38, 3, 0, 10, 16, 1344),
  (94, .iload_n 1, 1, 0, 1, 0, 0),
  (95, .aload_n 0, 1, 0, 0, 0, 0),
  (96, .getfield 35, 3, 0, 10, 15, 1343),
  (99, .iload_n 1, 1, 0, 1, 0, 0),
  (100, .iaload, 1, 0, 0, 0, 0),
  (101, .iastore, 1, 0, 0, 0, 0),
  (102, .aload_n 0, 1, 0, 0, 0, 0),
  (103, .getfield 76, 3, 0, 10, 28, 1356),
  (106, .iload_n 1, 1, 0, 1, 0, 0),
  (107, .ldc 125, 2, (-2147483648), 0, 0, 1327),
  (109, .iastore, 1, 0, 0, 0, 0),
  (110, .iconst 0, 1, 0, 0, 0, 0),
  (111, .istore_n 2, 1, 0, 2, 0, 0),
  (112, .iload_n 2, 1, 0, 2, 0, 0),
  (113, .bipush 8, 2, 8, 0, 0, 0),
  (115, .if_icmp .ge 25, 3, 0, 140, 0, 0),
  (118, .aload_n 0, 1, 0, 0, 0, 0),
  (119, .getfield 52, 3, 0, 10, 20, 1348),
  (122, .iload_n 1, 1, 0, 1, 0, 0),
  (123, .aaload, 1, 0, 0, 0, 0),
  (124, .iload_n 2, 1, 0, 2, 0, 0),
  (125, .aload_n 0, 1, 0, 0, 0, 0),
  (126, .getfield 49, 3, 0, 10, 19, 1347),
  (129, .iload_n 1, 1, 0, 1, 0, 0),
  (130, .aaload, 1, 0, 0, 0, 0),
  (131, .iload_n 2, 1, 0, 2, 0, 0),
  (132, .iaload, 1, 0, 0, 0, 0),
  (133, .iastore, 1, 0, 0, 0, 0),
  (134, .iinc 2 1, 3, 1, 2, 0, 0),
  (137, .goto (-25), 3, 0, 112, 0, 0),
  (140, .iinc 1 1, 3, 1, 1, 0, 0),
  (143, .goto (-59), 3, 0, 84, 0, 0),
  (146, .iconst 0, 1, 0, 0, 0, 0),
  (147, .istore_n 1, 1, 0, 1, 0, 0),
  (148, .iload_n 1, 1, 0, 1, 0, 0),
  (149, .aload_n 0, 1, 0, 0, 0, 0),
  (150, .getfield 20, 3, 0, 10, 10, 1338),
  (153, .iconst 1, 1, 1, 0, 0, 0),
  (154, .iaload, 1, 0, 0, 0, 0),
  (155, .if_icmp .ge 103, 3, 0, 258, 0, 0),
  (158, .aload_n 0, 1, 0, 0, 0, 0),
  (159, .getfield 55, 3, 0, 10, 21, 1349),
  (162, .iload_n 1, 1, 0, 1, 0, 0),
  (163, .aload_n 0, 1, 0, 0, 0, 0),
  (164, .getfield 43, 3, 0, 10, 17, 1345),
  (167, .iload_n 1, 1, 0, 1, 0, 0),
  (168, .aaload, 1, 0, 0, 0, 0),
  (169, .iconst 0, 1, 0, 0, 0, 0),
  (170, .iaload, 1, 0, 0, 0, 0),
  (171, .iastore, 1, 0, 0, 0, 0),
  (172, .aload_n 0, 1, 0, 0, 0, 0),
  (173, .getfield 58, 3, 0, 10, 22, 1350),
  (176, .iload_n 1, 1, 0, 1, 0, 0),
  (177, .aload_n 0, 1, 0, 0, 0, 0),
  (178, .getfield 43, 3, 0, 10, 17, 1345),
  (181, .iload_n 1, 1, 0, 1, 0, 0),
  (182, .aaload, 1, 0, 0, 0, 0),
  (183, .iconst 1, 1, 1, 0, 0, 0),
  (184, .iaload, 1, 0, 0, 0, 0),
  (185, .iastore, 1, 0, 0, 0, 0),
  (186, .aload_n 0, 1, 0, 0, 0, 0),
  (187, .getfield 61, 3, 0, 10, 23, 1351),
  (190, .iload_n 1, 1, 0, 1, 0, 0),
  (191, .aload_n 0, 1, 0, 0, 0, 0),
  (192, .getfield 43, 3, 0, 10, 17, 1345),
  (195, .iload_n 1, 1, 0, 1, 0, 0),
  (196, .aaload, 1, 0, 0, 0, 0),
  (197, .iconst 2, 1, 2, 0, 0, 0),
  (198, .iaload, 1, 0, 0, 0, 0),
  (199, .bipush 100, 2, 100, 0, 0, 0),
  (201, .isub, 1, 0, 0, 0, 0),
  (202, .iastore, 1, 0, 0, 0, 0),
  (203, .aload_n 0, 1, 0, 0, 0, 0),
  (204, .getfield 64, 3, 0, 10, 24, 1352),
  (207, .iload_n 1, 1, 0, 1, 0, 0),
  (208, .aload_n 0, 1, 0, 0, 0, 0),
  (209, .getfield 43, 3, 0, 10, 17, 1345),
  (212, .iload_n 1, 1, 0, 1, 0, 0),
  (213, .aaload, 1, 0, 0, 0, 0),
  (214, .iconst 3, 1, 3, 0, 0, 0),
  (215, .iaload, 1, 0, 0, 0, 0),
  (216, .iastore, 1, 0, 0, 0, 0),
  (217, .aload_n 0, 1, 0, 0, 0, 0),
  (218, .getfield 67, 3, 0, 10, 25, 1353),
  (221, .iload_n 1, 1, 0, 1, 0, 0),
  (222, .aload_n 0, 1, 0, 0, 0, 0),
  (223, .getfield 43, 3, 0, 10, 17, 1345),
  (226, .iload_n 1, 1, 0, 1, 0, 0),
  (227, .aaload, 1, 0, 0, 0, 0),
  (228, .iconst 4, 1, 4, 0, 0, 0),
  (229, .iaload, 1, 0, 0, 0, 0),
  (230, .iastore, 1, 0, 0, 0, 0),
  (231, .aload_n 0, 1, 0, 0, 0, 0),
  (232, .getfield 70, 3, 0, 10, 26, 1354),
  (235, .iload_n 1, 1, 0, 1, 0, 0),
  (236, .aload_n 0, 1, 0, 0, 0, 0),
  (237, .getfield 43, 3, 0, 10, 17, 1345),
  (240, .iload_n 1, 1, 0, 1, 0, 0),
  (241, .aaload, 1, 0, 0, 0, 0),
  (242, .iconst 5, 1, 5, 0, 0, 0),
  (243, .iaload, 1, 0, 0, 0, 0),
  (244, .iastore, 1, 0, 0, 0, 0),
  (245, .aload_n 0, 1, 0, 0, 0, 0),
  (246, .getfield 73, 3, 0, 10, 27, 1355),
  (249, .iload_n 1, 1, 0, 1, 0, 0),
  (250, .iconst 0, 1, 0, 0, 0, 0),
  (251, .iastore, 1, 0, 0, 0, 0),
  (252, .iinc 1 1, 3, 1, 1, 0, 0),
  (255, .goto (-107), 3, 0, 148, 0, 0),
  (258, .iconst 0, 1, 0, 0, 0, 0),
  (259, .istore_n 1, 1, 0, 1, 0, 0),
  (260, .iload_n 1, 1, 0, 1, 0, 0),
  (261, .aload_n 0, 1, 0, 0, 0, 0),
  (262, .getfield 20, 3, 0, 10, 10, 1338),
  (265, .iconst 2, 1, 2, 0, 0, 0),
  (266, .iaload, 1, 0, 0, 0, 0),
  (267, .if_icmp .ge 37, 3, 0, 304, 0, 0),
  (270, .aload_n 0, 1, 0, 0, 0, 0),
  (271, .getfield 79, 3, 0, 10, 29, 1357),
  (274, .iload_n 1, 1, 0, 1, 0, 0),
  (275, .aload_n 0, 1, 0, 0, 0, 0),
  (276, .getfield 46, 3, 0, 10, 18, 1346),
  (279, .iload_n 1, 1, 0, 1, 0, 0),
  (280, .aaload, 1, 0, 0, 0, 0),
  (281, .iconst 0, 1, 0, 0, 0, 0),
  (282, .iaload, 1, 0, 0, 0, 0),
  (283, .iastore, 1, 0, 0, 0, 0),
  (284, .aload_n 0, 1, 0, 0, 0, 0),
  (285, .getfield 82, 3, 0, 10, 30, 1358),
  (288, .iload_n 1, 1, 0, 1, 0, 0),
  (289, .aload_n 0, 1, 0, 0, 0, 0),
  (290, .getfield 46, 3, 0, 10, 18, 1346),
  (293, .iload_n 1, 1, 0, 1, 0, 0),
  (294, .aaload, 1, 0, 0, 0, 0),
  (295, .iconst 1, 1, 1, 0, 0, 0),
  (296, .iaload, 1, 0, 0, 0, 0),
  (297, .iastore, 1, 0, 0, 0, 0),
  (298, .iinc 1 1, 3, 1, 1, 0, 0),
  (301, .goto (-41), 3, 0, 260, 0, 0),
  (304, .aload_n 0, 1, 0, 0, 0, 0),
  (305, .iconst 0, 1, 0, 0, 0, 0),
  (306, .putfield 210, 3, 0, 10, 33, 1361),
  (309, .aload_n 0, 1, 0, 0, 0, 0),
  (310, .iconst 0, 1, 0, 0, 0, 0),
  (311, .putfield 213, 3, 0, 10, 34, 1362),
  (314, .return_, 1, 0, 0, 0, 0)],
  [], [])
set_option maxRecDepth 100000 in
theorem vd_X10_stands : md_X10_stands.cd.all (cb_vE md_X10_stands) = true := by decide +kernel
theorem wd_X10_stands : cb_wd yX10_stands md_X10_stands := ⟨cb_tw (i := 1568) (by decide +kernel), cb_tw (i := 11) (by decide +kernel), by decide, by decide⟩
theorem cs_X10_stands : ∀ X, cb_Bs md_X10_stands X → ∀ g ∈ md_X10_stands.ga, cb_CS cb_tb md_X10_stands X g := fun X B => fun _ h => nomatch h
theorem ok_X10_stands : cb_MOK cb_tb yX10_stands md_X10_stands pt_X10_stands := by
  refine cb_okm ⟨plainFor_of_name (by decide), rfl⟩ (by decide) cs_X10_stands (by decide) (fun X n0 f i r M hr ha h => ?_)
  have h0 := cb_a1 (T := 46) rfl ha
  subst h0
  match r, hr, h with
  | [], hr, h =>
    obtain ⟨nb, n, hh, ⟨hnb, hn, hhk, hnb4, hn8, hh6⟩, h⟩ := h
    have tl : ∀ {M2 : cb_M} {k2 k3 k4 k5 k6 : Nat}, ms_Q M M2 5 k2 k3 k4 k5 k6 → cb_gI M2 49 0 0 = nI nb ∧ cb_gI M2 49 0 1 = nI n ∧ cb_gI M2 49 0 2 = nI hh := fun H => ⟨(H.2.1 0 (by decide)).trans hnb, (H.2.1 1 (by decide)).trans hn, (H.2.1 2 (by decide)).trans hhk⟩
    have l6 : ∀ j, j ≤ hh → ∀ (z : Int32) (l2 : Option cb_V) (M2 : cb_M), z = nI j → ms_Q M M2 5 400 nb 8 n j → cb_Gd cb_tb md_X10_stands X 260 [some (cb_r 46 0), some (cb_i (z)), l2] [] (cb_aS n0, f) M2 0 0 := by
      refine cb_up (fun j => ∀ (z : Int32) (l2 : Option cb_V) (M2 : cb_M), z = nI j → ms_Q M M2 5 400 nb 8 n j → cb_Gd cb_tb md_X10_stands X 260 [some (cb_r 46 0), some (cb_i (z)), l2] [] (cb_aS n0, f) M2 0 0) ?_ ?_
      · intro z l2 M2 hz H
        refine cb_run cb_tb_ok vd_X10_stands (cuts := [260]) 90 ?_
        exact And.intro (mi_v 2 (by decide)) (cb_lout hz (tl H).2.2 (And.intro rfl (h _ ⟨(H.1.set _ rfl).set _ rfl, H.2⟩ rfl rfl)))
      · intro j hj ih z l2 M2 hz H
        have v6 : vp_in z 6 := by rw [hz]; exact cb_in8 hj hh6 (by decide)
        have hzc : z.toNatClampNeg = j := by rw [hz]; exact nI_clamp (by omega)
        have aj : cb_aS n0 59 z.toNatClampNeg = true := by
          rw [hzc]
          show Nat.blt j 6 = true
          exact Nat.blt_eq.mpr (by omega)
        have w0 : vp_in (nI 0) 2 := vp_in_nI (by decide) (by decide)
        have w1 : vp_in (nI 1) 2 := vp_in_nI (by decide) (by decide)
        refine cb_run cb_tb_ok vd_X10_stands (cuts := [260]) 90 ?_
        refine And.intro (mi_v 2 (by decide)) (cb_lin hz (tl H).2.2 hj (by omega) (And.intro v6 (cb_av.of aj (And.intro w0 (And.intro v6 (And.intro v6 (cb_av.of aj (And.intro w1 (And.intro v6 ?_)))))))))
        show cb_Gd cb_tb md_X10_stands X 260 [some (cb_r 46 0), some (cb_i (z + 1)), l2] [] (cb_aS n0, f) (cb_sI (cb_sI M2 72 0 z.toNatClampNeg (cb_gI M2 59 z.toNatClampNeg 0)) 73 0 z.toNatClampNeg (cb_gI M2 59 z.toNatClampNeg 1)) 0 0
        obtain ⟨hF, h1, h2, h3, h4, h5, h6⟩ := H
        rw [hzc, hF.1 59 j 0 rfl, hF.1 59 j 1 rfl]
        have u1 := ms_up (t := 72) (v := cb_gI M 59 j 0) (f := fun l => cb_gI M 59 l 0) (fun l hl => (h6 l hl).1) rfl
        have u2 := ms_up (t := 73) (v := cb_gI M 59 j 1) (f := fun l => cb_gI M 59 l 1) (fun l hl => (h6 l hl).2) rfl
        exact ih _ _ _ (by rw [hz, nI_1]) ⟨(hF.set _ rfl).set _ rfl, h1, h2, h3, h4, h5, fun l hl => ⟨u1 l hl, u2 l hl⟩⟩
    have l5 : ∀ j, j ≤ n → ∀ (z : Int32) (l2 : Option cb_V) (M2 : cb_M), z = nI j → ms_Q M M2 5 400 nb 8 j 0 → cb_Gd cb_tb md_X10_stands X 148 [some (cb_r 46 0), some (cb_i (z)), l2] [] (cb_aS n0, f) M2 0 0 := by
      refine cb_up (fun j => ∀ (z : Int32) (l2 : Option cb_V) (M2 : cb_M), z = nI j → ms_Q M M2 5 400 nb 8 j 0 → cb_Gd cb_tb md_X10_stands X 148 [some (cb_r 46 0), some (cb_i (z)), l2] [] (cb_aS n0, f) M2 0 0) ?_ ?_
      · intro z l2 M2 hz H
        refine cb_run cb_tb_ok vd_X10_stands (cuts := [148, 260]) 90 ?_
        exact And.intro (mi_v 1 (by decide)) (cb_lout hz (tl H).2.1 (l6 0 (Nat.zero_le _) _ _ _ rfl H))
      · intro j hj ih z l2 M2 hz H
        have v8 : vp_in z 8 := by rw [hz]; exact cb_in8 hj hn8 (by decide)
        have hzc : z.toNatClampNeg = j := by rw [hz]; exact nI_clamp (by omega)
        have aj : cb_aS n0 57 z.toNatClampNeg = true := by
          rw [hzc]
          show Nat.blt j 8 = true
          exact Nat.blt_eq.mpr (by omega)
        have wk : ∀ k, k < 6 → vp_in (nI k) 6 := fun k hk => vp_in_nI hk (by decide)
        refine cb_run cb_tb_ok vd_X10_stands (cuts := [148, 260]) 90 ?_
        refine And.intro (mi_v 1 (by decide)) (cb_lin hz (tl H).2.1 hj (by omega) (And.intro v8 (cb_av.of aj (And.intro (wk 0 (by decide)) (And.intro v8 (And.intro v8 (cb_av.of aj (And.intro (wk 1 (by decide)) (And.intro v8 (And.intro v8 (cb_av.of aj (And.intro (wk 2 (by decide)) (And.intro v8 (And.intro v8 (cb_av.of aj (And.intro (wk 3 (by decide)) (And.intro v8 (And.intro v8 (cb_av.of aj (And.intro (wk 4 (by decide)) (And.intro v8 (And.intro v8 (cb_av.of aj (And.intro (wk 5 (by decide)) (And.intro v8 (And.intro v8 ?_))))))))))))))))))))))))))
        show cb_Gd cb_tb md_X10_stands X 148 [some (cb_r 46 0), some (cb_i (z + 1)), l2] [] (cb_aS n0, f) (cb_sI (cb_sI (cb_sI (cb_sI (cb_sI (cb_sI (cb_sI M2 64 0 z.toNatClampNeg (cb_gI M2 57 z.toNatClampNeg 0)) 65 0 z.toNatClampNeg (cb_gI M2 57 z.toNatClampNeg 1)) 66 0 z.toNatClampNeg (cb_gI M2 57 z.toNatClampNeg 2 - 100)) 67 0 z.toNatClampNeg (cb_gI M2 57 z.toNatClampNeg 3)) 68 0 z.toNatClampNeg (cb_gI M2 57 z.toNatClampNeg 4)) 69 0 z.toNatClampNeg (cb_gI M2 57 z.toNatClampNeg 5)) 70 0 z.toNatClampNeg 0) 0 0
        obtain ⟨hF, h1, h2, h3, h4, h5, h6⟩ := H
        rw [hzc, hF.1 57 j 0 rfl, hF.1 57 j 1 rfl, hF.1 57 j 2 rfl, hF.1 57 j 3 rfl, hF.1 57 j 4 rfl, hF.1 57 j 5 rfl]
        have u1 := ms_up (t := 64) (v := cb_gI M 57 j 0) (f := fun l => cb_gI M 57 l 0) (fun l hl => (h5 l hl).1) rfl
        have u2 := ms_up (t := 65) (v := cb_gI M 57 j 1) (f := fun l => cb_gI M 57 l 1) (fun l hl => (h5 l hl).2.1) rfl
        have u3 := ms_up (t := 66) (v := cb_gI M 57 j 2 - 100) (f := fun l => cb_gI M 57 l 2 - 100) (fun l hl => (h5 l hl).2.2.1) rfl
        have u4 := ms_up (t := 67) (v := cb_gI M 57 j 3) (f := fun l => cb_gI M 57 l 3) (fun l hl => (h5 l hl).2.2.2.1) rfl
        have u5 := ms_up (t := 68) (v := cb_gI M 57 j 4) (f := fun l => cb_gI M 57 l 4) (fun l hl => (h5 l hl).2.2.2.2.1) rfl
        have u6 := ms_up (t := 69) (v := cb_gI M 57 j 5) (f := fun l => cb_gI M 57 l 5) (fun l hl => (h5 l hl).2.2.2.2.2.1) rfl
        have u7 := ms_up (t := 70) (v := 0) (f := fun l => 0) (fun l hl => (h5 l hl).2.2.2.2.2.2) rfl
        exact ih _ _ _ (by rw [hz, nI_1]) ⟨((((((hF.set _ rfl).set _ rfl).set _ rfl).set _ rfl).set _ rfl).set _ rfl).set _ rfl, h1, h2, h3, h4, fun l hl => ⟨u1 l hl, u2 l hl, u3 l hl, u4 l hl, u5 l hl, u6 l hl, u7 l hl⟩, h6⟩
    have l4 : ∀ j, j ≤ 8 → ∀ (z : Int32) (l2 : Option cb_V) (M2 : cb_M), z = nI j → ms_Q M M2 5 400 nb j 0 0 → cb_Gd cb_tb md_X10_stands X 84 [some (cb_r 46 0), some (cb_i (z)), l2] [] (cb_aS n0, f) M2 0 0 := by
      refine cb_up (fun j => ∀ (z : Int32) (l2 : Option cb_V) (M2 : cb_M), z = nI j → ms_Q M M2 5 400 nb j 0 0 → cb_Gd cb_tb md_X10_stands X 84 [some (cb_r 46 0), some (cb_i (z)), l2] [] (cb_aS n0, f) M2 0 0) ?_ ?_
      · intro z l2 M2 hz H
        refine cb_run cb_tb_ok vd_X10_stands (cuts := [84, 148]) 90 ?_
        exact cb_lout (N := 8) hz rfl (l5 0 (Nat.zero_le _) _ _ _ rfl H)
      · intro j hj ih z l2 M2 hz H
        have v8 : vp_in z 8 := by rw [hz]; exact cb_in8 hj (Nat.le_refl 8) (by decide)
        have hzc : z.toNatClampNeg = j := by rw [hz]; exact nI_clamp (by omega)
        have a1 : cb_aS n0 63 z.toNatClampNeg = true := by
          rw [hzc]
          show Nat.blt j 8 = true
          exact Nat.blt_eq.mpr (by omega)
        have a2 : cb_aS n0 61 z.toNatClampNeg = true := a1
        have inn : ∀ k, k ≤ 8 → ∀ (y : Int32) (M3 : cb_M), y = nI k → ms_Q M M3 5 400 nb j 0 0 → cb_gI M3 55 0 j = cb_gI M 54 0 j → cb_gI M3 71 0 j = -2147483648 → (∀ l, l < k → cb_gI M3 63 j l = cb_gI M 61 j l) → cb_Gd cb_tb md_X10_stands X 112 [some (cb_r 46 0), some (cb_i (z)), some (cb_i (y))] [] (cb_aS n0, f) M3 0 0 := by
          refine cb_up (fun k => ∀ (y : Int32) (M3 : cb_M), y = nI k → ms_Q M M3 5 400 nb j 0 0 → cb_gI M3 55 0 j = cb_gI M 54 0 j → cb_gI M3 71 0 j = -2147483648 → (∀ l, l < k → cb_gI M3 63 j l = cb_gI M 61 j l) → cb_Gd cb_tb md_X10_stands X 112 [some (cb_r 46 0), some (cb_i (z)), some (cb_i (y))] [] (cb_aS n0, f) M3 0 0) ?_ ?_
          · intro y M3 hy H g1 g2 g3
            refine cb_run cb_tb_ok vd_X10_stands (cuts := [84, 112]) 90 ?_
            refine cb_lout (N := 8) hy rfl ?_
            refine ih _ _ _ (by rw [hz]; exact nI_1 j) ⟨H.1, H.2.1, H.2.2.1, H.2.2.2.1, fun i hi => ?_, H.2.2.2.2.2⟩
            by_cases q : i = j
            · subst q
              exact ⟨g1, g2, g3⟩
            · exact H.2.2.2.2.1 i (by omega)
          · intro k hk ih2 y M3 hy H g1 g2 g3
            have y8 : vp_in y 8 := by rw [hy]; exact cb_in8 hk (Nat.le_refl 8) (by decide)
            have hyc : y.toNatClampNeg = k := by rw [hy]; exact nI_clamp (by omega)
            refine cb_run cb_tb_ok vd_X10_stands (cuts := [84, 112]) 90 ?_
            refine cb_lin (N := 8) hy rfl hk (by decide) (And.intro v8 (And.intro v8 (cb_av.of a2 (And.intro y8 (cb_av.of a1 (And.intro y8 ?_))))))
            show cb_Gd cb_tb md_X10_stands X 112 [some (cb_r 46 0), some (cb_i (z)), some (cb_i (y + 1))] [] (cb_aS n0, f) (cb_sI M3 63 z.toNatClampNeg y.toNatClampNeg (cb_gI M3 61 z.toNatClampNeg y.toNatClampNeg)) 0 0
            obtain ⟨hF, h1, h2, h3, h4, h5, h6⟩ := H
            rw [hzc, hyc, hF.1 61 j k rfl]
            refine ih2 _ _ (by rw [hy, nI_1]) ⟨hF.set _ rfl, h1, h2, h3, fun i hi => ⟨(h4 i hi).1, (h4 i hi).2.1, fun l hl => (cb_gs_ne (by omega)).trans ((h4 i hi).2.2 l hl)⟩, h5, h6⟩ g1 g2 (fun l hl => ?_)
            by_cases q : l = k
            · subst q
              exact cb_gs_eq _ _ _ _ _
            · exact (cb_gs_ne (by omega)).trans (g3 l (by omega))
        refine cb_run cb_tb_ok vd_X10_stands (cuts := [84, 112]) 90 ?_
        refine cb_lin (N := 8) hz rfl hj (by decide) (And.intro v8 (And.intro v8 (And.intro v8 ?_)))
        show cb_Gd cb_tb md_X10_stands X 112 [some (cb_r 46 0), some (cb_i (z)), some (cb_i (0))] [] (cb_aS n0, f) (cb_sI (cb_sI M2 55 0 z.toNatClampNeg (cb_gI M2 54 0 z.toNatClampNeg)) 71 0 z.toNatClampNeg (-2147483648)) 0 0
        obtain ⟨hF, h1, h2, h3, h4, h5, h6⟩ := H
        rw [hzc, hF.1 54 0 j rfl]
        refine inn 0 (Nat.zero_le _) _ _ rfl ⟨(hF.set _ rfl).set _ rfl, h1, h2, h3, fun i hi => ?_, h5, h6⟩ ?_ (cb_gs_eq _ _ _ _ _) (fun l hl => absurd hl (by omega))
        · rw [cb_gs_ne (by omega), cb_gs_ne (by omega), cb_gs_ne (by omega)]
          exact h4 i hi
        · rw [cb_gs_ne (by omega), cb_gs_eq]
    have l3 : ∀ j, j ≤ nb → ∀ (z : Int32) (M2 : cb_M), z = nI j → ms_Q M M2 5 400 j 0 0 0 → cb_Gd cb_tb md_X10_stands X 54 [some (cb_r 46 0), some (cb_i (z)), none] [] (cb_aS n0, f) M2 0 0 := by
      refine cb_up (fun j => ∀ (z : Int32) (M2 : cb_M), z = nI j → ms_Q M M2 5 400 j 0 0 0 → cb_Gd cb_tb md_X10_stands X 54 [some (cb_r 46 0), some (cb_i (z)), none] [] (cb_aS n0, f) M2 0 0) ?_ ?_
      · intro z M2 hz H
        refine cb_run cb_tb_ok vd_X10_stands (cuts := [54, 84]) 90 ?_
        exact And.intro (mi_v 0 (by decide)) (cb_lout hz (tl H).1 (l4 0 (Nat.zero_le _) _ _ _ rfl H))
      · intro j hj ih z M2 hz H
        have v4 : vp_in z 4 := by rw [hz]; exact cb_in8 hj hnb4 (by decide)
        have hzc : z.toNatClampNeg = j := by rw [hz]; exact nI_clamp (by omega)
        refine cb_run cb_tb_ok vd_X10_stands (cuts := [54, 84]) 90 ?_
        refine And.intro (mi_v 0 (by decide)) (cb_lin hz (tl H).1 hj (by omega) (And.intro v4 (And.intro v4 ?_)))
        show cb_Gd cb_tb md_X10_stands X 54 [some (cb_r 46 0), some (cb_i (z + 1)), none] [] (cb_aS n0, f) (cb_sI M2 51 0 z.toNatClampNeg (cb_gI M2 50 0 z.toNatClampNeg)) 0 0
        obtain ⟨hF, h1, h2, h3, h4, h5, h6⟩ := H
        rw [hzc, hF.1 50 0 j rfl]
        exact ih _ _ (by rw [hz, nI_1]) ⟨hF.set _ rfl, h1, h2, ms_up h3 rfl, h4, h5, h6⟩
    have l2 : ∀ j, j ≤ 400 → ∀ (z : Int32) (M2 : cb_M), z = nI j → ms_Q M M2 5 j 0 0 0 0 → cb_Gd cb_tb md_X10_stands X 27 [some (cb_r 46 0), some (cb_i (z)), none] [] (cb_aS n0, f) M2 0 0 := by
      refine cb_up (fun j => ∀ (z : Int32) (M2 : cb_M), z = nI j → ms_Q M M2 5 j 0 0 0 0 → cb_Gd cb_tb md_X10_stands X 27 [some (cb_r 46 0), some (cb_i (z)), none] [] (cb_aS n0, f) M2 0 0) ?_ ?_
      · intro z M2 hz H
        refine cb_run cb_tb_ok vd_X10_stands (cuts := [27, 54]) 90 ?_
        exact cb_lout (N := 400) hz rfl (l3 0 (Nat.zero_le _) _ _ rfl H)
      · intro j hj ih z M2 hz H
        have v4 : vp_in z 400 := by rw [hz]; exact cb_in8 hj (Nat.le_refl 400) (by decide)
        have hzc : z.toNatClampNeg = j := by rw [hz]; exact nI_clamp (by omega)
        refine cb_run cb_tb_ok vd_X10_stands (cuts := [27, 54]) 90 ?_
        refine cb_lin (N := 400) hz rfl hj (by decide) (And.intro v4 (And.intro v4 ?_))
        show cb_Gd cb_tb md_X10_stands X 27 [some (cb_r 46 0), some (cb_i (z + 1)), none] [] (cb_aS n0, f) (cb_sI M2 53 0 z.toNatClampNeg (cb_gI M2 52 0 z.toNatClampNeg)) 0 0
        obtain ⟨hF, h1, h2, h3, h4, h5, h6⟩ := H
        rw [hzc, hF.1 52 0 j rfl]
        exact ih _ _ (by rw [hz, nI_1]) ⟨hF.set _ rfl, h1, ms_up h2 rfl, h3, h4, h5, h6⟩
    have l1 : ∀ j, j ≤ 5 → ∀ (z : Int32) (M2 : cb_M), z = nI j → ms_Q M M2 j 0 0 0 0 0 → cb_Gd cb_tb md_X10_stands X 2 [some (cb_r 46 0), some (cb_i (z)), none] [] (cb_aS n0, f) M2 0 0 := by
      refine cb_up (fun j => ∀ (z : Int32) (M2 : cb_M), z = nI j → ms_Q M M2 j 0 0 0 0 0 → cb_Gd cb_tb md_X10_stands X 2 [some (cb_r 46 0), some (cb_i (z)), none] [] (cb_aS n0, f) M2 0 0) ?_ ?_
      · intro z M2 hz H
        refine cb_run cb_tb_ok vd_X10_stands (cuts := [2, 27]) 90 ?_
        exact cb_lout (N := 5) hz rfl (l2 0 (Nat.zero_le _) _ _ rfl H)
      · intro j hj ih z M2 hz H
        have v4 : vp_in z 5 := by rw [hz]; exact cb_in8 hj (Nat.le_refl 5) (by decide)
        have hzc : z.toNatClampNeg = j := by rw [hz]; exact nI_clamp (by omega)
        refine cb_run cb_tb_ok vd_X10_stands (cuts := [2, 27]) 90 ?_
        refine cb_lin (N := 5) hz rfl hj (by decide) (And.intro v4 (And.intro v4 ?_))
        show cb_Gd cb_tb md_X10_stands X 2 [some (cb_r 46 0), some (cb_i (z + 1)), none] [] (cb_aS n0, f) (cb_sI M2 49 0 z.toNatClampNeg (cb_gI M2 48 0 z.toNatClampNeg)) 0 0
        obtain ⟨hF, h1, h2, h3, h4, h5, h6⟩ := H
        rw [hzc, hF.1 48 0 j rfl]
        exact ih _ _ (by rw [hz, nI_1]) ⟨hF.set _ rfl, ms_up h1 rfl, h2, h3, h4, h5, h6⟩
    refine cb_run cb_tb_ok vd_X10_stands (cuts := [2]) 90 ?_
    exact l1 0 (Nat.zero_le _) _ _ rfl ⟨cb_fr.refl M, fun j hj => absurd hj (by omega), fun j hj => absurd hj (by omega), fun j hj => absurd hj (by omega), fun j hj => absurd hj (by omega), fun j hj => absurd hj (by omega), fun j hj => absurd hj (by omega)⟩
