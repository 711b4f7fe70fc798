/-! ===== the reference: a clause, as it is read ===== -/
def pt_X10_clause : cb_PT := cb_m 46 0 sp_X10_clause
theorem rc_X10_clause : cb_rc cb_tb RX10 pt_X10_clause := cb_m_rc rfl rfl
def md_X10_clause : cb_D := (RX10, cX10_clause, 6, none, (0, 0, 5, 108), [
  (0, .aload_n 0, 1, 0, 0, 0, 0),
  (1, .invokevirtual 176, 3, 0, 0, 0, 0),
  (4, .istore_n 1, 1, 0, 1, 0, 0),
  (5, .iload_n 1, 1, 0, 1, 0, 0),
  (6, .iconst (-1), 1, (-1), 0, 0, 0),
  (7, .if_icmp .ne 15, 3, 0, 22, 0, 0),
  (10, .aload_n 0, 1, 0, 0, 0, 0),
  (11, .iconst 1, 1, 1, 0, 0, 0),
  (12, .aload_n 0, 1, 0, 0, 0, 0),
  (13, .getfield 135, 3, 0, 10, 4, 1332),
  (16, .invokevirtual 155, 3, 0, 1, 0, 0),
  (19, .goto 39, 3, 0, 58, 0, 0),
  (22, .aload_n 0, 1, 0, 0, 0, 0),
  (23, .getfield 179, 3, 0, 10, 7, 1335),
  (26, .bipush 60, 2, 60, 0, 0, 0),
  (28, .if_icmp .eq 21, 3, 0, 49, 0, 0),
  (31, .iload_n 1, 1, 0, 1, 0, 0),
  (32, .iconst 3, 1, 3, 0, 0, 0),
  (33, .if_icmp .ge 25, 3, 0, 58, 0, 0),
  (36, .aload_n 0, 1, 0, 0, 0, 0),
  (37, .getfield 17, 3, 0, 10, 9, 1337),
  (40, .iload_n 1, 1, 0, 1, 0, 0),
  (41, .iaload, 1, 0, 0, 0, 0),
  (42, .iload_n 1, 1, 0, 1, 0, 0),
  (43, .invokestatic 182, 3, 0, 2, 0, 0),
  (46, .if_icmp .ne 12, 3, 0, 58, 0, 0),
  (49, .aload_n 0, 1, 0, 0, 0, 0),
  (50, .iconst 3, 1, 3, 0, 0, 0),
  (51, .aload_n 0, 1, 0, 0, 0, 0),
  (52, .getfield 135, 3, 0, 10, 4, 1332),
  (55, .invokevirtual 155, 3, 0, 1, 0, 0),
  (58, .aload_n 0, 1, 0, 0, 0, 0),
  (59, .getfield 142, 3, 0, 10, 5, 1333),
  (62, .ifCond .eq 4, 3, 0, 66, 0, 0),
  (65, .return_, 1, 0, 0, 0, 0),
  (66, .aload_n 0, 1, 0, 0, 0, 0),
  (67, .aload_n 0, 1, 0, 0, 0, 0),
  (68, .getfield 135, 3, 0, 10, 4, 1332),
  (71, .invokevirtual 138, 3, 0, 3, 0, 0),
  (74, .bipush 97, 2, 97, 0, 0, 0),
  (76, .if_icmp .lt 29, 3, 0, 105, 0, 0),
  (79, .aload_n 0, 1, 0, 0, 0, 0),
  (80, .aload_n 0, 1, 0, 0, 0, 0),
  (81, .getfield 135, 3, 0, 10, 4, 1332),
  (84, .invokevirtual 138, 3, 0, 3, 0, 0),
  (87, .bipush 122, 2, 122, 0, 0, 0),
  (89, .if_icmp .gt 16, 3, 0, 105, 0, 0),
  (92, .aload_n 0, 1, 0, 0, 0, 0),
  (93, .dup, 1, 0, 0, 0, 0),
  (94, .getfield 135, 3, 0, 10, 4, 1332),
  (97, .iconst 1, 1, 1, 0, 0, 0),
  (98, .iadd, 1, 0, 0, 0, 0),
  (99, .putfield 135, 3, 0, 10, 4, 1332),
  (102, .goto (-36), 3, 0, 66, 0, 0),
  (105, .aload_n 0, 1, 0, 0, 0, 0),
  (106, .dup, 1, 0, 0, 0, 0),
  (107, .getfield 179, 3, 0, 10, 7, 1335),
  (110, .iconst 1, 1, 1, 0, 0, 0),
  (111, .iadd, 1, 0, 0, 0, 0),
  (112, .putfield 179, 3, 0, 10, 7, 1335),
  (115, .aload_n 0, 1, 0, 0, 0, 0),
  (116, .getfield 17, 3, 0, 10, 9, 1337),
  (119, .iconst 1, 1, 1, 0, 0, 0),
  (120, .iaload, 1, 0, 0, 0, 0),
  (121, .iconst 1, 1, 1, 0, 0, 0),
  (122, .isub, 1, 0, 0, 0, 0),
  (123, .istore_n 2, 1, 0, 2, 0, 0),
  (124, .iload_n 1, 1, 0, 1, 0, 0),
  (125, .tableswitch 238 0 6 #[43, 75, 94, 113, 131, 152, 200], 43, 0, 0, 0, 0),
  (168, .aload_n 0, 1, 0, 0, 0, 0),
  (169, .getfield 23, 3, 0, 10, 11, 1339),
  (172, .aload_n 0, 1, 0, 0, 0, 0),
  (173, .getfield 17, 3, 0, 10, 9, 1337),
  (176, .iconst 0, 1, 0, 0, 0, 0),
  (177, .iaload, 1, 0, 0, 0, 0),
  (178, .aload_n 0, 1, 0, 0, 0, 0),
  (179, .iconst 1, 1, 1, 0, 0, 0),
  (180, .bipush 9, 2, 9, 0, 0, 0),
  (182, .iconst (-1), 1, (-1), 0, 0, 0),
  (183, .invokevirtual 185, 3, 0, 4, 0, 0),
  (186, .iastore, 1, 0, 0, 0, 0),
  (187, .aload_n 0, 1, 0, 0, 0, 0),
  (188, .getfield 17, 3, 0, 10, 9, 1337),
  (191, .iconst 0, 1, 0, 0, 0, 0),
  (192, .dup2, 1, 0, 0, 0, 0),
  (193, .iaload, 1, 0, 0, 0, 0),
  (194, .iconst 1, 1, 1, 0, 0, 0),
  (195, .iadd, 1, 0, 0, 0, 0),
  (196, .iastore, 1, 0, 0, 0, 0),
  (197, .goto 202, 3, 0, 399, 0, 0),
  (200, .aload_n 0, 1, 0, 0, 0, 0),
  (201, .aload_n 0, 1, 0, 0, 0, 0),
  (202, .getfield 43, 3, 0, 10, 17, 1345),
  (205, .aload_n 0, 1, 0, 0, 0, 0),
  (206, .getfield 17, 3, 0, 10, 9, 1337),
  (209, .iconst 1, 1, 1, 0, 0, 0),
  (210, .iaload, 1, 0, 0, 0, 0),
  (211, .aaload, 1, 0, 0, 0, 0),
  (212, .iconst 1, 1, 1, 0, 0, 0),
  (213, .invokevirtual 189, 3, 0, 5, 0, 0),
  (216, .goto 183, 3, 0, 399, 0, 0),
  (219, .aload_n 0, 1, 0, 0, 0, 0),
  (220, .aload_n 0, 1, 0, 0, 0, 0),
  (221, .getfield 46, 3, 0, 10, 18, 1346),
  (224, .aload_n 0, 1, 0, 0, 0, 0),
  (225, .getfield 17, 3, 0, 10, 9, 1337),
  (228, .iconst 2, 1, 2, 0, 0, 0),
  (229, .iaload, 1, 0, 0, 0, 0),
  (230, .aaload, 1, 0, 0, 0, 0),
  (231, .iconst 0, 1, 0, 0, 0, 0),
  (232, .invokevirtual 189, 3, 0, 5, 0, 0),
  (235, .goto 164, 3, 0, 399, 0, 0),
  (238, .aload_n 0, 1, 0, 0, 0, 0),
  (239, .getfield 17, 3, 0, 10, 9, 1337),
  (242, .iconst 3, 1, 3, 0, 0, 0),
  (243, .aload_n 0, 1, 0, 0, 0, 0),
  (244, .iconst 0, 1, 0, 0, 0, 0),
  (245, .sipush 499, 3, 499, 0, 0, 0),
  (248, .iconst (-1), 1, (-1), 0, 0, 0),
  (249, .invokevirtual 185, 3, 0, 4, 0, 0),
  (252, .iastore, 1, 0, 0, 0, 0),
  (253, .goto 146, 3, 0, 399, 0, 0),
  (256, .aload_n 0, 1, 0, 0, 0, 0),
  (257, .getfield 17, 3, 0, 10, 9, 1337),
  (260, .iconst 4, 1, 4, 0, 0, 0),
  (261, .dup2, 1, 0, 0, 0, 0),
  (262, .iaload, 1, 0, 0, 0, 0),
  (263, .iconst 1, 1, 1, 0, 0, 0),
  (264, .aload_n 0, 1, 0, 0, 0, 0),
  (265, .iconst 0, 1, 0, 0, 0, 0),
  (266, .iload_n 2, 1, 0, 2, 0, 0),
  (267, .iconst (-1), 1, (-1), 0, 0, 0),
  (268, .invokevirtual 185, 3, 0, 4, 0, 0),
  (271, .ishl, 1, 0, 0, 0, 0),
  (272, .ior, 1, 0, 0, 0, 0),
  (273, .iastore, 1, 0, 0, 0, 0),
  (274, .goto 125, 3, 0, 399, 0, 0),
  (277, .aload_n 0, 1, 0, 0, 0, 0),
  (278, .iconst 0, 1, 0, 0, 0, 0),
  (279, .iload_n 2, 1, 0, 2, 0, 0),
  (280, .iconst (-1), 1, (-1), 0, 0, 0),
  (281, .invokevirtual 185, 3, 0, 4, 0, 0),
  (284, .istore_n 3, 1, 0, 3, 0, 0),
  (285, .aload_n 0, 1, 0, 0, 0, 0),
  (286, .iconst 0, 1, 0, 0, 0, 0),
  (287, .iload_n 2, 1, 0, 2, 0, 0),
  (288, .iload_n 3, 1, 0, 3, 0, 0),
  (289, .invokevirtual 185, 3, 0, 4, 0, 0),
  (292, .istore 4, 2, 0, 4, 0, 0),
  (294, .aload_n 0, 1, 0, 0, 0, 0),
  (295, .iconst 0, 1, 0, 0, 0, 0),
  (296, .bipush 99, 2, 99, 0, 0, 0),
  (298, .iconst (-1), 1, (-1), 0, 0, 0),
  (299, .invokevirtual 185, 3, 0, 4, 0, 0),
  (302, .istore 5, 2, 0, 5, 0, 0),
  (304, .aload_n 0, 1, 0, 0, 0, 0),
  (305, .getfield 142, 3, 0, 10, 5, 1333),
  (308, .ifCond .ne 91, 3, 0, 399, 0, 0),
  (311, .aload_n 0, 1, 0, 0, 0, 0),
  (312, .getfield 49, 3, 0, 10, 19, 1347),
  (315, .iload_n 3, 1, 0, 3, 0, 0),
  (316, .aaload, 1, 0, 0, 0, 0),
  (317, .iload 4, 2, 0, 4, 0, 0),
  (319, .iload 5, 2, 0, 5, 0, 0),
  (321, .iastore, 1, 0, 0, 0, 0),
  (322, .goto 77, 3, 0, 399, 0, 0),
  (325, .aload_n 0, 1, 0, 0, 0, 0),
  (326, .iconst 0, 1, 0, 0, 0, 0),
  (327, .sipush 399, 3, 399, 0, 0, 0),
  (330, .iconst (-1), 1, (-1), 0, 0, 0),
  (331, .invokevirtual 185, 3, 0, 4, 0, 0),
  (334, .istore_n 3, 1, 0, 3, 0, 0),
  (335, .aload_n 0, 1, 0, 0, 0, 0),
  (336, .iconst 0, 1, 0, 0, 0, 0),
  (337, .bipush 50, 2, 50, 0, 0, 0),
  (339, .iconst (-1), 1, (-1), 0, 0, 0),
  (340, .invokevirtual 185, 3, 0, 4, 0, 0),
  (343, .istore 4, 2, 0, 4, 0, 0),
  (345, .aload_n 0, 1, 0, 0, 0, 0),
  (346, .getfield 142, 3, 0, 10, 5, 1333),
  (349, .ifCond .ne 50, 3, 0, 399, 0, 0),
  (352, .aload_n 0, 1, 0, 0, 0, 0),
  (353, .getfield 29, 3, 0, 10, 13, 1341),
  (356, .iload_n 3, 1, 0, 3, 0, 0),
  (357, .iload 4, 2, 0, 4, 0, 0),
  (359, .iastore, 1, 0, 0, 0, 0),
  (360, .goto 39, 3, 0, 399, 0, 0),
  (363, .aload_n 0, 1, 0, 0, 0, 0),
  (364, .iconst 0, 1, 0, 0, 0, 0),
  (365, .iload_n 2, 1, 0, 2, 0, 0),
  (366, .iconst (-1), 1, (-1), 0, 0, 0),
  (367, .invokevirtual 185, 3, 0, 4, 0, 0),
  (370, .istore_n 3, 1, 0, 3, 0, 0),
  (371, .aload_n 0, 1, 0, 0, 0, 0),
  (372, .iconst 1, 1, 1, 0, 0, 0),
  (373, .bipush 30, 2, 30, 0, 0, 0),
  (375, .iconst (-1), 1, (-1), 0, 0, 0),
  (376, .invokevirtual 185, 3, 0, 4, 0, 0),
  (379, .istore 4, 2, 0, 4, 0, 0),
  (381, .aload_n 0, 1, 0, 0, 0, 0),
  (382, .getfield 142, 3, 0, 10, 5, 1333),
  (385, .ifCond .ne 14, 3, 0, 399, 0, 0),
  (388, .aload_n 0, 1, 0, 0, 0, 0),
  (389, .getfield 35, 3, 0, 10, 15, 1343),
  (392, .iload_n 3, 1, 0, 3, 0, 0),
  (393, .iload 4, 2, 0, 4, 0, 0),
  (395, .iastore, 1, 0, 0, 0, 0),
  (396, .goto 3, 3, 0, 399, 0, 0),
  (399, .aload_n 0, 1, 0, 0, 0, 0),
  (400, .invokevirtual 193, 3, 0, 6, 0, 0),
  (403, .return_, 1, 0, 0, 0, 0)],
  [(0, 176, 1, 0, 0, pt_X10_kindHere), (0, 155, 3, 0, 0, pt_X10_wrong), (1, 182, 1, 0, 0, pt_X10_mostOf), (0, 138, 2, 0, 0, pt_X10_byteAt), (0, 185, 4, 0, 0, pt_X10_number), (0, 189, 3, 0, 0, pt_X10_hangs), (0, 193, 1, 0, 0, pt_X10_closes)], [(125, [(0, 168), (1, 200), (2, 219), (3, 238), (4, 256), (5, 277), (6, 325)], 363)])
set_option maxRecDepth 100000 in
theorem vd_X10_clause : md_X10_clause.cd.all (cb_vE md_X10_clause) = true := by decide +kernel
theorem wd_X10_clause : cb_wd yX10_clause md_X10_clause := ⟨cb_tw (i := 1522) (by decide +kernel), cb_tw (i := 11) (by decide +kernel), by decide, by decide⟩
theorem cs_X10_clause : ∀ X, cb_Bs md_X10_clause X → ∀ g ∈ md_X10_clause.ga, cb_CS cb_tb md_X10_clause X g := fun X B => List.forall_mem_cons.mpr ⟨cb_csV B ok_X10_kindHere wd_X10_kindHere (cb_tw (i := 1523) (by decide +kernel)) (cb_tw (i := 1525) (by decide +kernel)) (cb_tp (i := 49) (by decide +kernel)) rc_X10_kindHere ⟨by decide, by decide⟩ (by decide +kernel), List.forall_mem_cons.mpr ⟨cb_csV B ok_X10_wrong wd_X10_wrong (cb_tw (i := 1538) (by decide +kernel)) (cb_tw (i := 1540) (by decide +kernel)) (cb_tp (i := 52) (by decide +kernel)) rc_X10_wrong ⟨by decide, by decide⟩ (by decide +kernel), List.forall_mem_cons.mpr ⟨cb_csS B ok_X10_mostOf wd_X10_mostOf (cb_tw (i := 1542) (by decide +kernel)) (cb_tw (i := 1543) (by decide +kernel)) ⟨by decide, by decide⟩ (by decide +kernel), List.forall_mem_cons.mpr ⟨cb_csV B ok_X10_byteAt wd_X10_byteAt (cb_tw (i := 1515) (by decide +kernel)) (cb_tw (i := 1517) (by decide +kernel)) (cb_tp (i := 47) (by decide +kernel)) rc_X10_byteAt ⟨by decide, by decide⟩ (by decide +kernel), List.forall_mem_cons.mpr ⟨cb_csV B ok_X10_number wd_X10_number (cb_tw (i := 1545) (by decide +kernel)) (cb_tw (i := 1547) (by decide +kernel)) (cb_tp (i := 53) (by decide +kernel)) rc_X10_number ⟨by decide, by decide⟩ (by decide +kernel), List.forall_mem_cons.mpr ⟨cb_csV B ok_X10_hangs wd_X10_hangs (cb_tw (i := 1553) (by decide +kernel)) (cb_tw (i := 1555) (by decide +kernel)) (cb_tp (i := 54) (by decide +kernel)) rc_X10_hangs ⟨by decide, by decide⟩ (by decide +kernel), List.forall_mem_cons.mpr ⟨cb_csV B ok_X10_closes wd_X10_closes (cb_tw (i := 1561) (by decide +kernel)) (cb_tw (i := 1563) (by decide +kernel)) (cb_tp (i := 56) (by decide +kernel)) rc_X10_closes ⟨by decide, by decide⟩ (by decide +kernel), fun _ h => nomatch h⟩⟩⟩⟩⟩⟩⟩
theorem ok_X10_clause : cb_MOK cb_tb yX10_clause md_X10_clause pt_X10_clause := by
  refine cb_okm ⟨plainFor_of_name (by decide), rfl⟩ (by decide) cs_X10_clause (by decide) (fun X n0 f i r M hr ha h => ?_)
  have h0 := cb_a1 (T := 46) rfl ha
  subst h0
  match r, hr, h with
  | [], hr, h =>
    obtain ⟨len, a, A, cnt, ⟨hS, hbl, hV, hC, hcnt, hc60⟩, h⟩ := h
    obtain ⟨mt, ht⟩ : ∃ mt, cb_gI M 47 0 = mt := ⟨_, rfl⟩
    rw [ht] at hbl h
    obtain ⟨e, he⟩ : ∃ e, e = rd_end (rd_ls mt) len a := ⟨_, rfl⟩
    unfold rd_clause at h
    rw [← he] at h
    obtain ⟨hc1, hc2, hc3⟩ := id hC
    obtain ⟨hE, hS5, hS6⟩ := id hS
    have hl6 : len ≤ 600 := hE.2.1
    have hel : e ≤ len := by rw [he]; exact rd_end_le hE.2.2.2
    have fin : ∀ (k : Int32) (l2 l3 l4 l5 : Option cb_V) M5 s A', cb_fr fr_L M M5 → mr_S M5 len s → cb_gI M5 47 0 = mt → (∀ a, s = .inr a → mr_V M5 A' ∧ cb_gI M5 46 0 7 = nI (cnt + 1)) → (∀ M', cb_fr fr_L M M' → mr_Q M' len cnt (rd_b (mr_C mt len s) fun x => .inr (A', x)) → X.K (.inl none) (cb_aS n0, f) M') → cb_Gd cb_tb md_X10_clause X 399 [some (cb_r 46 0), some (cb_i (k)), l2, l3, l4, l5] [] (cb_aS n0, f) M5 0 0 := by
      intro k l2 l3 l4 l5 M5 s A' hF hS ht hv h
      refine cb_run cb_tb_ok vd_X10_clause (cuts := []) 90 ?_
      refine And.intro (cb_on rfl) (mr_cl hS ht (fun M6 hF6 hS6 => And.intro rfl (h M6 (hF.trans (hF6.mono fr_R_L)) (mr_Qb hS6 (fun a ea => ?_)))))
      cases s with
      | inl x => cases ea
      | inr a0 => exact ⟨mr_V_R hF6 (hv a0 rfl).1, (hF6.1 46 0 7 rfl).trans (hv a0 rfl).2⟩
    have dead : ∀ (k : Int32) M2 x, mr_S M2 len (.inl x) → X.K (.inl none) (cb_aS n0, f) M2 → cb_Gd cb_tb md_X10_clause X 58 [some (cb_r 46 0), some (cb_i (k)), none, none, none, none] [] (cb_aS n0, f) M2 0 0 := by
      intro k M2 x hS2 hK
      refine cb_run cb_tb_ok vd_X10_clause (cuts := [66]) 90 ?_
      exact And.intro (fun q => absurd q (by show ¬ cb_gI M2 46 0 5 = 0; rw [hS2.2.1]; exact hS2.1)) (fun _ => And.intro rfl hK)
    have b168 : ∀ (k : Int32) M3, A.nb < 4 → cb_fr fr_L M M3 → mr_S M3 len (.inr e) → mr_V M3 A → cb_gI M3 46 0 7 = nI (cnt + 1) → cb_gI M3 47 0 = mt → (∀ M', cb_fr fr_L M M' → mr_Q M' len cnt (rd_c0 mt len A e) → X.K (.inl none) (cb_aS n0, f) M') → cb_Gd cb_tb md_X10_clause X 168 [some (cb_r 46 0), some (cb_i (k)), some (cb_i (nI A.n - 1)), none, none, none] [] (cb_aS n0, f) M3 0 0 := by
      intro k M3 hpre hF3 hS3 hV3 hc3 ht3 h
      rw [mr_c0] at h
      have hx4 : vp_in (cb_gI M3 48 0 0) 4 := by rw [hV3.1.1]; exact vp_in_nI hpre (by decide)
      refine cb_run cb_tb_ok vd_X10_clause (cuts := [399]) 90 ?_
      refine And.intro (mi_v 0 (by decide)) (And.intro (cb_on rfl) (mr_call 10 hS3 rfl (by decide) ht3 (fun M4 hF4 hS4 ht4 => And.intro hx4 (And.intro (mi_v 0 (by decide)) (And.intro (mi_v 0 (by decide)) ?_)))))
      have hV4 := mr_V_R hF4 hV3
      have em : cb_sI (cb_sI M4 50 0 (cb_gI M3 48 0 0).toNatClampNeg (mr_nv (mr_b1 mt len e))) 48 0 0 (cb_gI (cb_sI M4 50 0 (cb_gI M3 48 0 0).toNatClampNeg (mr_nv (mr_b1 mt len e))) 48 0 0 + 1) = cb_sI (cb_sI M4 50 0 A.nb (mr_nv (mr_b1 mt len e))) 48 0 0 (nI (A.nb + 1)) := by
        rw [cb_gs_ne (by omega), hV4.1.1, nI_1, hV3.1.1, nI_clamp (by omega)]
      show cb_Gd cb_tb md_X10_clause X 399 [some (cb_r 46 0), some (cb_i (k)), some (cb_i (nI A.n - 1)), none, none, none] [] (cb_aS n0, f) (cb_sI (cb_sI M4 50 0 (cb_gI M3 48 0 0).toNatClampNeg (mr_nv (mr_b1 mt len e))) 48 0 0 (cb_gI (cb_sI M4 50 0 (cb_gI M3 48 0 0).toNatClampNeg (mr_nv (mr_b1 mt len e))) 48 0 0 + 1)) 0 0
      rw [em]
      refine fin _ _ _ _ _ _ _ _ ((((hF3.trans (hF4.mono fr_R_L)).set _ rfl).set _ rfl)) (mr_S_set (mr_S_set hS4 (by decide)) (by decide)) ht4 (fun _ _ => ⟨?_, (hF4.1 46 0 7 rfl).trans hc3⟩) h
      obtain ⟨⟨v1, v2, v3, v4, v5⟩, v6, v7, v8, v9, v10, v11⟩ := hV4
      refine ⟨⟨cb_gs_eq _ _ _ _ _, v2, v3, v4, v5⟩, fun b hb => ?_, v7, v8, v9, v10, v11⟩
      have hb : b < A.nb + 1 := hb
      exact (cb_gs_ne (by omega)).trans (rd_gs b (fun q => v6 b (by omega)))
    have b200 : ∀ (k : Int32) M3, A.n < 8 → cb_fr fr_L M M3 → mr_S M3 len (.inr e) → mr_V M3 A → cb_gI M3 46 0 7 = nI (cnt + 1) → cb_gI M3 47 0 = mt → (∀ M', cb_fr fr_L M M' → mr_Q M' len cnt (rd_c1 mt len A e) → X.K (.inl none) (cb_aS n0, f) M') → cb_Gd cb_tb md_X10_clause X 200 [some (cb_r 46 0), some (cb_i (k)), some (cb_i (nI A.n - 1)), none, none, none] [] (cb_aS n0, f) M3 0 0 := by
      intro k M3 hpre hF3 hS3 hV3 hc3 ht3 h
      rw [mr_c1] at h
      have hx8 : vp_in (cb_gI M3 48 0 1) 8 := by rw [hV3.1.2.1]; exact vp_in_nI hpre (by decide)
      refine cb_run cb_tb_ok vd_X10_clause (cuts := [399]) 90 ?_
      exact And.intro (mi_v 1 (by decide)) (And.intro hx8 (And.intro (cb_on rfl) ⟨len, .inr e, A, mt, ⟨hS3, hV3, hC, ht3⟩, Or.inl ⟨rfl, (by show (cb_gI M3 48 0 1).toNatClampNeg = A.n; rw [hV3.1.2.1]; exact nI_clamp (by omega)), hpre, rfl, fun M4 hF4 h7 hV4 hS4 => fin _ _ _ _ _ _ _ _ (hF3.trans hF4) hS4 ((hF4.fn 47 0 (fun _ => rfl)).trans ht3) (fun _ _ => ⟨hV4, h7.trans hc3⟩) h⟩⟩))
    have b219 : ∀ (k : Int32) M3, A.h < 6 → cb_fr fr_L M M3 → mr_S M3 len (.inr e) → mr_V M3 A → cb_gI M3 46 0 7 = nI (cnt + 1) → cb_gI M3 47 0 = mt → (∀ M', cb_fr fr_L M M' → mr_Q M' len cnt (rd_c2 mt len A e) → X.K (.inl none) (cb_aS n0, f) M') → cb_Gd cb_tb md_X10_clause X 219 [some (cb_r 46 0), some (cb_i (k)), some (cb_i (nI A.n - 1)), none, none, none] [] (cb_aS n0, f) M3 0 0 := by
      intro k M3 hpre hF3 hS3 hV3 hc3 ht3 h
      rw [mr_c2] at h
      have hx8 : vp_in (cb_gI M3 48 0 2) 6 := by rw [hV3.1.2.2.1]; exact vp_in_nI hpre (by decide)
      refine cb_run cb_tb_ok vd_X10_clause (cuts := [399]) 90 ?_
      exact And.intro (mi_v 2 (by decide)) (And.intro hx8 (And.intro (cb_on rfl) ⟨len, .inr e, A, mt, ⟨hS3, hV3, hC, ht3⟩, Or.inr ⟨rfl, (by show (cb_gI M3 48 0 2).toNatClampNeg = A.h; rw [hV3.1.2.2.1]; exact nI_clamp (by omega)), hpre, rfl, fun M4 hF4 h7 hV4 hS4 => fin _ _ _ _ _ _ _ _ (hF3.trans hF4) hS4 ((hF4.fn 47 0 (fun _ => rfl)).trans ht3) (fun _ _ => ⟨hV4, h7.trans hc3⟩) h⟩⟩))
    have b238 : ∀ (k : Int32) M3, cb_fr fr_L M M3 → mr_S M3 len (.inr e) → mr_V M3 A → cb_gI M3 46 0 7 = nI (cnt + 1) → cb_gI M3 47 0 = mt → (∀ M', cb_fr fr_L M M' → mr_Q M' len cnt (rd_c7 mt len A e) → X.K (.inl none) (cb_aS n0, f) M') → cb_Gd cb_tb md_X10_clause X 238 [some (cb_r 46 0), some (cb_i (k)), some (cb_i (nI A.n - 1)), none, none, none] [] (cb_aS n0, f) M3 0 0 := by
      intro k M3 hF3 hS3 hV3 hc3 ht3 h
      rw [mr_c7] at h
      refine cb_run cb_tb_ok vd_X10_clause (cuts := [399]) 90 ?_
      refine And.intro (cb_on rfl) (mr_call 500 hS3 rfl (by decide) ht3 (fun M4 hF4 hS4 ht4 => And.intro (mi_v 3 (by decide)) ?_))
      have hV4 := mr_V_R hF4 hV3
      refine fin _ _ _ _ _ (cb_sI M4 48 0 3 (mr_nv (mr_w1 mt len e))) _ _ ((hF3.trans (hF4.mono fr_R_L)).set _ rfl) (mr_S_set hS4 (by decide)) ht4 (fun _ _ => ⟨?_, (hF4.1 46 0 7 rfl).trans hc3⟩) h
      obtain ⟨⟨v1, v2, v3, v4, v5⟩, v6, v7, v8, v9, v10, v11⟩ := hV4
      exact ⟨⟨v1, v2, v3, cb_gs_eq _ _ _ _ _, v5⟩, v6, v7, v8, v9, v10, v11⟩
    have b256 : ∀ (k : Int32) M3, cb_fr fr_L M M3 → mr_S M3 len (.inr e) → mr_V M3 A → cb_gI M3 46 0 7 = nI (cnt + 1) → cb_gI M3 47 0 = mt → (∀ M', cb_fr fr_L M M' → mr_Q M' len cnt (rd_c6 mt len A e) → X.K (.inl none) (cb_aS n0, f) M') → cb_Gd cb_tb md_X10_clause X 256 [some (cb_r 46 0), some (cb_i (k)), some (cb_i (nI A.n - 1)), none, none, none] [] (cb_aS n0, f) M3 0 0 := by
      intro k M3 hF3 hS3 hV3 hc3 ht3 h
      rw [mr_c6] at h
      refine cb_run cb_tb_ok vd_X10_clause (cuts := [399]) 90 ?_
      refine And.intro (mi_v 4 (by decide)) (And.intro (cb_on rfl) (mr_call A.n hS3 rfl (by omega) ht3 (fun M4 hF4 hS4 ht4 => And.intro (mi_v 4 (by decide)) ?_)))
      have hV4 := mr_V_R hF4 hV3
      have em : cb_sI M4 48 0 4 (cb_gI M3 48 0 4 ||| (1 : Int32) <<< (mr_nv (mr_k1 mt len A e) &&& 31)) = cb_sI M4 48 0 4 (A.so ||| (1 : Int32) <<< (mr_nv (mr_k1 mt len A e) &&& 31)) := by rw [hV3.1.2.2.2.2]
      show cb_Gd cb_tb md_X10_clause X 399 [some (cb_r 46 0), some (cb_i (k)), some (cb_i (nI A.n - 1)), none, none, none] [] (cb_aS n0, f) (cb_sI M4 48 0 4 (cb_gI M3 48 0 4 ||| (1 : Int32) <<< (mr_nv (mr_k1 mt len A e) &&& 31))) 0 0
      rw [em]
      refine fin _ _ _ _ _ _ _ _ ((hF3.trans (hF4.mono fr_R_L)).set _ rfl) (mr_S_set hS4 (by decide)) ht4 (fun _ _ => ⟨?_, (hF4.1 46 0 7 rfl).trans hc3⟩) h
      obtain ⟨⟨v1, v2, v3, v4, v5⟩, v6, v7, v8, v9, v10, v11⟩ := hV4
      exact ⟨⟨v1, v2, v3, v4, cb_gs_eq _ _ _ _ _⟩, v6, v7, v8, v9, v10, v11⟩
    have b277 : ∀ (k : Int32) M3, cb_fr fr_L M M3 → mr_S M3 len (.inr e) → mr_V M3 A → cb_gI M3 46 0 7 = nI (cnt + 1) → cb_gI M3 47 0 = mt → (∀ M', cb_fr fr_L M M' → mr_Q M' len cnt (rd_c3 mt len A e) → X.K (.inl none) (cb_aS n0, f) M') → cb_Gd cb_tb md_X10_clause X 277 [some (cb_r 46 0), some (cb_i (k)), some (cb_i (nI A.n - 1)), none, none, none] [] (cb_aS n0, f) M3 0 0 := by
      intro k M3 hF3 hS3 hV3 hc3 ht3 h
      rw [mr_c3] at h
      refine cb_run cb_tb_ok vd_X10_clause (cuts := [399]) 90 ?_
      refine And.intro (cb_on rfl) (mr_call A.n hS3 rfl (by omega) ht3 (fun M4 hF4 hS4 ht4 => And.intro (cb_on rfl) (mr_call A.n hS4 rfl (by omega) ht4 (fun M5 hF5 hS5 ht5 => And.intro (cb_on rfl) (mr_call 100 hS5 rfl (by decide) ht5 (fun M6 hF6 hS6 ht6 => ?_))))))
      have hS6 : mr_S M6 len (mr_na (mr_k3 mt len A e)) := hS6
      have hF36 := (hF4.trans hF5).trans hF6
      have hV6 := mr_V_R hF36 hV3
      have hFL := hF3.trans (hF36.mono fr_R_L)
      cases es : mr_na (mr_k3 mt len A e) with
      | inl x =>
        rw [es] at hS6 h
        exact And.intro (fun _ => fin _ _ _ _ _ _ (.inl x) (mr_A3 A (mr_nv (mr_k1 mt len A e)) (mr_nv (mr_k2 mt len A e)) (mr_nv (mr_k3 mt len A e))) hFL hS6 ht6 (fun _ w => by cases w) h) (fun q => absurd hS6.2.1 (fun w => q (by show ¬ cb_gI M6 46 0 5 = 0; rw [w]; exact hS6.1)))
      | inr a3 =>
        rw [es] at hS6 h
        obtain ⟨a2, v3, p3, g2, -⟩ := mr_N_inv es
        obtain ⟨a1, v2, p2, g1, n2, -, nv2⟩ := mr_N_inv g2
        obtain ⟨a0, v1, p1, -, n1, -, nv1⟩ := mr_N_inv g1
        obtain ⟨k1, hk1, e1⟩ := rd_num_ix n1 hc2
        obtain ⟨k2, hk2, e2⟩ := rd_num_ix n2 hc2
        have e1 : mr_nv (mr_k1 mt len A e) = nI k1 := nv1.trans e1
        have e2 : mr_nv (mr_k2 mt len A e) = nI k2 := nv2.trans e2
        have x1 : vp_in (mr_nv (mr_k1 mt len A e)) 8 := by rw [e1]; exact vp_in_nI (by omega) (by decide)
        have x2 : vp_in (mr_nv (mr_k2 mt len A e)) 8 := by rw [e2]; exact vp_in_nI (by omega) (by decide)
        have y1 : (mr_nv (mr_k1 mt len A e)).toNatClampNeg = k1 := by rw [e1]; exact nI_clamp (by omega)
        have y2 : (mr_nv (mr_k2 mt len A e)).toNatClampNeg = k2 := by rw [e2]; exact nI_clamp (by omega)
        have aj : cb_aS n0 61 (mr_nv (mr_k1 mt len A e)).toNatClampNeg = true := by
          rw [y1]
          show Nat.blt k1 8 = true
          exact Nat.blt_eq.mpr (by omega)
        refine cb_ifne (fun q => absurd hS6.2.1 q) (fun _ => And.intro x1 (cb_av.of aj (And.intro x2 ?_)))
        show cb_Gd cb_tb md_X10_clause X 399 [some (cb_r 46 0), some (cb_i (k)), some (cb_i (nI A.n - 1)), some (cb_i (mr_nv (mr_k1 mt len A e))), some (cb_i (mr_nv (mr_k2 mt len A e))), some (cb_i (mr_nv (mr_k3 mt len A e)))] [] (cb_aS n0, f) (cb_sI M6 61 (mr_nv (mr_k1 mt len A e)).toNatClampNeg (mr_nv (mr_k2 mt len A e)).toNatClampNeg (mr_nv (mr_k3 mt len A e))) 0 0
        refine fin _ _ _ _ _ _ (.inr a3) (mr_A3 A (mr_nv (mr_k1 mt len A e)) (mr_nv (mr_k2 mt len A e)) (mr_nv (mr_k3 mt len A e))) (hFL.set _ rfl) (mr_S_set hS6 (by decide)) ht6 (fun _ _ => ⟨?_, (hF36.1 46 0 7 rfl).trans hc3⟩) h
        obtain ⟨w1, w6, w7, w8, w9, w10, w11⟩ := hV6
        refine ⟨w1, w6, w7, w8, w9, fun i j hi hj => ?_, w11⟩
        show cb_gI (cb_sI M6 61 (mr_nv (mr_k1 mt len A e)).toNatClampNeg (mr_nv (mr_k2 mt len A e)).toNatClampNeg (mr_nv (mr_k3 mt len A e))) 61 i j = rd_up A.he ((mr_nv (mr_k1 mt len A e)).toNatClampNeg * 8 + (mr_nv (mr_k2 mt len A e)).toNatClampNeg) (mr_nv (mr_k3 mt len A e)) (i * 8 + j)
        rw [y1, y2]
        by_cases q : i = k1 ∧ j = k2
        · obtain ⟨rfl, rfl⟩ := q
          rw [cb_gs_eq, rd_up_eq]
        · rw [cb_gs_ne (fun z => q z.2), rd_up_ne (by omega)]
          exact w10 i j hi hj
    have b325 : ∀ (k : Int32) M3, cb_fr fr_L M M3 → mr_S M3 len (.inr e) → mr_V M3 A → cb_gI M3 46 0 7 = nI (cnt + 1) → cb_gI M3 47 0 = mt → (∀ M', cb_fr fr_L M M' → mr_Q M' len cnt (rd_c4 mt len A e) → X.K (.inl none) (cb_aS n0, f) M') → cb_Gd cb_tb md_X10_clause X 325 [some (cb_r 46 0), some (cb_i (k)), some (cb_i (nI A.n - 1)), none, none, none] [] (cb_aS n0, f) M3 0 0 := by
      intro k M3 hF3 hS3 hV3 hc3 ht3 h
      rw [mr_c4] at h
      refine cb_run cb_tb_ok vd_X10_clause (cuts := [399]) 90 ?_
      refine And.intro (cb_on rfl) (mr_call 400 hS3 rfl (by decide) ht3 (fun M4 hF4 hS4 ht4 => And.intro (cb_on rfl) (mr_call 51 hS4 rfl (by decide) ht4 (fun M6 hF6 hS6 ht6 => ?_))))
      have hS6 : mr_S M6 len (mr_na (mr_d2 mt len e)) := hS6
      have hF36 := hF4.trans hF6
      have hV6 := mr_V_R hF36 hV3
      have hFL := hF3.trans (hF36.mono fr_R_L)
      cases es : mr_na (mr_d2 mt len e) with
      | inl x =>
        rw [es] at hS6 h
        exact And.intro (fun _ => fin _ _ _ _ _ _ (.inl x) (mr_A4 A (mr_nv (mr_d1 mt len e)) (mr_nv (mr_d2 mt len e))) hFL hS6 ht6 (fun _ w => by cases w) h) (fun q => absurd hS6.2.1 (fun w => q (by show ¬ cb_gI M6 46 0 5 = 0; rw [w]; exact hS6.1)))
      | inr a3 =>
        rw [es] at hS6 h
        obtain ⟨a2, v3, p3, g2, -⟩ := mr_N_inv es
        obtain ⟨a0, v1, p1, -, n1, -, nv1⟩ := mr_N_inv g2
        obtain ⟨k1, -, hk1, e1⟩ := rd_num_nI (lo := 0) (hi := 399) n1 (by decide) (by decide)
        have e1 : mr_nv (mr_d1 mt len e) = nI k1 := nv1.trans e1
        have x1 : vp_in (mr_nv (mr_d1 mt len e)) 400 := by rw [e1]; exact vp_in_nI (by omega) (by decide)
        refine cb_ifne (fun q => absurd hS6.2.1 q) (fun _ => And.intro x1 ?_)
        show cb_Gd cb_tb md_X10_clause X 399 [some (cb_r 46 0), some (cb_i (k)), some (cb_i (nI A.n - 1)), some (cb_i (mr_nv (mr_d1 mt len e))), some (cb_i (mr_nv (mr_d2 mt len e))), none] [] (cb_aS n0, f) (cb_sI M6 52 0 (mr_nv (mr_d1 mt len e)).toNatClampNeg (mr_nv (mr_d2 mt len e))) 0 0
        refine fin _ _ _ _ _ _ (.inr a3) (mr_A4 A (mr_nv (mr_d1 mt len e)) (mr_nv (mr_d2 mt len e))) (hFL.set _ rfl) (mr_S_set hS6 (by decide)) ht6 (fun _ _ => ⟨?_, (hF36.1 46 0 7 rfl).trans hc3⟩) h
        obtain ⟨w1, w6, w7, w8, w9, w10, w11⟩ := hV6
        exact ⟨w1, w6, w7, w8, w9, w10, fun d hd => rd_gs d (fun _ => w11 d hd)⟩
    have b363 : ∀ (k : Int32) M3, cb_fr fr_L M M3 → mr_S M3 len (.inr e) → mr_V M3 A → cb_gI M3 46 0 7 = nI (cnt + 1) → cb_gI M3 47 0 = mt → (∀ M', cb_fr fr_L M M' → mr_Q M' len cnt (rd_c5 mt len A e) → X.K (.inl none) (cb_aS n0, f) M') → cb_Gd cb_tb md_X10_clause X 363 [some (cb_r 46 0), some (cb_i (k)), some (cb_i (nI A.n - 1)), none, none, none] [] (cb_aS n0, f) M3 0 0 := by
      intro k M3 hF3 hS3 hV3 hc3 ht3 h
      rw [mr_c5] at h
      refine cb_run cb_tb_ok vd_X10_clause (cuts := [399]) 90 ?_
      refine And.intro (cb_on rfl) (mr_call A.n hS3 rfl (by omega) ht3 (fun M4 hF4 hS4 ht4 => And.intro (cb_on rfl) (mr_call 31 hS4 rfl (by decide) ht4 (fun M6 hF6 hS6 ht6 => ?_))))
      have hS6 : mr_S M6 len (mr_na (mr_k4 mt len A e)) := hS6
      have hF36 := hF4.trans hF6
      have hV6 := mr_V_R hF36 hV3
      have hFL := hF3.trans (hF36.mono fr_R_L)
      cases es : mr_na (mr_k4 mt len A e) with
      | inl x =>
        rw [es] at hS6 h
        exact And.intro (fun _ => fin _ _ _ _ _ _ (.inl x) (mr_A5 A (mr_nv (mr_k1 mt len A e)) (mr_nv (mr_k4 mt len A e))) hFL hS6 ht6 (fun _ w => by cases w) h) (fun q => absurd hS6.2.1 (fun w => q (by show ¬ cb_gI M6 46 0 5 = 0; rw [w]; exact hS6.1)))
      | inr a3 =>
        rw [es] at hS6 h
        obtain ⟨a2, v3, p3, g2, -⟩ := mr_N_inv es
        obtain ⟨a0, v1, p1, -, n1, -, nv1⟩ := mr_N_inv g2
        obtain ⟨k1, hk1, e1⟩ := rd_num_ix n1 hc2
        have e1 : mr_nv (mr_k1 mt len A e) = nI k1 := nv1.trans e1
        have x1 : vp_in (mr_nv (mr_k1 mt len A e)) 8 := by rw [e1]; exact vp_in_nI (by omega) (by decide)
        refine cb_ifne (fun q => absurd hS6.2.1 q) (fun _ => And.intro x1 ?_)
        show cb_Gd cb_tb md_X10_clause X 399 [some (cb_r 46 0), some (cb_i (k)), some (cb_i (nI A.n - 1)), some (cb_i (mr_nv (mr_k1 mt len A e))), some (cb_i (mr_nv (mr_k4 mt len A e))), none] [] (cb_aS n0, f) (cb_sI M6 54 0 (mr_nv (mr_k1 mt len A e)).toNatClampNeg (mr_nv (mr_k4 mt len A e))) 0 0
        refine fin _ _ _ _ _ _ (.inr a3) (mr_A5 A (mr_nv (mr_k1 mt len A e)) (mr_nv (mr_k4 mt len A e))) (hFL.set _ rfl) (mr_S_set hS6 (by decide)) ht6 (fun _ _ => ⟨?_, (hF36.1 46 0 7 rfl).trans hc3⟩) h
        obtain ⟨w1, w6, w7, w8, w9, w10, w11⟩ := hV6
        exact ⟨w1, w6, w7, fun i hi => rd_gs i (fun _ => w8 i hi), w9, w10, w11⟩
    have body : ∀ j M2, j < 8 → rd_many j A = false → cb_fr fr_R M M2 → mr_S M2 len (.inr e) → (∀ M', cb_fr fr_L M M' → mr_Q M' len cnt (rd_cl mt len j A e) → X.K (.inl none) (cb_aS n0, f) M') → cb_Gd cb_tb md_X10_clause X 105 [some (cb_r 46 0), some (cb_i (nI (mr_pm j))), none, none, none, none] [] (cb_aS n0, f) M2 0 0 := by
      intro j M2 hj hm hF2 hS2 h
      have hV2 := mr_V_R hF2 hV
      have ht2 : cb_gI M2 47 0 = mt := (hF2.fn 47 0 (fun _ => rfl)).trans ht
      have em : cb_sI M2 46 0 7 (cb_gI M2 46 0 7 + 1) = cb_sI M2 46 0 7 (nI (cnt + 1)) := by rw [hF2.1 46 0 7 rfl, hcnt, nI_1]
      have all_ : cb_gI M2 48 0 1 - 1 = nI A.n - 1 := by rw [hV2.1.2.1]
      have hF3 : cb_fr fr_L M (cb_sI M2 46 0 7 (nI (cnt + 1))) := (hF2.mono fr_R_L).set _ rfl
      have hS3 : mr_S (cb_sI M2 46 0 7 (nI (cnt + 1))) len (.inr e) := hS2
      have hV3 : mr_V (cb_sI M2 46 0 7 (nI (cnt + 1))) A := hV2
      have sw : cb_Gd cb_tb md_X10_clause X 124 [some (cb_r 46 0), some (cb_i (nI (mr_pm j))), some (cb_i (nI A.n - 1)), none, none, none] [] (cb_aS n0, f) (cb_sI M2 46 0 7 (nI (cnt + 1))) 0 0 := by
        unfold rd_cl at h
        unfold rd_many at hm
        refine cb_run cb_tb_ok vd_X10_clause (cuts := [168, 200, 219, 238, 256, 277, 325, 363]) 90 ?_
        rcases (show j = 0 ∨ j = 1 ∨ j = 2 ∨ j = 3 ∨ j = 4 ∨ j = 5 ∨ j = 6 ∨ j = 7 by omega) with rfl | rfl | rfl | rfl | rfl | rfl | rfl | rfl
        · exact cb_sw_to (t := 168) rfl (b168 _ _ (by simpa using hm) hF3 hS3 hV3 rfl ht2 h)
        · exact cb_sw_to (t := 200) rfl (b200 _ _ (by simpa using hm) hF3 hS3 hV3 rfl ht2 h)
        · exact cb_sw_to (t := 219) rfl (b219 _ _ (by simpa using hm) hF3 hS3 hV3 rfl ht2 h)
        · exact cb_sw_to (t := 277) rfl (b277 _ _ hF3 hS3 hV3 rfl ht2 h)
        · exact cb_sw_to (t := 325) rfl (b325 _ _ hF3 hS3 hV3 rfl ht2 h)
        · exact cb_sw_to (t := 363) rfl (b363 _ _ hF3 hS3 hV3 rfl ht2 h)
        · exact cb_sw_to (t := 256) rfl (b256 _ _ hF3 hS3 hV3 rfl ht2 h)
        · exact cb_sw_to (t := 238) rfl (b238 _ _ hF3 hS3 hV3 rfl ht2 h)
      refine cb_run cb_tb_ok vd_X10_clause (cuts := [124]) 90 ?_
      refine And.intro (mi_v 1 (by decide)) ?_
      show cb_Gd cb_tb md_X10_clause X 124 [some (cb_r 46 0), some (cb_i (nI (mr_pm j))), some (cb_i (cb_gI M2 48 0 1 - 1)), none, none, none] [] (cb_aS n0, f) (cb_sI M2 46 0 7 (cb_gI M2 46 0 7 + 1)) 0 0
      rw [em, all_]
      exact sw
    have letters : ∀ j, j < 8 → rd_many j A = false → (∀ M', cb_fr fr_L M M' → mr_Q M' len cnt (rd_cl mt len j A e) → X.K (.inl none) (cb_aS n0, f) M') → ∀ g i M2, len - i = g → i ≤ len → cb_fr fr_R M M2 → cb_gI M2 46 0 4 = nI i → cb_gI M2 46 0 5 = 0 → cb_gI M2 46 0 6 = -1 → rd_end (rd_ls mt) len i = e → cb_Gd cb_tb md_X10_clause X 66 [some (cb_r 46 0), some (cb_i (nI (mr_pm j))), none, none, none, none] [] (cb_aS n0, f) M2 0 0 := by
      intro j hj hm h g
      have out : ∀ i M2, cb_fr fr_R M M2 → cb_gI M2 46 0 4 = nI i → cb_gI M2 46 0 5 = 0 → cb_gI M2 46 0 6 = -1 → i = e → cb_Gd cb_tb md_X10_clause X 105 [some (cb_r 46 0), some (cb_i (nI (mr_pm j))), none, none, none, none] [] (cb_aS n0, f) M2 0 0 := by
        intro i M2 hF g4 g5 g6 hie
        subst hie
        exact body j M2 hj hm hF ⟨mr_E_fr hE hF g4 hel, g5, g6⟩ h
      induction g with
      | zero =>
        intro i M2 hg hi hF g4 g5 g6 hz
        have hil : ¬ i < len := by omega
        have hie : i = e := by rw [← hz, rd_end_out (by omega)]
        refine cb_run cb_tb_ok vd_X10_clause (cuts := [66, 105]) 90 ?_
        refine And.intro (cb_on rfl) ⟨len, i, ⟨(hF.1 46 0 2 rfl).trans hE.1, hE.2.1, g4, by omega⟩, And.intro (fun q => out i M2 hF g4 g5 g6 hie) (fun q => ?_)⟩
        have q : ¬ mr_by (cb_gI M2 47 0) len i < 97 := q
        rw [show mr_by (cb_gI M2 47 0) len i = -1 from if_neg hil] at q
        exact absurd (by decide) q
      | succ g ih =>
        intro i M2 hg hi hF g4 g5 g6 hz
        have hil : i < len := by omega
        have hby : mr_by (cb_gI M2 47 0) len i = mt i := by
          rw [← ht]
          exact (if_pos hil).trans (hF.1 47 0 i rfl)
        have hB : cb_gI M2 46 0 2 = nI len ∧ len ≤ 600 ∧ cb_gI M2 46 0 4 = nI i ∧ i ≤ 1000000 := ⟨(hF.1 46 0 2 rfl).trans hE.1, hE.2.1, g4, by omega⟩
        have no : rd_ls mt i = false → i = e := fun q => by rw [← hz, rd_end_out (fun u => by rw [q] at u; cases u.2)]
        refine cb_run cb_tb_ok vd_X10_clause (cuts := [66, 105]) 90 ?_
        refine And.intro (cb_on rfl) ⟨len, i, hB, And.intro (fun q => ?_) (fun q => And.intro (cb_on rfl) ⟨len, i, hB, And.intro (fun q1 => ?_) (fun q1 => ?_)⟩)⟩
        · have q : mr_by (cb_gI M2 47 0) len i < 97 := q
          rw [hby] at q
          exact out i M2 hF g4 g5 g6 (no (decide_eq_false (fun u => u.1 q)))
        · have q1 : 122 < mr_by (cb_gI M2 47 0) len i := q1
          rw [hby] at q1
          exact out i M2 hF g4 g5 g6 (no (decide_eq_false (fun u => u.2 q1)))
        · have q : ¬ mr_by (cb_gI M2 47 0) len i < 97 := q
          have q1 : ¬ 122 < mr_by (cb_gI M2 47 0) len i := q1
          rw [hby] at q q1
          have hl : rd_ls mt i = true := decide_eq_true ⟨q, q1⟩
          show cb_Gd cb_tb md_X10_clause X 66 [some (cb_r 46 0), some (cb_i (nI (mr_pm j))), none, none, none, none] [] (cb_aS n0, f) (cb_sI M2 46 0 4 (cb_gI M2 46 0 4 + 1)) 0 0
          rw [g4, nI_1]
          exact ih (i + 1) _ (by omega) (by omega) (hF.set _ rfl) (cb_gs_eq _ _ _ _ _) g5 g6 (by rw [← hz]; exact (rd_end_in hil hl).symm)
    refine cb_run cb_tb_ok vd_X10_clause (cuts := [49, 58]) 90 ?_
    refine And.intro (cb_on rfl) ⟨len, a, ⟨hE, by rw [ht]; exact hbl, hS5⟩, fun M1 hF1' hE1 => ?_⟩
    have hF1 := hF1'.mono fr_R4_R
    have hS1 : mr_S M1 len (.inr a) := ⟨hE1, (hF1'.1 46 0 5 rfl).trans hS5, (hF1'.1 46 0 6 rfl).trans hS6⟩
    have hV1 := mr_V_R hF1 hV
    rw [ht, mr_kind, ← he]
    cases ew : rd_w mt a e with
    | none =>
      rw [ew] at h
      exact cb_ifne (fun q => absurd rfl q) (fun _ => And.intro (cb_on rfl) (mr_wr (b := a) hS1 (by decide) (fun _ _ => hE1.2.2.1) (fun M2 hF2 hS2 => dead _ M2 _ hS2 (h M2 ((hF1.trans hF2).mono fr_R_L) hS2))))
    | some j =>
      have hj := rd_w_lt ew
      rw [ew] at h
      obtain ⟨p8, p3, p3'⟩ := mr_pm_lt j hj
      have w49 : (60 ≤ cnt ∨ rd_many j A = true) → cb_Gd cb_tb md_X10_clause X 49 [some (cb_r 46 0), some (cb_i (nI (mr_pm j))), none, none, none, none] [] (cb_aS n0, f) M1 0 0 := by
        intro q
        have h : ∀ M', cb_fr fr_L M M' → mr_Q M' len cnt (if 60 ≤ cnt ∨ rd_many j A = true then .inl (3, a) else rd_cl mt len j A e) → X.K (.inl none) (cb_aS n0, f) M' := h
        rw [if_pos q] at h
        refine cb_run cb_tb_ok vd_X10_clause (cuts := [58]) 90 ?_
        exact And.intro (cb_on rfl) (mr_wr (b := a) hS1 (by decide) (fun _ _ => hE1.2.2.1) (fun M2 hF2 hS2 => dead _ M2 _ hS2 (h M2 ((hF1.trans hF2).mono fr_R_L) hS2)))
      have live : ¬ (60 ≤ cnt ∨ rd_many j A = true) → cb_Gd cb_tb md_X10_clause X 58 [some (cb_r 46 0), some (cb_i (nI (mr_pm j))), none, none, none, none] [] (cb_aS n0, f) M1 0 0 := by
        intro q
        have h : ∀ M', cb_fr fr_L M M' → mr_Q M' len cnt (if 60 ≤ cnt ∨ rd_many j A = true then .inl (3, a) else rd_cl mt len j A e) → X.K (.inl none) (cb_aS n0, f) M' := h
        rw [if_neg q] at h
        have hm : rd_many j A = false := by
          cases z : rd_many j A with
          | false => rfl
          | true => exact absurd (Or.inr z) q
        refine cb_run cb_tb_ok vd_X10_clause (cuts := [66]) 90 ?_
        exact And.intro (fun _ => letters j hj hm h _ a M1 rfl hE.2.2.2 hF1 hE1.2.2.1 hS1.2.1 hS1.2.2 he.symm) (fun q => absurd hS1.2.1 q)
      have cM1 : cb_gI M1 46 0 7 = nI cnt := (hF1'.1 46 0 7 rfl).trans hcnt
      refine cb_ifne (fun _ => And.intro (fun q => w49 (Or.inl ?_)) (fun q => And.intro (fun q1 => live ?_) (fun q1 => ?_))) (fun q => absurd q ?_)
      · have q : cb_gI M1 46 0 7 = 60 := q
        rw [cM1] at q
        have := (nI_eq (b := 60) (by omega) (by decide)).mp q
        omega
      · have q : ¬ cb_gI M1 46 0 7 = 60 := q
        rw [cM1] at q
        have q : ¬ cnt = 60 := fun w => q (by rw [w]; rfl)
        have q1 : 3 ≤ nI (mr_pm j) := q1
        have q1 := (nI_leI (a := 3) (by decide) (by omega)).mp q1
        have j3 : 3 ≤ j := by
          apply Classical.byContradiction
          intro w
          have := p3 (by omega)
          omega
        rw [mr_many3 j3]
        exact fun w => w.elim (by omega) (fun w => by cases w)
      · have q : ¬ cb_gI M1 46 0 7 = 60 := q
        rw [cM1] at q
        have q : ¬ cnt = 60 := fun w => q (by rw [w]; rfl)
        have q1 : ¬ 3 ≤ nI (mr_pm j) := q1
        have j3 : j < 3 := by
          apply Classical.byContradiction
          intro w
          exact q1 (nI_le (a := 3) (p3' (by omega)) (by omega))
        have mm := mr_many hV1 hC j3
        have pj := p3 j3
        have vj : vp_in (nI (mr_pm j)) 5 := vp_in_nI (by omega) (by decide)
        have cj : (nI (mr_pm j)).toNatClampNeg = j := by rw [pj]; exact nI_clamp (by omega)
        refine And.intro vj (And.intro trivial (cb_ifne (fun q2 => live (fun w => ?_)) (fun q2 => w49 (Or.inr ?_))))
        · have q2 : ¬ cb_gI M1 48 0 (nI (mr_pm j)).toNatClampNeg = (if nI (mr_pm j) = 0 then 4 else if nI (mr_pm j) = 1 then 8 else 6) := q2
          rw [cj, pj] at q2
          exact w.elim (by omega) (fun w => q2 (mm.mpr w))
        · have q2 : cb_gI M1 48 0 (nI (mr_pm j)).toNatClampNeg = (if nI (mr_pm j) = 0 then 4 else if nI (mr_pm j) = 1 then 8 else 6) := q2
          rw [cj, pj] at q2
          exact mm.mp q2
      · intro w
        have : ¬ nI (mr_pm j) < 0 := nI_pos (by omega)
        have w : nI (mr_pm j) = -1 := w
        rw [w] at this
        exact this (by decide)
