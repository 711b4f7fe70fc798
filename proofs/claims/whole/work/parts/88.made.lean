/-! ===== the reference is made ===== -/
def cb_w1 : Nat → Nat → Bool := cb_ab (ma_X9, none) 46 0
def cb_ls10 : List (Nat × Nat) := [(47, 0), (48, 1), (49, 2), (50, 3), (51, 4), (52, 5), (53, 6), (54, 7), (55, 8), (56, 9), (58, 18), (60, 25), (62, 34), (64, 43), (65, 44), (66, 45), (67, 46), (68, 47), (69, 48), (70, 49), (71, 50), (72, 51), (73, 52), (74, 53), (76, 455), (78, 857), (80, 861), (81, 862), (82, 863), (83, 864), (84, 865), (85, 866), (86, 867), (87, 868), (89, 969)]
def cb_lr10 : List (Nat × Nat × Nat) := [(57, 10, 8), (59, 19, 6), (61, 26, 8), (63, 35, 8), (75, 54, 401), (77, 456, 401), (79, 858, 3), (88, 869, 100)]
def cb_isS (t k : Nat) : Bool := cb_ls10.any fun q => Nat.beq q.1 t && Nat.beq q.2 k
def cb_isR (t k N : Nat) : Bool := cb_lr10.any fun q => Nat.beq q.1 t && (Nat.beq q.2.1 k && Nat.beq q.2.2 N)
def ma_X10 : Nat → Nat → Bool := cb_ab (cb_am (cb_ab (cb_ab (cb_ab (cb_ab (cb_ab (cb_ab (cb_ab (cb_am (cb_am (cb_am (cb_ab (cb_ab (cb_ab (cb_ab (cb_ab (cb_ab (cb_ab (cb_ab (cb_ab (cb_ab (cb_am (cb_am (cb_am (cb_am (cb_ab (cb_ab (cb_ab (cb_ab (cb_ab (cb_ab (cb_ab (cb_ab (cb_ab (cb_w1, none) 47 0, none) 48 0, none) 49 0, none) 50 0, none) 51 0, none) 52 0, none) 53 0, none) 54 0, none) 55 0, none) 56 57 8, none) 58 59 6, none) 60 61 8, none) 62 63 8, none) 64 0, none) 65 0, none) 66 0, none) 67 0, none) 68 0, none) 69 0, none) 70 0, none) 71 0, none) 72 0, none) 73 0, none) 74 75 401, none) 76 77 401, none) 78 79 3, none) 80 0, none) 81 0, none) 82 0, none) 83 0, none) 84 0, none) 85 0, none) 86 0, none) 87 88 100, none) 89 0
def mm_X10a : cb_M := cb_sI (cb_sR (cb_sR (cb_rr (cb_sR (cb_sR (cb_sR (cb_sI (cb_sR (cb_sR (cb_sR (cb_sR (cb_sR (cb_rr (cb_sR (cb_rr (cb_sR (cb_rr (cb_sR (cb_sR (cb_sR (cb_sR (cb_sR (cb_sR (cb_sR (cb_sR (cb_sR (cb_sR (cb_sR (cb_rr (cb_sR (cb_rr (cb_sR (cb_rr (cb_sR (cb_rr (cb_sR (cb_sR (cb_sR (cb_sR (cb_sR (cb_sR (cb_sR (cb_sR (cb_sR (cb_sI (mm_X9) 46 0 3 (-1)) 46 0 8 (some 0)) 46 0 9 (some 0)) 46 0 10 (some 0)) 46 0 11 (some 0)) 46 0 12 (some 0)) 46 0 13 (some 0)) 46 0 14 (some 0)) 46 0 15 (some 0)) 46 0 16 (some 0)) 56 8) 46 0 17 (some 0)) 58 6) 46 0 18 (some 0)) 60 8) 46 0 19 (some 0)) 62 8) 46 0 20 (some 0)) 46 0 21 (some 0)) 46 0 22 (some 0)) 46 0 23 (some 0)) 46 0 24 (some 0)) 46 0 25 (some 0)) 46 0 26 (some 0)) 46 0 27 (some 0)) 46 0 28 (some 0)) 46 0 29 (some 0)) 46 0 30 (some 0)) 74 401) 46 0 31 (some 0)) 76 401) 46 0 32 (some 0)) 78 3) 46 0 36 (some 0)) 46 0 37 (some 0)) 46 0 38 (some 0)) 46 0 39 (some 0)) 46 0 40 (some 0)) 46 0 41 255) 46 0 46 (some 0)) 46 0 47 (some 0)) 46 0 51 (some 0)) 87 100) 46 0 52 (some 0)) 46 0 53 (some 0)) 49 0 3 50
def mm_X10 : cb_M := cb_fl mm_X10a 71 0 (-2147483648) 8
def pg_X10_init (G : cb_G) : cb_PT := fun As a M K => match As with
  | [.inr (.inr (some (t, i)))] => (t = 46 ∧ i = 0) ∧ ∃ z, a = (cb_w1, some z) ∧ M = mm_X9 ∧ ((∀ k (q : Nat × Nat), q.2 = 0 → cb_isS q.1 k = true → G.ad q.1 q.2 = z + k) ∧ (∀ t k N, cb_isR t k N = true → ∀ j, j < N → G.ad t j = z + k + j)) ∧ K (.inl none) (ma_X10, some (z + 970)) mm_X10
  | _ => False
def md_X10_init : cb_D := (RX10, cX10_init, 2, none, (970, 48869, 1, 30), [
  (0, .aload_n 0, 1, 0, 0, 0, 0),
  (4, .aload_n 0, 1, 0, 0, 0, 0),
  (5, .iconst (-1), 1, (-1), 0, 0, 0),
  (9, .aload_n 0, 1, 0, 0, 0, 0),
  (10, .sipush 600, 3, 600, 0, 0, 0),
  (18, .aload_n 0, 1, 0, 0, 0, 0),
  (19, .iconst 5, 1, 5, 0, 0, 0),
  (25, .aload_n 0, 1, 0, 0, 0, 0),
  (26, .iconst 5, 1, 5, 0, 0, 0),
  (32, .aload_n 0, 1, 0, 0, 0, 0),
  (33, .iconst 4, 1, 4, 0, 0, 0),
  (39, .aload_n 0, 1, 0, 0, 0, 0),
  (40, .iconst 4, 1, 4, 0, 0, 0),
  (46, .aload_n 0, 1, 0, 0, 0, 0),
  (47, .sipush 400, 3, 400, 0, 0, 0),
  (55, .aload_n 0, 1, 0, 0, 0, 0),
  (56, .sipush 400, 3, 400, 0, 0, 0),
  (64, .aload_n 0, 1, 0, 0, 0, 0),
  (65, .bipush 8, 2, 8, 0, 0, 0),
  (72, .aload_n 0, 1, 0, 0, 0, 0),
  (73, .bipush 8, 2, 8, 0, 0, 0),
  (80, .aload_n 0, 1, 0, 0, 0, 0),
  (81, .bipush 8, 2, 8, 0, 0, 0),
  (83, .bipush 6, 2, 6, 0, 0, 0),
  (92, .aload_n 0, 1, 0, 0, 0, 0),
  (93, .bipush 6, 2, 6, 0, 0, 0),
  (95, .iconst 2, 1, 2, 0, 0, 0),
  (103, .aload_n 0, 1, 0, 0, 0, 0),
  (104, .bipush 8, 2, 8, 0, 0, 0),
  (106, .bipush 8, 2, 8, 0, 0, 0),
  (115, .aload_n 0, 1, 0, 0, 0, 0),
  (116, .bipush 8, 2, 8, 0, 0, 0),
  (118, .bipush 8, 2, 8, 0, 0, 0),
  (127, .aload_n 0, 1, 0, 0, 0, 0),
  (128, .bipush 8, 2, 8, 0, 0, 0),
  (135, .aload_n 0, 1, 0, 0, 0, 0),
  (136, .bipush 8, 2, 8, 0, 0, 0),
  (143, .aload_n 0, 1, 0, 0, 0, 0),
  (144, .bipush 8, 2, 8, 0, 0, 0),
  (151, .aload_n 0, 1, 0, 0, 0, 0),
  (152, .bipush 8, 2, 8, 0, 0, 0),
  (159, .aload_n 0, 1, 0, 0, 0, 0),
  (160, .bipush 8, 2, 8, 0, 0, 0),
  (167, .aload_n 0, 1, 0, 0, 0, 0),
  (168, .bipush 8, 2, 8, 0, 0, 0),
  (175, .aload_n 0, 1, 0, 0, 0, 0),
  (176, .bipush 8, 2, 8, 0, 0, 0),
  (183, .aload_n 0, 1, 0, 0, 0, 0),
  (184, .bipush 8, 2, 8, 0, 0, 0),
  (191, .aload_n 0, 1, 0, 0, 0, 0),
  (192, .bipush 6, 2, 6, 0, 0, 0),
  (199, .aload_n 0, 1, 0, 0, 0, 0),
  (200, .bipush 6, 2, 6, 0, 0, 0),
  (207, .aload_n 0, 1, 0, 0, 0, 0),
  (208, .sipush 401, 3, 401, 0, 0, 0),
  (211, .bipush 8, 2, 8, 0, 0, 0),
  (220, .aload_n 0, 1, 0, 0, 0, 0),
  (221, .sipush 401, 3, 401, 0, 0, 0),
  (224, .bipush 8, 2, 8, 0, 0, 0),
  (233, .aload_n 0, 1, 0, 0, 0, 0),
  (234, .iconst 3, 1, 3, 0, 0, 0),
  (235, .sipush 6469, 3, 6469, 0, 0, 0),
  (245, .aload_n 0, 1, 0, 0, 0, 0),
  (246, .bipush 8, 2, 8, 0, 0, 0),
  (253, .aload_n 0, 1, 0, 0, 0, 0),
  (254, .bipush 8, 2, 8, 0, 0, 0),
  (261, .aload_n 0, 1, 0, 0, 0, 0),
  (262, .bipush 8, 2, 8, 0, 0, 0),
  (269, .aload_n 0, 1, 0, 0, 0, 0),
  (270, .bipush 8, 2, 8, 0, 0, 0),
  (277, .aload_n 0, 1, 0, 0, 0, 0),
  (278, .sipush 255, 3, 255, 0, 0, 0),
  (284, .aload_n 0, 1, 0, 0, 0, 0),
  (285, .bipush 8, 2, 8, 0, 0, 0),
  (292, .aload_n 0, 1, 0, 0, 0, 0),
  (293, .bipush 64, 2, 64, 0, 0, 0),
  (300, .aload_n 0, 1, 0, 0, 0, 0),
  (301, .sipush 201, 3, 201, 0, 0, 0),
  (309, .aload_n 0, 1, 0, 0, 0, 0),
  (310, .bipush 100, 2, 100, 0, 0, 0),
  (312, .sipush 201, 3, 201, 0, 0, 0),
  (322, .aload_n 0, 1, 0, 0, 0, 0),
  (323, .bipush 8, 2, 8, 0, 0, 0),
  (330, .aload_n 0, 1, 0, 0, 0, 0),
  (331, .getfield 20, 3, 0, 10, 10, 1338),
  (334, .iconst 3, 1, 3, 0, 0, 0),
  (335, .bipush 50, 2, 50, 0, 0, 0),
  (337, .iastore, 1, 0, 0, 0, 0),
  (338, .iconst 0, 1, 0, 0, 0, 0),
  (339, .istore_n 1, 1, 0, 1, 0, 0),
  (340, .iload_n 1, 1, 0, 1, 0, 0),
  (341, .bipush 8, 2, 8, 0, 0, 0),
  (343, .if_icmp .ge 17, 3, 0, 360, 0, 0),
  (346, .aload_n 0, 1, 0, 0, 0, 0),
  (347, .getfield 76, 3, 0, 10, 28, 1356),
  (350, .iload_n 1, 1, 0, 1, 0, 0),
  (351, .ldc 125, 2, (-2147483648), 0, 0, 1327),
  (353, .iastore, 1, 0, 0, 0, 0),
  (354, .iinc 1 1, 3, 1, 1, 0, 0),
  (357, .goto (-17), 3, 0, 340, 0, 0),
  (360, .return_, 1, 0, 0, 0, 0)],
  [], [])
set_option maxRecDepth 100000 in
theorem vd_X10_init : md_X10_init.cd.all (cb_vE md_X10_init) = true := by decide +kernel
theorem wd_X10_init : cb_wd yX10_init md_X10_init := ⟨cb_tw (i := 1323) (by decide +kernel), cb_tw (i := 11) (by decide +kernel), by decide, by decide⟩
theorem pg_X10_to {G : cb_G} {As : List cb_V} {a : cb_A} {M : cb_M} {K : cb_Out → cb_A → cb_M → Prop} (h : pg_X10_init G As a M K) : ∃ z, As = [cb_r 46 0] ∧ a = (cb_w1, some z) ∧ M = mm_X9 ∧ ((∀ k (q : Nat × Nat), q.2 = 0 → cb_isS q.1 k = true → G.ad q.1 q.2 = z + k) ∧ (∀ t k N, cb_isR t k N = true → ∀ j, j < N → G.ad t j = z + k + j)) ∧ K (.inl none) (ma_X10, some (z + 970)) mm_X10 := by
  unfold pg_X10_init at h
  split at h
  · obtain ⟨⟨rfl, rfl⟩, z, h⟩ := h
    exact ⟨z, rfl, h⟩
  · exact h.elim
set_option maxRecDepth 100000 in
set_option maxHeartbeats 4000000 in
theorem ok_X10_init : cb_MG yX10_init md_X10_init pg_X10_init := by
  refine cb_ofg ⟨plainFor_of_name (by decide), rfl⟩ (fun G As a M K h => ?_) rfl (by decide) (fun X As a M h hE hl0 hnm => ?_)
  · obtain ⟨z, rfl, -⟩ := pg_X10_to h
    exact (by decide : 1 ≤ 2)
  · obtain ⟨z, rfl, rfl, rfl, ⟨hly', hlr⟩, h⟩ := pg_X10_to h
    have hly : ∀ k (q : Nat × Nat), (cb_isS q.1 k && Nat.beq q.2 0) = true → X.G.ad q.1 q.2 = z + k := fun k q w => by
      rw [Bool.and_eq_true] at w
      exact hly' k q (Nat.eq_of_beq_eq_true w.2) w.1
    have hin : X.meth.name = "<init>" := hnm
    have loop : ∀ k, k ≤ 8 → cb_Gd cb_sd md_X10_init X 340 [some (cb_r 46 0), some (cb_i (nI k))] [] (ma_X10, some (z + 970)) (cb_fl mm_X10a 71 0 (-2147483648) k) 970 48869 := by
      refine cb_up (fun k => cb_Gd cb_sd md_X10_init X 340 [some (cb_r 46 0), some (cb_i (nI k))] [] (ma_X10, some (z + 970)) (cb_fl mm_X10a 71 0 (-2147483648) k) 970 48869) ?_ ?_
      · refine cb_run cb_sd_ok vd_X10_init (cuts := [340]) 20 ?_
        exact cb_lout (n := 8) (N := 8) rfl rfl (And.intro rfl h)
      · intro k hk ih
        have vk : vp_in (nI k) 8 := vp_in_nI hk (by decide)
        have ck : (nI k).toNatClampNeg = k := nI_clamp (by omega)
        refine cb_run cb_sd_ok vd_X10_init (cuts := [340]) 20 ?_
        refine cb_lin (n := 8) (N := 8) rfl rfl hk (by decide) (Exists.intro (some 0) (And.intro rfl (And.intro vk ?_)))
        show cb_Gd cb_sd md_X10_init X 340 [some (cb_r 46 0), some (cb_i (nI k + 1))] [] (ma_X10, some (z + 970)) (cb_sI (cb_fl mm_X10a 71 0 (-2147483648) k) 71 0 (nI k).toNatClampNeg (-2147483648)) 970 48869
        rw [ck, cb_fl_succ, nI_1]
        exact ih
    refine cb_run cb_sd_ok vd_X10_init (cuts := [1, 6, 13, 15, 20, 22, 27, 29, 34, 36, 41, 43, 50, 52, 59, 61, 67, 69, 75, 77, 85, 89, 96, 100, 108, 112, 120, 124, 130, 132, 138, 140, 146, 148, 154, 156, 162, 164, 170, 172, 178, 180, 186, 188, 194, 196, 202, 204, 213, 217, 226, 230, 238, 242, 248, 250, 256, 258, 264, 266, 272, 274, 281, 287, 289, 295, 297, 304, 306, 315, 319, 325, 327, 330, 340]) 20 ?_
    refine ct_obj (idx := 1) (by decide +kernel) (cb_tw (i := 1324) (by decide +kernel)) (cb_tw (i := 31) (by decide +kernel)) (cb_tw (i := 32) (by decide +kernel)) ⟨rfl, rfl, rfl⟩ (by decide) (by decide) (by decide) ?_
    refine cb_run cb_sd_ok vd_X10_init (cuts := [1, 6, 13, 15, 20, 22, 27, 29, 34, 36, 41, 43, 50, 52, 59, 61, 67, 69, 75, 77, 85, 89, 96, 100, 108, 112, 120, 124, 130, 132, 138, 140, 146, 148, 154, 156, 162, 164, 170, 172, 178, 180, 186, 188, 194, 196, 202, 204, 213, 217, 226, 230, 238, 242, 248, 250, 256, 258, 264, 266, 272, 274, 281, 287, 289, 295, 297, 304, 306, 315, 319, 325, 327, 330, 340]) 20 ?_
    refine ct_put (idx := 9) (t := 46) (i := 0) (j := 3) (ed := 1331) rfl rfl rfl (by decide) (by decide +kernel) rfl rfl (by decide +kernel) ?_
    refine cb_run cb_sd_ok vd_X10_init (cuts := [1, 6, 13, 15, 20, 22, 27, 29, 34, 36, 41, 43, 50, 52, 59, 61, 67, 69, 75, 77, 85, 89, 96, 100, 108, 112, 120, 124, 130, 132, 138, 140, 146, 148, 154, 156, 162, 164, 170, 172, 178, 180, 186, 188, 194, 196, 202, 204, 213, 217, 226, 230, 238, 242, 248, 250, 256, 258, 264, 266, 272, 274, 281, 287, 289, 295, 297, 304, 306, 315, 319, 325, 327, 330, 340]) 20 ?_
    refine ct_newa (aty := .int) (t := 47) (i := 0) (z := z + 0) (N := 600) (kd := 0) rfl (hly 0 (47, 0) rfl) rfl (by decide) rfl rfl (fun _ w => by cases w) ⟨cb_tw (i := 161) (by decide +kernel), rfl⟩ rfl (by decide) (by decide) (fun j => rfl) (by decide) (by decide) (by decide +kernel) ?_
    refine ct_putF (idx := 13) (t := 46) (i := 0) (j := 8) (ed := 1336) hin rfl rfl rfl (by decide) (by decide +kernel) rfl rfl rfl (by decide +kernel) ?_
    refine cb_run cb_sd_ok vd_X10_init (cuts := [1, 6, 13, 15, 20, 22, 27, 29, 34, 36, 41, 43, 50, 52, 59, 61, 67, 69, 75, 77, 85, 89, 96, 100, 108, 112, 120, 124, 130, 132, 138, 140, 146, 148, 154, 156, 162, 164, 170, 172, 178, 180, 186, 188, 194, 196, 202, 204, 213, 217, 226, 230, 238, 242, 248, 250, 256, 258, 264, 266, 272, 274, 281, 287, 289, 295, 297, 304, 306, 315, 319, 325, 327, 330, 340]) 20 ?_
    refine ct_newa (aty := .int) (t := 48) (i := 0) (z := z + 1) (N := 5) (kd := 0) rfl (hly 1 (48, 0) rfl) rfl (by decide) rfl rfl (fun _ w => by cases w) ⟨cb_tw (i := 161) (by decide +kernel), rfl⟩ rfl (by decide) (by decide) (fun j => rfl) (by decide) (by decide) (by decide +kernel) ?_
    refine ct_putF (idx := 17) (t := 46) (i := 0) (j := 9) (ed := 1337) hin rfl rfl rfl (by decide) (by decide +kernel) rfl rfl rfl (by decide +kernel) ?_
    refine cb_run cb_sd_ok vd_X10_init (cuts := [1, 6, 13, 15, 20, 22, 27, 29, 34, 36, 41, 43, 50, 52, 59, 61, 67, 69, 75, 77, 85, 89, 96, 100, 108, 112, 120, 124, 130, 132, 138, 140, 146, 148, 154, 156, 162, 164, 170, 172, 178, 180, 186, 188, 194, 196, 202, 204, 213, 217, 226, 230, 238, 242, 248, 250, 256, 258, 264, 266, 272, 274, 281, 287, 289, 295, 297, 304, 306, 315, 319, 325, 327, 330, 340]) 20 ?_
    refine ct_newa (aty := .int) (t := 49) (i := 0) (z := z + 2) (N := 5) (kd := 0) rfl (hly 2 (49, 0) rfl) rfl (by decide) rfl rfl (fun _ w => by cases w) ⟨cb_tw (i := 161) (by decide +kernel), rfl⟩ rfl (by decide) (by decide) (fun j => rfl) (by decide) (by decide) (by decide +kernel) ?_
    refine ct_putF (idx := 20) (t := 46) (i := 0) (j := 10) (ed := 1338) hin rfl rfl rfl (by decide) (by decide +kernel) rfl rfl rfl (by decide +kernel) ?_
    refine cb_run cb_sd_ok vd_X10_init (cuts := [1, 6, 13, 15, 20, 22, 27, 29, 34, 36, 41, 43, 50, 52, 59, 61, 67, 69, 75, 77, 85, 89, 96, 100, 108, 112, 120, 124, 130, 132, 138, 140, 146, 148, 154, 156, 162, 164, 170, 172, 178, 180, 186, 188, 194, 196, 202, 204, 213, 217, 226, 230, 238, 242, 248, 250, 256, 258, 264, 266, 272, 274, 281, 287, 289, 295, 297, 304, 306, 315, 319, 325, 327, 330, 340]) 20 ?_
    refine ct_newa (aty := .int) (t := 50) (i := 0) (z := z + 3) (N := 4) (kd := 0) rfl (hly 3 (50, 0) rfl) rfl (by decide) rfl rfl (fun _ w => by cases w) ⟨cb_tw (i := 161) (by decide +kernel), rfl⟩ rfl (by decide) (by decide) (fun j => rfl) (by decide) (by decide) (by decide +kernel) ?_
    refine ct_putF (idx := 23) (t := 46) (i := 0) (j := 11) (ed := 1339) hin rfl rfl rfl (by decide) (by decide +kernel) rfl rfl rfl (by decide +kernel) ?_
    refine cb_run cb_sd_ok vd_X10_init (cuts := [1, 6, 13, 15, 20, 22, 27, 29, 34, 36, 41, 43, 50, 52, 59, 61, 67, 69, 75, 77, 85, 89, 96, 100, 108, 112, 120, 124, 130, 132, 138, 140, 146, 148, 154, 156, 162, 164, 170, 172, 178, 180, 186, 188, 194, 196, 202, 204, 213, 217, 226, 230, 238, 242, 248, 250, 256, 258, 264, 266, 272, 274, 281, 287, 289, 295, 297, 304, 306, 315, 319, 325, 327, 330, 340]) 20 ?_
    refine ct_newa (aty := .int) (t := 51) (i := 0) (z := z + 4) (N := 4) (kd := 0) rfl (hly 4 (51, 0) rfl) rfl (by decide) rfl rfl (fun _ w => by cases w) ⟨cb_tw (i := 161) (by decide +kernel), rfl⟩ rfl (by decide) (by decide) (fun j => rfl) (by decide) (by decide) (by decide +kernel) ?_
    refine ct_putF (idx := 26) (t := 46) (i := 0) (j := 12) (ed := 1340) hin rfl rfl rfl (by decide) (by decide +kernel) rfl rfl rfl (by decide +kernel) ?_
    refine cb_run cb_sd_ok vd_X10_init (cuts := [1, 6, 13, 15, 20, 22, 27, 29, 34, 36, 41, 43, 50, 52, 59, 61, 67, 69, 75, 77, 85, 89, 96, 100, 108, 112, 120, 124, 130, 132, 138, 140, 146, 148, 154, 156, 162, 164, 170, 172, 178, 180, 186, 188, 194, 196, 202, 204, 213, 217, 226, 230, 238, 242, 248, 250, 256, 258, 264, 266, 272, 274, 281, 287, 289, 295, 297, 304, 306, 315, 319, 325, 327, 330, 340]) 20 ?_
    refine ct_newa (aty := .int) (t := 52) (i := 0) (z := z + 5) (N := 400) (kd := 0) rfl (hly 5 (52, 0) rfl) rfl (by decide) rfl rfl (fun _ w => by cases w) ⟨cb_tw (i := 161) (by decide +kernel), rfl⟩ rfl (by decide) (by decide) (fun j => rfl) (by decide) (by decide) (by decide +kernel) ?_
    refine ct_putF (idx := 29) (t := 46) (i := 0) (j := 13) (ed := 1341) hin rfl rfl rfl (by decide) (by decide +kernel) rfl rfl rfl (by decide +kernel) ?_
    refine cb_run cb_sd_ok vd_X10_init (cuts := [1, 6, 13, 15, 20, 22, 27, 29, 34, 36, 41, 43, 50, 52, 59, 61, 67, 69, 75, 77, 85, 89, 96, 100, 108, 112, 120, 124, 130, 132, 138, 140, 146, 148, 154, 156, 162, 164, 170, 172, 178, 180, 186, 188, 194, 196, 202, 204, 213, 217, 226, 230, 238, 242, 248, 250, 256, 258, 264, 266, 272, 274, 281, 287, 289, 295, 297, 304, 306, 315, 319, 325, 327, 330, 340]) 20 ?_
    refine ct_newa (aty := .int) (t := 53) (i := 0) (z := z + 6) (N := 400) (kd := 0) rfl (hly 6 (53, 0) rfl) rfl (by decide) rfl rfl (fun _ w => by cases w) ⟨cb_tw (i := 161) (by decide +kernel), rfl⟩ rfl (by decide) (by decide) (fun j => rfl) (by decide) (by decide) (by decide +kernel) ?_
    refine ct_putF (idx := 32) (t := 46) (i := 0) (j := 14) (ed := 1342) hin rfl rfl rfl (by decide) (by decide +kernel) rfl rfl rfl (by decide +kernel) ?_
    refine cb_run cb_sd_ok vd_X10_init (cuts := [1, 6, 13, 15, 20, 22, 27, 29, 34, 36, 41, 43, 50, 52, 59, 61, 67, 69, 75, 77, 85, 89, 96, 100, 108, 112, 120, 124, 130, 132, 138, 140, 146, 148, 154, 156, 162, 164, 170, 172, 178, 180, 186, 188, 194, 196, 202, 204, 213, 217, 226, 230, 238, 242, 248, 250, 256, 258, 264, 266, 272, 274, 281, 287, 289, 295, 297, 304, 306, 315, 319, 325, 327, 330, 340]) 20 ?_
    refine ct_newa (aty := .int) (t := 54) (i := 0) (z := z + 7) (N := 8) (kd := 0) rfl (hly 7 (54, 0) rfl) rfl (by decide) rfl rfl (fun _ w => by cases w) ⟨cb_tw (i := 161) (by decide +kernel), rfl⟩ rfl (by decide) (by decide) (fun j => rfl) (by decide) (by decide) (by decide +kernel) ?_
    refine ct_putF (idx := 35) (t := 46) (i := 0) (j := 15) (ed := 1343) hin rfl rfl rfl (by decide) (by decide +kernel) rfl rfl rfl (by decide +kernel) ?_
    refine cb_run cb_sd_ok vd_X10_init (cuts := [1, 6, 13, 15, 20, 22, 27, 29, 34, 36, 41, 43, 50, 52, 59, 61, 67, 69, 75, 77, 85, 89, 96, 100, 108, 112, 120, 124, 130, 132, 138, 140, 146, 148, 154, 156, 162, 164, 170, 172, 178, 180, 186, 188, 194, 196, 202, 204, 213, 217, 226, 230, 238, 242, 248, 250, 256, 258, 264, 266, 272, 274, 281, 287, 289, 295, 297, 304, 306, 315, 319, 325, 327, 330, 340]) 20 ?_
    refine ct_newa (aty := .int) (t := 55) (i := 0) (z := z + 8) (N := 8) (kd := 0) rfl (hly 8 (55, 0) rfl) rfl (by decide) rfl rfl (fun _ w => by cases w) ⟨cb_tw (i := 161) (by decide +kernel), rfl⟩ rfl (by decide) (by decide) (fun j => rfl) (by decide) (by decide) (by decide +kernel) ?_
    refine ct_putF (idx := 38) (t := 46) (i := 0) (j := 16) (ed := 1344) hin rfl rfl rfl (by decide) (by decide +kernel) rfl rfl rfl (by decide +kernel) ?_
    refine cb_run cb_sd_ok vd_X10_init (cuts := [1, 6, 13, 15, 20, 22, 27, 29, 34, 36, 41, 43, 50, 52, 59, 61, 67, 69, 75, 77, 85, 89, 96, 100, 108, 112, 120, 124, 130, 132, 138, 140, 146, 148, 154, 156, 162, 164, 170, 172, 178, 180, 186, 188, 194, 196, 202, 204, 213, 217, 226, 230, 238, 242, 248, 250, 256, 258, 264, 266, 272, 274, 281, 287, 289, 295, 297, 304, 306, 315, 319, 325, 327, 330, 340]) 20 ?_
    refine ct_mna (t := 56) (tr := 57) (z := z + 9) (N := 8) (K := 6) (idx := 41) hE rfl (hly 9 (56, 0) rfl) (fun j hj => hlr 57 10 8 (by decide) j hj) (by decide) rfl rfl rfl (fun _ => rfl) (fun _ => rfl) (fun _ => rfl) rfl ⟨cb_tw (i := 1325) (by decide +kernel), rfl⟩ ⟨cb_tw (i := 161) (by decide +kernel), rfl⟩ rfl rfl (by decide) (by decide) (fun j => ⟨rfl, rfl, rfl⟩) (fun i _ j => ⟨rfl, rfl, rfl⟩) (by decide) (by decide) (by decide +kernel) ?_
    refine ct_putF (idx := 43) (t := 46) (i := 0) (j := 17) (ed := 1345) hin rfl rfl rfl (by decide) (by decide +kernel) rfl rfl rfl (by decide +kernel) ?_
    refine cb_run cb_sd_ok vd_X10_init (cuts := [1, 6, 13, 15, 20, 22, 27, 29, 34, 36, 41, 43, 50, 52, 59, 61, 67, 69, 75, 77, 85, 89, 96, 100, 108, 112, 120, 124, 130, 132, 138, 140, 146, 148, 154, 156, 162, 164, 170, 172, 178, 180, 186, 188, 194, 196, 202, 204, 213, 217, 226, 230, 238, 242, 248, 250, 256, 258, 264, 266, 272, 274, 281, 287, 289, 295, 297, 304, 306, 315, 319, 325, 327, 330, 340]) 20 ?_
    refine ct_mna (t := 58) (tr := 59) (z := z + 18) (N := 6) (K := 2) (idx := 41) hE rfl (hly 18 (58, 0) rfl) (fun j hj => hlr 59 19 6 (by decide) j hj) (by decide) rfl rfl rfl (fun _ => rfl) (fun _ => rfl) (fun _ => rfl) rfl ⟨cb_tw (i := 1325) (by decide +kernel), rfl⟩ ⟨cb_tw (i := 161) (by decide +kernel), rfl⟩ rfl rfl (by decide) (by decide) (fun j => ⟨rfl, rfl, rfl⟩) (fun i _ j => ⟨rfl, rfl, rfl⟩) (by decide) (by decide) (by decide +kernel) ?_
    refine ct_putF (idx := 46) (t := 46) (i := 0) (j := 18) (ed := 1346) hin rfl rfl rfl (by decide) (by decide +kernel) rfl rfl rfl (by decide +kernel) ?_
    refine cb_run cb_sd_ok vd_X10_init (cuts := [1, 6, 13, 15, 20, 22, 27, 29, 34, 36, 41, 43, 50, 52, 59, 61, 67, 69, 75, 77, 85, 89, 96, 100, 108, 112, 120, 124, 130, 132, 138, 140, 146, 148, 154, 156, 162, 164, 170, 172, 178, 180, 186, 188, 194, 196, 202, 204, 213, 217, 226, 230, 238, 242, 248, 250, 256, 258, 264, 266, 272, 274, 281, 287, 289, 295, 297, 304, 306, 315, 319, 325, 327, 330, 340]) 20 ?_
    refine ct_mna (t := 60) (tr := 61) (z := z + 25) (N := 8) (K := 8) (idx := 41) hE rfl (hly 25 (60, 0) rfl) (fun j hj => hlr 61 26 8 (by decide) j hj) (by decide) rfl rfl rfl (fun _ => rfl) (fun _ => rfl) (fun _ => rfl) rfl ⟨cb_tw (i := 1325) (by decide +kernel), rfl⟩ ⟨cb_tw (i := 161) (by decide +kernel), rfl⟩ rfl rfl (by decide) (by decide) (fun j => ⟨rfl, rfl, rfl⟩) (fun i _ j => ⟨rfl, rfl, rfl⟩) (by decide) (by decide) (by decide +kernel) ?_
    refine ct_putF (idx := 49) (t := 46) (i := 0) (j := 19) (ed := 1347) hin rfl rfl rfl (by decide) (by decide +kernel) rfl rfl rfl (by decide +kernel) ?_
    refine cb_run cb_sd_ok vd_X10_init (cuts := [1, 6, 13, 15, 20, 22, 27, 29, 34, 36, 41, 43, 50, 52, 59, 61, 67, 69, 75, 77, 85, 89, 96, 100, 108, 112, 120, 124, 130, 132, 138, 140, 146, 148, 154, 156, 162, 164, 170, 172, 178, 180, 186, 188, 194, 196, 202, 204, 213, 217, 226, 230, 238, 242, 248, 250, 256, 258, 264, 266, 272, 274, 281, 287, 289, 295, 297, 304, 306, 315, 319, 325, 327, 330, 340]) 20 ?_
    refine ct_mna (t := 62) (tr := 63) (z := z + 34) (N := 8) (K := 8) (idx := 41) hE rfl (hly 34 (62, 0) rfl) (fun j hj => hlr 63 35 8 (by decide) j hj) (by decide) rfl rfl rfl (fun _ => rfl) (fun _ => rfl) (fun _ => rfl) rfl ⟨cb_tw (i := 1325) (by decide +kernel), rfl⟩ ⟨cb_tw (i := 161) (by decide +kernel), rfl⟩ rfl rfl (by decide) (by decide) (fun j => ⟨rfl, rfl, rfl⟩) (fun i _ j => ⟨rfl, rfl, rfl⟩) (by decide) (by decide) (by decide +kernel) ?_
    refine ct_putF (idx := 52) (t := 46) (i := 0) (j := 20) (ed := 1348) hin rfl rfl rfl (by decide) (by decide +kernel) rfl rfl rfl (by decide +kernel) ?_
    refine cb_run cb_sd_ok vd_X10_init (cuts := [1, 6, 13, 15, 20, 22, 27, 29, 34, 36, 41, 43, 50, 52, 59, 61, 67, 69, 75, 77, 85, 89, 96, 100, 108, 112, 120, 124, 130, 132, 138, 140, 146, 148, 154, 156, 162, 164, 170, 172, 178, 180, 186, 188, 194, 196, 202, 204, 213, 217, 226, 230, 238, 242, 248, 250, 256, 258, 264, 266, 272, 274, 281, 287, 289, 295, 297, 304, 306, 315, 319, 325, 327, 330, 340]) 20 ?_
    refine ct_newa (aty := .int) (t := 64) (i := 0) (z := z + 43) (N := 8) (kd := 0) rfl (hly 43 (64, 0) rfl) rfl (by decide) rfl rfl (fun _ w => by cases w) ⟨cb_tw (i := 161) (by decide +kernel), rfl⟩ rfl (by decide) (by decide) (fun j => rfl) (by decide) (by decide) (by decide +kernel) ?_
    refine ct_putF (idx := 55) (t := 46) (i := 0) (j := 21) (ed := 1349) hin rfl rfl rfl (by decide) (by decide +kernel) rfl rfl rfl (by decide +kernel) ?_
    refine cb_run cb_sd_ok vd_X10_init (cuts := [1, 6, 13, 15, 20, 22, 27, 29, 34, 36, 41, 43, 50, 52, 59, 61, 67, 69, 75, 77, 85, 89, 96, 100, 108, 112, 120, 124, 130, 132, 138, 140, 146, 148, 154, 156, 162, 164, 170, 172, 178, 180, 186, 188, 194, 196, 202, 204, 213, 217, 226, 230, 238, 242, 248, 250, 256, 258, 264, 266, 272, 274, 281, 287, 289, 295, 297, 304, 306, 315, 319, 325, 327, 330, 340]) 20 ?_
    refine ct_newa (aty := .int) (t := 65) (i := 0) (z := z + 44) (N := 8) (kd := 0) rfl (hly 44 (65, 0) rfl) rfl (by decide) rfl rfl (fun _ w => by cases w) ⟨cb_tw (i := 161) (by decide +kernel), rfl⟩ rfl (by decide) (by decide) (fun j => rfl) (by decide) (by decide) (by decide +kernel) ?_
    refine ct_putF (idx := 58) (t := 46) (i := 0) (j := 22) (ed := 1350) hin rfl rfl rfl (by decide) (by decide +kernel) rfl rfl rfl (by decide +kernel) ?_
    refine cb_run cb_sd_ok vd_X10_init (cuts := [1, 6, 13, 15, 20, 22, 27, 29, 34, 36, 41, 43, 50, 52, 59, 61, 67, 69, 75, 77, 85, 89, 96, 100, 108, 112, 120, 124, 130, 132, 138, 140, 146, 148, 154, 156, 162, 164, 170, 172, 178, 180, 186, 188, 194, 196, 202, 204, 213, 217, 226, 230, 238, 242, 248, 250, 256, 258, 264, 266, 272, 274, 281, 287, 289, 295, 297, 304, 306, 315, 319, 325, 327, 330, 340]) 20 ?_
    refine ct_newa (aty := .int) (t := 66) (i := 0) (z := z + 45) (N := 8) (kd := 0) rfl (hly 45 (66, 0) rfl) rfl (by decide) rfl rfl (fun _ w => by cases w) ⟨cb_tw (i := 161) (by decide +kernel), rfl⟩ rfl (by decide) (by decide) (fun j => rfl) (by decide) (by decide) (by decide +kernel) ?_
    refine ct_putF (idx := 61) (t := 46) (i := 0) (j := 23) (ed := 1351) hin rfl rfl rfl (by decide) (by decide +kernel) rfl rfl rfl (by decide +kernel) ?_
    refine cb_run cb_sd_ok vd_X10_init (cuts := [1, 6, 13, 15, 20, 22, 27, 29, 34, 36, 41, 43, 50, 52, 59, 61, 67, 69, 75, 77, 85, 89, 96, 100, 108, 112, 120, 124, 130, 132, 138, 140, 146, 148, 154, 156, 162, 164, 170, 172, 178, 180, 186, 188, 194, 196, 202, 204, 213, 217, 226, 230, 238, 242, 248, 250, 256, 258, 264, 266, 272, 274, 281, 287, 289, 295, 297, 304, 306, 315, 319, 325, 327, 330, 340]) 20 ?_
    refine ct_newa (aty := .int) (t := 67) (i := 0) (z := z + 46) (N := 8) (kd := 0) rfl (hly 46 (67, 0) rfl) rfl (by decide) rfl rfl (fun _ w => by cases w) ⟨cb_tw (i := 161) (by decide +kernel), rfl⟩ rfl (by decide) (by decide) (fun j => rfl) (by decide) (by decide) (by decide +kernel) ?_
    refine ct_putF (idx := 64) (t := 46) (i := 0) (j := 24) (ed := 1352) hin rfl rfl rfl (by decide) (by decide +kernel) rfl rfl rfl (by decide +kernel) ?_
    refine cb_run cb_sd_ok vd_X10_init (cuts := [1, 6, 13, 15, 20, 22, 27, 29, 34, 36, 41, 43, 50, 52, 59, 61, 67, 69, 75, 77, 85, 89, 96, 100, 108, 112, 120, 124, 130, 132, 138, 140, 146, 148, 154, 156, 162, 164, 170, 172, 178, 180, 186, 188, 194, 196, 202, 204, 213, 217, 226, 230, 238, 242, 248, 250, 256, 258, 264, 266, 272, 274, 281, 287, 289, 295, 297, 304, 306, 315, 319, 325, 327, 330, 340]) 20 ?_
    refine ct_newa (aty := .int) (t := 68) (i := 0) (z := z + 47) (N := 8) (kd := 0) rfl (hly 47 (68, 0) rfl) rfl (by decide) rfl rfl (fun _ w => by cases w) ⟨cb_tw (i := 161) (by decide +kernel), rfl⟩ rfl (by decide) (by decide) (fun j => rfl) (by decide) (by decide) (by decide +kernel) ?_
    refine ct_putF (idx := 67) (t := 46) (i := 0) (j := 25) (ed := 1353) hin rfl rfl rfl (by decide) (by decide +kernel) rfl rfl rfl (by decide +kernel) ?_
    refine cb_run cb_sd_ok vd_X10_init (cuts := [1, 6, 13, 15, 20, 22, 27, 29, 34, 36, 41, 43, 50, 52, 59, 61, 67, 69, 75, 77, 85, 89, 96, 100, 108, 112, 120, 124, 130, 132, 138, 140, 146, 148, 154, 156, 162, 164, 170, 172, 178, 180, 186, 188, 194, 196, 202, 204, 213, 217, 226, 230, 238, 242, 248, 250, 256, 258, 264, 266, 272, 274, 281, 287, 289, 295, 297, 304, 306, 315, 319, 325, 327, 330, 340]) 20 ?_
    refine ct_newa (aty := .int) (t := 69) (i := 0) (z := z + 48) (N := 8) (kd := 0) rfl (hly 48 (69, 0) rfl) rfl (by decide) rfl rfl (fun _ w => by cases w) ⟨cb_tw (i := 161) (by decide +kernel), rfl⟩ rfl (by decide) (by decide) (fun j => rfl) (by decide) (by decide) (by decide +kernel) ?_
    refine ct_putF (idx := 70) (t := 46) (i := 0) (j := 26) (ed := 1354) hin rfl rfl rfl (by decide) (by decide +kernel) rfl rfl rfl (by decide +kernel) ?_
    refine cb_run cb_sd_ok vd_X10_init (cuts := [1, 6, 13, 15, 20, 22, 27, 29, 34, 36, 41, 43, 50, 52, 59, 61, 67, 69, 75, 77, 85, 89, 96, 100, 108, 112, 120, 124, 130, 132, 138, 140, 146, 148, 154, 156, 162, 164, 170, 172, 178, 180, 186, 188, 194, 196, 202, 204, 213, 217, 226, 230, 238, 242, 248, 250, 256, 258, 264, 266, 272, 274, 281, 287, 289, 295, 297, 304, 306, 315, 319, 325, 327, 330, 340]) 20 ?_
    refine ct_newa (aty := .int) (t := 70) (i := 0) (z := z + 49) (N := 8) (kd := 0) rfl (hly 49 (70, 0) rfl) rfl (by decide) rfl rfl (fun _ w => by cases w) ⟨cb_tw (i := 161) (by decide +kernel), rfl⟩ rfl (by decide) (by decide) (fun j => rfl) (by decide) (by decide) (by decide +kernel) ?_
    refine ct_putF (idx := 73) (t := 46) (i := 0) (j := 27) (ed := 1355) hin rfl rfl rfl (by decide) (by decide +kernel) rfl rfl rfl (by decide +kernel) ?_
    refine cb_run cb_sd_ok vd_X10_init (cuts := [1, 6, 13, 15, 20, 22, 27, 29, 34, 36, 41, 43, 50, 52, 59, 61, 67, 69, 75, 77, 85, 89, 96, 100, 108, 112, 120, 124, 130, 132, 138, 140, 146, 148, 154, 156, 162, 164, 170, 172, 178, 180, 186, 188, 194, 196, 202, 204, 213, 217, 226, 230, 238, 242, 248, 250, 256, 258, 264, 266, 272, 274, 281, 287, 289, 295, 297, 304, 306, 315, 319, 325, 327, 330, 340]) 20 ?_
    refine ct_newa (aty := .int) (t := 71) (i := 0) (z := z + 50) (N := 8) (kd := 0) rfl (hly 50 (71, 0) rfl) rfl (by decide) rfl rfl (fun _ w => by cases w) ⟨cb_tw (i := 161) (by decide +kernel), rfl⟩ rfl (by decide) (by decide) (fun j => rfl) (by decide) (by decide) (by decide +kernel) ?_
    refine ct_putF (idx := 76) (t := 46) (i := 0) (j := 28) (ed := 1356) hin rfl rfl rfl (by decide) (by decide +kernel) rfl rfl rfl (by decide +kernel) ?_
    refine cb_run cb_sd_ok vd_X10_init (cuts := [1, 6, 13, 15, 20, 22, 27, 29, 34, 36, 41, 43, 50, 52, 59, 61, 67, 69, 75, 77, 85, 89, 96, 100, 108, 112, 120, 124, 130, 132, 138, 140, 146, 148, 154, 156, 162, 164, 170, 172, 178, 180, 186, 188, 194, 196, 202, 204, 213, 217, 226, 230, 238, 242, 248, 250, 256, 258, 264, 266, 272, 274, 281, 287, 289, 295, 297, 304, 306, 315, 319, 325, 327, 330, 340]) 20 ?_
    refine ct_newa (aty := .int) (t := 72) (i := 0) (z := z + 51) (N := 6) (kd := 0) rfl (hly 51 (72, 0) rfl) rfl (by decide) rfl rfl (fun _ w => by cases w) ⟨cb_tw (i := 161) (by decide +kernel), rfl⟩ rfl (by decide) (by decide) (fun j => rfl) (by decide) (by decide) (by decide +kernel) ?_
    refine ct_putF (idx := 79) (t := 46) (i := 0) (j := 29) (ed := 1357) hin rfl rfl rfl (by decide) (by decide +kernel) rfl rfl rfl (by decide +kernel) ?_
    refine cb_run cb_sd_ok vd_X10_init (cuts := [1, 6, 13, 15, 20, 22, 27, 29, 34, 36, 41, 43, 50, 52, 59, 61, 67, 69, 75, 77, 85, 89, 96, 100, 108, 112, 120, 124, 130, 132, 138, 140, 146, 148, 154, 156, 162, 164, 170, 172, 178, 180, 186, 188, 194, 196, 202, 204, 213, 217, 226, 230, 238, 242, 248, 250, 256, 258, 264, 266, 272, 274, 281, 287, 289, 295, 297, 304, 306, 315, 319, 325, 327, 330, 340]) 20 ?_
    refine ct_newa (aty := .int) (t := 73) (i := 0) (z := z + 52) (N := 6) (kd := 0) rfl (hly 52 (73, 0) rfl) rfl (by decide) rfl rfl (fun _ w => by cases w) ⟨cb_tw (i := 161) (by decide +kernel), rfl⟩ rfl (by decide) (by decide) (fun j => rfl) (by decide) (by decide) (by decide +kernel) ?_
    refine ct_putF (idx := 82) (t := 46) (i := 0) (j := 30) (ed := 1358) hin rfl rfl rfl (by decide) (by decide +kernel) rfl rfl rfl (by decide +kernel) ?_
    refine cb_run cb_sd_ok vd_X10_init (cuts := [1, 6, 13, 15, 20, 22, 27, 29, 34, 36, 41, 43, 50, 52, 59, 61, 67, 69, 75, 77, 85, 89, 96, 100, 108, 112, 120, 124, 130, 132, 138, 140, 146, 148, 154, 156, 162, 164, 170, 172, 178, 180, 186, 188, 194, 196, 202, 204, 213, 217, 226, 230, 238, 242, 248, 250, 256, 258, 264, 266, 272, 274, 281, 287, 289, 295, 297, 304, 306, 315, 319, 325, 327, 330, 340]) 20 ?_
    refine ct_mna (t := 74) (tr := 75) (z := z + 53) (N := 401) (K := 8) (idx := 41) hE rfl (hly 53 (74, 0) rfl) (fun j hj => hlr 75 54 401 (by decide) j hj) (by decide) rfl rfl rfl (fun _ => rfl) (fun _ => rfl) (fun _ => rfl) rfl ⟨cb_tw (i := 1325) (by decide +kernel), rfl⟩ ⟨cb_tw (i := 161) (by decide +kernel), rfl⟩ rfl rfl (by decide) (by decide) (fun j => ⟨rfl, rfl, rfl⟩) (fun i _ j => ⟨rfl, rfl, rfl⟩) (by decide) (by decide) (by decide +kernel) ?_
    refine ct_putF (idx := 85) (t := 46) (i := 0) (j := 31) (ed := 1359) hin rfl rfl rfl (by decide) (by decide +kernel) rfl rfl rfl (by decide +kernel) ?_
    refine cb_run cb_sd_ok vd_X10_init (cuts := [1, 6, 13, 15, 20, 22, 27, 29, 34, 36, 41, 43, 50, 52, 59, 61, 67, 69, 75, 77, 85, 89, 96, 100, 108, 112, 120, 124, 130, 132, 138, 140, 146, 148, 154, 156, 162, 164, 170, 172, 178, 180, 186, 188, 194, 196, 202, 204, 213, 217, 226, 230, 238, 242, 248, 250, 256, 258, 264, 266, 272, 274, 281, 287, 289, 295, 297, 304, 306, 315, 319, 325, 327, 330, 340]) 20 ?_
    refine ct_mna (t := 76) (tr := 77) (z := z + 455) (N := 401) (K := 8) (idx := 41) hE rfl (hly 455 (76, 0) rfl) (fun j hj => hlr 77 456 401 (by decide) j hj) (by decide) rfl rfl rfl (fun _ => rfl) (fun _ => rfl) (fun _ => rfl) rfl ⟨cb_tw (i := 1325) (by decide +kernel), rfl⟩ ⟨cb_tw (i := 161) (by decide +kernel), rfl⟩ rfl rfl (by decide) (by decide) (fun j => ⟨rfl, rfl, rfl⟩) (fun i _ j => ⟨rfl, rfl, rfl⟩) (by decide) (by decide) (by decide +kernel) ?_
    refine ct_putF (idx := 88) (t := 46) (i := 0) (j := 32) (ed := 1360) hin rfl rfl rfl (by decide) (by decide +kernel) rfl rfl rfl (by decide +kernel) ?_
    refine cb_run cb_sd_ok vd_X10_init (cuts := [1, 6, 13, 15, 20, 22, 27, 29, 34, 36, 41, 43, 50, 52, 59, 61, 67, 69, 75, 77, 85, 89, 96, 100, 108, 112, 120, 124, 130, 132, 138, 140, 146, 148, 154, 156, 162, 164, 170, 172, 178, 180, 186, 188, 194, 196, 202, 204, 213, 217, 226, 230, 238, 242, 248, 250, 256, 258, 264, 266, 272, 274, 281, 287, 289, 295, 297, 304, 306, 315, 319, 325, 327, 330, 340]) 20 ?_
    refine ct_mna (t := 78) (tr := 79) (z := z + 857) (N := 3) (K := 6469) (idx := 41) hE rfl (hly 857 (78, 0) rfl) (fun j hj => hlr 79 858 3 (by decide) j hj) (by decide) rfl rfl rfl (fun _ => rfl) (fun _ => rfl) (fun _ => rfl) rfl ⟨cb_tw (i := 1325) (by decide +kernel), rfl⟩ ⟨cb_tw (i := 161) (by decide +kernel), rfl⟩ rfl rfl (by decide) (by decide) (fun j => ⟨rfl, rfl, rfl⟩) (fun i _ j => ⟨rfl, rfl, rfl⟩) (by decide) (by decide) (by decide +kernel) ?_
    refine ct_putF (idx := 91) (t := 46) (i := 0) (j := 36) (ed := 1364) hin rfl rfl rfl (by decide) (by decide +kernel) rfl rfl rfl (by decide +kernel) ?_
    refine cb_run cb_sd_ok vd_X10_init (cuts := [1, 6, 13, 15, 20, 22, 27, 29, 34, 36, 41, 43, 50, 52, 59, 61, 67, 69, 75, 77, 85, 89, 96, 100, 108, 112, 120, 124, 130, 132, 138, 140, 146, 148, 154, 156, 162, 164, 170, 172, 178, 180, 186, 188, 194, 196, 202, 204, 213, 217, 226, 230, 238, 242, 248, 250, 256, 258, 264, 266, 272, 274, 281, 287, 289, 295, 297, 304, 306, 315, 319, 325, 327, 330, 340]) 20 ?_
    refine ct_newa (aty := .int) (t := 80) (i := 0) (z := z + 861) (N := 8) (kd := 0) rfl (hly 861 (80, 0) rfl) rfl (by decide) rfl rfl (fun _ w => by cases w) ⟨cb_tw (i := 161) (by decide +kernel), rfl⟩ rfl (by decide) (by decide) (fun j => rfl) (by decide) (by decide) (by decide +kernel) ?_
    refine ct_putF (idx := 94) (t := 46) (i := 0) (j := 37) (ed := 1365) hin rfl rfl rfl (by decide) (by decide +kernel) rfl rfl rfl (by decide +kernel) ?_
    refine cb_run cb_sd_ok vd_X10_init (cuts := [1, 6, 13, 15, 20, 22, 27, 29, 34, 36, 41, 43, 50, 52, 59, 61, 67, 69, 75, 77, 85, 89, 96, 100, 108, 112, 120, 124, 130, 132, 138, 140, 146, 148, 154, 156, 162, 164, 170, 172, 178, 180, 186, 188, 194, 196, 202, 204, 213, 217, 226, 230, 238, 242, 248, 250, 256, 258, 264, 266, 272, 274, 281, 287, 289, 295, 297, 304, 306, 315, 319, 325, 327, 330, 340]) 20 ?_
    refine ct_newa (aty := .int) (t := 81) (i := 0) (z := z + 862) (N := 8) (kd := 0) rfl (hly 862 (81, 0) rfl) rfl (by decide) rfl rfl (fun _ w => by cases w) ⟨cb_tw (i := 161) (by decide +kernel), rfl⟩ rfl (by decide) (by decide) (fun j => rfl) (by decide) (by decide) (by decide +kernel) ?_
    refine ct_putF (idx := 97) (t := 46) (i := 0) (j := 38) (ed := 1366) hin rfl rfl rfl (by decide) (by decide +kernel) rfl rfl rfl (by decide +kernel) ?_
    refine cb_run cb_sd_ok vd_X10_init (cuts := [1, 6, 13, 15, 20, 22, 27, 29, 34, 36, 41, 43, 50, 52, 59, 61, 67, 69, 75, 77, 85, 89, 96, 100, 108, 112, 120, 124, 130, 132, 138, 140, 146, 148, 154, 156, 162, 164, 170, 172, 178, 180, 186, 188, 194, 196, 202, 204, 213, 217, 226, 230, 238, 242, 248, 250, 256, 258, 264, 266, 272, 274, 281, 287, 289, 295, 297, 304, 306, 315, 319, 325, 327, 330, 340]) 20 ?_
    refine ct_newa (aty := .int) (t := 82) (i := 0) (z := z + 863) (N := 8) (kd := 0) rfl (hly 863 (82, 0) rfl) rfl (by decide) rfl rfl (fun _ w => by cases w) ⟨cb_tw (i := 161) (by decide +kernel), rfl⟩ rfl (by decide) (by decide) (fun j => rfl) (by decide) (by decide) (by decide +kernel) ?_
    refine ct_putF (idx := 100) (t := 46) (i := 0) (j := 39) (ed := 1367) hin rfl rfl rfl (by decide) (by decide +kernel) rfl rfl rfl (by decide +kernel) ?_
    refine cb_run cb_sd_ok vd_X10_init (cuts := [1, 6, 13, 15, 20, 22, 27, 29, 34, 36, 41, 43, 50, 52, 59, 61, 67, 69, 75, 77, 85, 89, 96, 100, 108, 112, 120, 124, 130, 132, 138, 140, 146, 148, 154, 156, 162, 164, 170, 172, 178, 180, 186, 188, 194, 196, 202, 204, 213, 217, 226, 230, 238, 242, 248, 250, 256, 258, 264, 266, 272, 274, 281, 287, 289, 295, 297, 304, 306, 315, 319, 325, 327, 330, 340]) 20 ?_
    refine ct_newa (aty := .boolean) (t := 83) (i := 0) (z := z + 864) (N := 8) (kd := 2) rfl (hly 864 (83, 0) rfl) rfl (by decide) rfl rfl (fun _ w => by cases w) ⟨cb_tw (i := 1491) (by decide +kernel), rfl⟩ rfl (by decide) (by decide) (fun j => rfl) (by decide) (by decide) (by decide +kernel) ?_
    refine ct_putF (idx := 103) (t := 46) (i := 0) (j := 40) (ed := 1368) hin rfl rfl rfl (by decide) (by decide +kernel) rfl rfl rfl (by decide +kernel) ?_
    refine cb_run cb_sd_ok vd_X10_init (cuts := [1, 6, 13, 15, 20, 22, 27, 29, 34, 36, 41, 43, 50, 52, 59, 61, 67, 69, 75, 77, 85, 89, 96, 100, 108, 112, 120, 124, 130, 132, 138, 140, 146, 148, 154, 156, 162, 164, 170, 172, 178, 180, 186, 188, 194, 196, 202, 204, 213, 217, 226, 230, 238, 242, 248, 250, 256, 258, 264, 266, 272, 274, 281, 287, 289, 295, 297, 304, 306, 315, 319, 325, 327, 330, 340]) 20 ?_
    refine ct_put (idx := 107) (t := 46) (i := 0) (j := 41) (ed := 1369) rfl rfl rfl (by decide) (by decide +kernel) rfl rfl (by decide +kernel) ?_
    refine cb_run cb_sd_ok vd_X10_init (cuts := [1, 6, 13, 15, 20, 22, 27, 29, 34, 36, 41, 43, 50, 52, 59, 61, 67, 69, 75, 77, 85, 89, 96, 100, 108, 112, 120, 124, 130, 132, 138, 140, 146, 148, 154, 156, 162, 164, 170, 172, 178, 180, 186, 188, 194, 196, 202, 204, 213, 217, 226, 230, 238, 242, 248, 250, 256, 258, 264, 266, 272, 274, 281, 287, 289, 295, 297, 304, 306, 315, 319, 325, 327, 330, 340]) 20 ?_
    refine ct_newa (aty := .int) (t := 84) (i := 0) (z := z + 865) (N := 8) (kd := 0) rfl (hly 865 (84, 0) rfl) rfl (by decide) rfl rfl (fun _ w => by cases w) ⟨cb_tw (i := 161) (by decide +kernel), rfl⟩ rfl (by decide) (by decide) (fun j => rfl) (by decide) (by decide) (by decide +kernel) ?_
    refine ct_putF (idx := 110) (t := 46) (i := 0) (j := 46) (ed := 1374) hin rfl rfl rfl (by decide) (by decide +kernel) rfl rfl rfl (by decide +kernel) ?_
    refine cb_run cb_sd_ok vd_X10_init (cuts := [1, 6, 13, 15, 20, 22, 27, 29, 34, 36, 41, 43, 50, 52, 59, 61, 67, 69, 75, 77, 85, 89, 96, 100, 108, 112, 120, 124, 130, 132, 138, 140, 146, 148, 154, 156, 162, 164, 170, 172, 178, 180, 186, 188, 194, 196, 202, 204, 213, 217, 226, 230, 238, 242, 248, 250, 256, 258, 264, 266, 272, 274, 281, 287, 289, 295, 297, 304, 306, 315, 319, 325, 327, 330, 340]) 20 ?_
    refine ct_newa (aty := .int) (t := 85) (i := 0) (z := z + 866) (N := 64) (kd := 0) rfl (hly 866 (85, 0) rfl) rfl (by decide) rfl rfl (fun _ w => by cases w) ⟨cb_tw (i := 161) (by decide +kernel), rfl⟩ rfl (by decide) (by decide) (fun j => rfl) (by decide) (by decide) (by decide +kernel) ?_
    refine ct_putF (idx := 113) (t := 46) (i := 0) (j := 47) (ed := 1375) hin rfl rfl rfl (by decide) (by decide +kernel) rfl rfl rfl (by decide +kernel) ?_
    refine cb_run cb_sd_ok vd_X10_init (cuts := [1, 6, 13, 15, 20, 22, 27, 29, 34, 36, 41, 43, 50, 52, 59, 61, 67, 69, 75, 77, 85, 89, 96, 100, 108, 112, 120, 124, 130, 132, 138, 140, 146, 148, 154, 156, 162, 164, 170, 172, 178, 180, 186, 188, 194, 196, 202, 204, 213, 217, 226, 230, 238, 242, 248, 250, 256, 258, 264, 266, 272, 274, 281, 287, 289, 295, 297, 304, 306, 315, 319, 325, 327, 330, 340]) 20 ?_
    refine ct_newa (aty := .int) (t := 86) (i := 0) (z := z + 867) (N := 201) (kd := 0) rfl (hly 867 (86, 0) rfl) rfl (by decide) rfl rfl (fun _ w => by cases w) ⟨cb_tw (i := 161) (by decide +kernel), rfl⟩ rfl (by decide) (by decide) (fun j => rfl) (by decide) (by decide) (by decide +kernel) ?_
    refine ct_putF (idx := 116) (t := 46) (i := 0) (j := 51) (ed := 1379) hin rfl rfl rfl (by decide) (by decide +kernel) rfl rfl rfl (by decide +kernel) ?_
    refine cb_run cb_sd_ok vd_X10_init (cuts := [1, 6, 13, 15, 20, 22, 27, 29, 34, 36, 41, 43, 50, 52, 59, 61, 67, 69, 75, 77, 85, 89, 96, 100, 108, 112, 120, 124, 130, 132, 138, 140, 146, 148, 154, 156, 162, 164, 170, 172, 178, 180, 186, 188, 194, 196, 202, 204, 213, 217, 226, 230, 238, 242, 248, 250, 256, 258, 264, 266, 272, 274, 281, 287, 289, 295, 297, 304, 306, 315, 319, 325, 327, 330, 340]) 20 ?_
    refine ct_mna (t := 87) (tr := 88) (z := z + 868) (N := 100) (K := 201) (idx := 41) hE rfl (hly 868 (87, 0) rfl) (fun j hj => hlr 88 869 100 (by decide) j hj) (by decide) rfl rfl rfl (fun _ => rfl) (fun _ => rfl) (fun _ => rfl) rfl ⟨cb_tw (i := 1325) (by decide +kernel), rfl⟩ ⟨cb_tw (i := 161) (by decide +kernel), rfl⟩ rfl rfl (by decide) (by decide) (fun j => ⟨rfl, rfl, rfl⟩) (fun i _ j => ⟨rfl, rfl, rfl⟩) (by decide) (by decide) (by decide +kernel) ?_
    refine ct_putF (idx := 119) (t := 46) (i := 0) (j := 52) (ed := 1380) hin rfl rfl rfl (by decide) (by decide +kernel) rfl rfl rfl (by decide +kernel) ?_
    refine cb_run cb_sd_ok vd_X10_init (cuts := [1, 6, 13, 15, 20, 22, 27, 29, 34, 36, 41, 43, 50, 52, 59, 61, 67, 69, 75, 77, 85, 89, 96, 100, 108, 112, 120, 124, 130, 132, 138, 140, 146, 148, 154, 156, 162, 164, 170, 172, 178, 180, 186, 188, 194, 196, 202, 204, 213, 217, 226, 230, 238, 242, 248, 250, 256, 258, 264, 266, 272, 274, 281, 287, 289, 295, 297, 304, 306, 315, 319, 325, 327, 330, 340]) 20 ?_
    refine ct_newa (aty := .int) (t := 89) (i := 0) (z := z + 969) (N := 8) (kd := 0) rfl (hly 969 (89, 0) rfl) rfl (by decide) rfl rfl (fun _ w => by cases w) ⟨cb_tw (i := 161) (by decide +kernel), rfl⟩ rfl (by decide) (by decide) (fun j => rfl) (by decide) (by decide) (by decide +kernel) ?_
    refine ct_putF (idx := 122) (t := 46) (i := 0) (j := 53) (ed := 1381) hin rfl rfl rfl (by decide) (by decide +kernel) rfl rfl rfl (by decide +kernel) ?_
    refine cb_run cb_sd_ok vd_X10_init (cuts := [1, 6, 13, 15, 20, 22, 27, 29, 34, 36, 41, 43, 50, 52, 59, 61, 67, 69, 75, 77, 85, 89, 96, 100, 108, 112, 120, 124, 130, 132, 138, 140, 146, 148, 154, 156, 162, 164, 170, 172, 178, 180, 186, 188, 194, 196, 202, 204, 213, 217, 226, 230, 238, 242, 248, 250, 256, 258, 264, 266, 272, 274, 281, 287, 289, 295, 297, 304, 306, 315, 319, 325, 327, 330, 340]) 20 ?_
    refine Exists.intro (some 0) (And.intro rfl (And.intro (mi_v 3 (by decide)) ?_))
    have := loop 0 (Nat.zero_le _)
    rw [cb_fl_zero] at this
    exact this
