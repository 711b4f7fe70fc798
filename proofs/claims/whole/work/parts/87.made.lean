/-! ===== the class is made ===== -/
def cb_M0 : cb_M := (fun _ _ _ => 0, fun _ _ _ => none, fun _ _ _ => 0)
def cb_w0 : Nat → Nat → Bool := fun t i => Nat.beq t 0 && Nat.beq i 0
def cb_ly9 : List (Nat × Nat) := [(2, 0), (1, 0), (2, 1), (3, 0), (4, 0), (5, 0), (6, 0), (7, 0), (8, 0), (9, 0), (10, 0), (11, 0), (12, 0), (13, 0), (14, 0), (15, 0), (3, 1), (4, 1), (5, 1), (6, 1), (7, 1), (8, 1), (9, 1), (10, 1), (11, 1), (12, 1), (13, 1), (14, 1), (15, 1), (16, 0), (17, 0), (18, 0), (19, 0), (20, 0), (21, 0), (22, 0), (23, 0), (24, 0), (25, 0), (26, 0), (27, 0), (28, 0), (29, 0), (30, 0), (31, 0), (32, 0), (33, 0), (34, 0), (35, 0), (36, 0), (37, 0), (38, 0), (39, 0), (40, 0), (41, 0), (42, 0), (43, 0), (44, 0), (45, 0)]
def ma_X9 : Nat → Nat → Bool := ma_X8 (cb_ab (ma_X1 (cb_ab (ma_X5 (cb_ab (ma_X0 (cb_ab (ma_X2 (cb_ab (ma_X7 (cb_ab (cb_ab (ma_X3 (cb_ab (ma_X4 (cb_ab (ma_X4 (cb_ab (ma_X6 (cb_ab (cb_ab (cb_w0, none) 2 0, none) 1 0), none) 3 0) 0, none) 3 1) 1, none) 16 0) 0, none) 24 0, none) 25 0), none) 37 0), none) 39 0), none) 41 0), none) 42 0), none) 45 0)
def mm_X9 : cb_M := cb_sR (mm_X8 (cb_sR (mm_X1 (cb_sR (mm_X5 (cb_sR (mm_X0 (cb_sR (mm_X2 (cb_sR (mm_X7 (cb_sI (cb_sR (cb_sR (mm_X3 (cb_sR (mm_X4 (cb_sR (mm_X4 (cb_sI (cb_sR (mm_X6 (cb_sI (cb_sR (cb_M0) 0 0 0 (some 0)) 0 0 1 0)) 0 0 2 (some 0)) 0 0 3 (-1)) 0) 0 0 4 (some 0)) 1) 0 0 5 (some 1)) 0) 0 0 6 (some 0)) 0 0 7 (some 0)) 0 0 8 0) 0 0) 0 0 9 (some 0))) 0 0 10 (some 0))) 0 0 11 (some 0))) 0 0 12 (some 0))) 0 0 13 (some 0))) 0 0 14 (some 0)
def pg_X9_init (G : cb_G) : cb_PT := fun As a M K => match As with
  | [.inr (.inr (some (t, i)))] => (t = 0 ∧ i = 0) ∧ ∃ z, a = (cb_w0, some z) ∧ M = cb_M0 ∧ (∀ k q, cb_ly9[k]? = some q → G.ad q.1 q.2 = z + k) ∧ K (.inl none) (ma_X9, some (z + 59)) mm_X9
  | _ => False
def md_X9_init : cb_D := (RX9, cX9_init, 1, none, (59, 5187, 2, 60), [
  (0, .aload_n 0, 1, 0, 0, 0, 0),
  (4, .aload_n 0, 1, 0, 0, 0, 0),
  (5, .sipush 600, 3, 600, 0, 0, 0),
  (13, .aload_n 0, 1, 0, 0, 0, 0),
  (14, .iconst 0, 1, 0, 0, 0, 0),
  (18, .aload_n 0, 1, 0, 0, 0, 0),
  (22, .dup, 1, 0, 0, 0, 0),
  (29, .aload_n 0, 1, 0, 0, 0, 0),
  (30, .iconst (-1), 1, (-1), 0, 0, 0),
  (34, .aload_n 0, 1, 0, 0, 0, 0),
  (38, .dup, 1, 0, 0, 0, 0),
  (45, .aload_n 0, 1, 0, 0, 0, 0),
  (49, .dup, 1, 0, 0, 0, 0),
  (56, .aload_n 0, 1, 0, 0, 0, 0),
  (60, .dup, 1, 0, 0, 0, 0),
  (67, .aload_n 0, 1, 0, 0, 0, 0),
  (68, .iconst 3, 1, 3, 0, 0, 0),
  (75, .aload_n 0, 1, 0, 0, 0, 0),
  (76, .iconst 0, 1, 0, 0, 0, 0),
  (80, .aload_n 0, 1, 0, 0, 0, 0),
  (84, .dup, 1, 0, 0, 0, 0),
  (85, .aload_n 0, 1, 0, 0, 0, 0),
  (86, .getfield 30, 3, 0, 9, 4, 362),
  (89, .aload_n 0, 1, 0, 0, 0, 0),
  (90, .getfield 40, 3, 0, 9, 6, 364),
  (99, .aload_n 0, 1, 0, 0, 0, 0),
  (103, .dup, 1, 0, 0, 0, 0),
  (110, .aload_n 0, 1, 0, 0, 0, 0),
  (114, .dup, 1, 0, 0, 0, 0),
  (115, .aload_n 0, 1, 0, 0, 0, 0),
  (116, .getfield 56, 3, 0, 9, 9, 367),
  (125, .aload_n 0, 1, 0, 0, 0, 0),
  (129, .dup, 1, 0, 0, 0, 0),
  (130, .aload_n 0, 1, 0, 0, 0, 0),
  (131, .getfield 56, 3, 0, 9, 9, 367),
  (140, .aload_n 0, 1, 0, 0, 0, 0),
  (144, .dup, 1, 0, 0, 0, 0),
  (145, .aload_n 0, 1, 0, 0, 0, 0),
  (146, .getfield 56, 3, 0, 9, 9, 367),
  (155, .aload_n 0, 1, 0, 0, 0, 0),
  (159, .dup, 1, 0, 0, 0, 0),
  (160, .aload_n 0, 1, 0, 0, 0, 0),
  (161, .getfield 56, 3, 0, 9, 9, 367),
  (170, .return_, 1, 0, 0, 0, 0)],
  [], [])
set_option maxRecDepth 100000 in
theorem vd_X9_init : md_X9_init.cd.all (cb_vE md_X9_init) = true := by decide +kernel
theorem wd_X9_init : cb_wd yX9_init md_X9_init := ⟨cb_tw (i := 29) (by decide +kernel), cb_tw (i := 1) (by decide +kernel), by decide, by decide⟩
theorem pg_X9_to {G : cb_G} {As : List cb_V} {a : cb_A} {M : cb_M} {K : cb_Out → cb_A → cb_M → Prop} (h : pg_X9_init G As a M K) : ∃ z, As = [cb_r 0 0] ∧ a = (cb_w0, some z) ∧ M = cb_M0 ∧ (∀ k q, cb_ly9[k]? = some q → G.ad q.1 q.2 = z + k) ∧ K (.inl none) (ma_X9, some (z + 59)) mm_X9 := by
  unfold pg_X9_init at h
  split at h
  · obtain ⟨⟨rfl, rfl⟩, z, h⟩ := h
    exact ⟨z, rfl, h⟩
  · exact h.elim
set_option maxRecDepth 100000 in
set_option maxHeartbeats 4000000 in
theorem ok_X9_init : cb_MG yX9_init md_X9_init pg_X9_init := by
  refine cb_ofg ⟨plainFor_of_name (by decide), rfl⟩ (fun G As a M K h => ?_) rfl (by decide) (fun X As a M h hE hl0 hnm => ?_)
  · obtain ⟨z, rfl, -⟩ := pg_X9_to h
    exact (by decide : 1 ≤ 1)
  · obtain ⟨z, rfl, rfl, rfl, hly, h⟩ := pg_X9_to h
    have hin : X.meth.name = "<init>" := hnm
    refine cb_run cb_sd_ok vd_X9_init (cuts := [1, 8, 10, 15, 19, 23, 26, 31, 35, 39, 42, 46, 50, 53, 57, 61, 64, 69, 72, 77, 81, 93, 96, 100, 104, 107, 111, 119, 122, 126, 134, 137, 141, 149, 152, 156, 164, 167]) 20 ?_
    refine ct_obj (idx := 3) (by decide +kernel) (cb_tw (i := 30) (by decide +kernel)) (cb_tw (i := 31) (by decide +kernel)) (cb_tw (i := 32) (by decide +kernel)) ⟨rfl, rfl, rfl⟩ (by decide) (by decide) (by decide) ?_
    refine cb_run cb_sd_ok vd_X9_init (cuts := [1, 8, 10, 15, 19, 23, 26, 31, 35, 39, 42, 46, 50, 53, 57, 61, 64, 69, 72, 77, 81, 93, 96, 100, 104, 107, 111, 119, 122, 126, 134, 137, 141, 149, 152, 156, 164, 167]) 20 ?_
    refine ct_newa (aty := .byte) (t := 2) (i := 0) (z := z + 0) (N := 600) (kd := 1) rfl (hly 0 (2, 0) rfl) rfl (by decide) rfl rfl (fun _ w => by cases w) ⟨cb_tw (i := 59) (by decide +kernel), rfl⟩ rfl (by decide) (by decide) (fun j => rfl) (by decide) (by decide) (by decide +kernel) ?_
    refine ct_putF (idx := 9) (t := 0) (i := 0) (j := 0) (ed := 358) hin rfl rfl rfl (by decide) (by decide +kernel) rfl rfl rfl (by decide +kernel) ?_
    refine cb_run cb_sd_ok vd_X9_init (cuts := [1, 8, 10, 15, 19, 23, 26, 31, 35, 39, 42, 46, 50, 53, 57, 61, 64, 69, 72, 77, 81, 93, 96, 100, 104, 107, 111, 119, 122, 126, 134, 137, 141, 149, 152, 156, 164, 167]) 20 ?_
    refine ct_put (idx := 13) (t := 0) (i := 0) (j := 1) (ed := 359) rfl rfl rfl (by decide) (by decide +kernel) rfl rfl (by decide +kernel) ?_
    refine cb_run cb_sd_ok vd_X9_init (cuts := [1, 8, 10, 15, 19, 23, 26, 31, 35, 39, 42, 46, 50, 53, 57, 61, 64, 69, 72, 77, 81, 93, 96, 100, 104, 107, 111, 119, 122, 126, 134, 137, 141, 149, 152, 156, 164, 167]) 20 ?_
    refine ct_new (t := 1) (i := 0) (z := z + 1) (N := 6) (idx := 17) rfl (hly 1 (1, 0) rfl) rfl rfl rfl ⟨cb_tw (i := 33) (by decide +kernel), cb_tw (i := 34) (by decide +kernel), cb_tw (i := 2) (by decide +kernel)⟩ ⟨rfl, rfl, rfl⟩ (fun j => ⟨rfl, rfl, rfl⟩) (by decide) (by decide) (by decide +kernel) ?_
    refine cb_run cb_sd_ok vd_X9_init (cuts := [1, 8, 10, 15, 19, 23, 26, 31, 35, 39, 42, 46, 50, 53, 57, 61, 64, 69, 72, 77, 81, 93, 96, 100, 104, 107, 111, 119, 122, 126, 134, 137, 141, 149, 152, 156, 164, 167]) 20 ?_
    refine ct_init (st := [cb_r 1 0, cb_r 0 0]) (r := []) (t := 1) (i := 0) (idx := 19) ok_X6_init hl0 hE rfl rfl wd_X6_init (Or.inr ⟨"WallClocks", cb_tw (i := 35) (by decide +kernel)⟩) (cb_tw (i := 36) (by decide +kernel)) ⟨by decide, by decide⟩ (by decide +kernel) rfl (by decide) (by decide) (by decide) (by decide +kernel) ?_
    refine ⟨⟨rfl, rfl, rfl⟩, z + 2, rfl, (hly 2 (2, 1) rfl), (fun j => ⟨rfl, rfl, rfl⟩), ?_⟩
    refine ct_putF (idx := 20) (t := 0) (i := 0) (j := 2) (ed := 360) hin rfl rfl rfl (by decide) (by decide +kernel) rfl rfl rfl (by decide +kernel) ?_
    refine cb_run cb_sd_ok vd_X9_init (cuts := [1, 8, 10, 15, 19, 23, 26, 31, 35, 39, 42, 46, 50, 53, 57, 61, 64, 69, 72, 77, 81, 93, 96, 100, 104, 107, 111, 119, 122, 126, 134, 137, 141, 149, 152, 156, 164, 167]) 20 ?_
    refine ct_put (idx := 24) (t := 0) (i := 0) (j := 3) (ed := 361) rfl rfl rfl (by decide) (by decide +kernel) rfl rfl (by decide +kernel) ?_
    refine cb_run cb_sd_ok vd_X9_init (cuts := [1, 8, 10, 15, 19, 23, 26, 31, 35, 39, 42, 46, 50, 53, 57, 61, 64, 69, 72, 77, 81, 93, 96, 100, 104, 107, 111, 119, 122, 126, 134, 137, 141, 149, 152, 156, 164, 167]) 20 ?_
    refine ct_new (t := 3) (i := 0) (z := z + 3) (N := 17) (idx := 27) rfl (hly 3 (3, 0) rfl) rfl rfl rfl ⟨cb_tw (i := 60) (by decide +kernel), cb_tw (i := 61) (by decide +kernel), cb_tw (i := 3) (by decide +kernel)⟩ ⟨rfl, rfl, rfl⟩ (fun j => ⟨rfl, rfl, rfl⟩) (by decide) (by decide) (by decide +kernel) ?_
    refine cb_run cb_sd_ok vd_X9_init (cuts := [1, 8, 10, 15, 19, 23, 26, 31, 35, 39, 42, 46, 50, 53, 57, 61, 64, 69, 72, 77, 81, 93, 96, 100, 104, 107, 111, 119, 122, 126, 134, 137, 141, 149, 152, 156, 164, 167]) 20 ?_
    refine ct_init (st := [cb_r 3 0, cb_r 0 0]) (r := []) (t := 3) (i := 0) (idx := 29) ok_X4_init hl0 hE rfl rfl wd_X4_init (Or.inr ⟨"WallClocks", cb_tw (i := 62) (by decide +kernel)⟩) (cb_tw (i := 63) (by decide +kernel)) ⟨by decide, by decide⟩ (by decide +kernel) rfl (by decide) (by decide) (by decide) (by decide +kernel) ?_
    refine ⟨⟨rfl, rfl⟩, z + 4, rfl, ⟨hly 4 (4, 0) rfl, hly 5 (5, 0) rfl, hly 6 (6, 0) rfl, hly 7 (7, 0) rfl, hly 8 (8, 0) rfl, hly 9 (9, 0) rfl, hly 10 (10, 0) rfl, hly 11 (11, 0) rfl, hly 12 (12, 0) rfl, hly 13 (13, 0) rfl, hly 14 (14, 0) rfl, hly 15 (15, 0) rfl⟩, ⟨fun j => ⟨rfl, rfl, rfl⟩, fun j => ⟨rfl, rfl, rfl⟩, fun j => ⟨rfl, rfl, rfl⟩, fun j => ⟨rfl, rfl, rfl⟩, fun j => ⟨rfl, rfl, rfl⟩, fun j => ⟨rfl, rfl, rfl⟩, fun j => ⟨rfl, rfl, rfl⟩, fun j => ⟨rfl, rfl, rfl⟩, fun j => ⟨rfl, rfl, rfl⟩, fun j => ⟨rfl, rfl, rfl⟩, fun j => ⟨rfl, rfl, rfl⟩, fun j => ⟨rfl, rfl, rfl⟩⟩, ?_⟩
    refine ct_put (idx := 30) (t := 0) (i := 0) (j := 4) (ed := 362) rfl rfl rfl (by decide) (by decide +kernel) rfl rfl (by decide +kernel) ?_
    refine cb_run cb_sd_ok vd_X9_init (cuts := [1, 8, 10, 15, 19, 23, 26, 31, 35, 39, 42, 46, 50, 53, 57, 61, 64, 69, 72, 77, 81, 93, 96, 100, 104, 107, 111, 119, 122, 126, 134, 137, 141, 149, 152, 156, 164, 167]) 20 ?_
    refine ct_new (t := 3) (i := 1) (z := z + 16) (N := 17) (idx := 27) rfl (hly 16 (3, 1) rfl) rfl rfl rfl ⟨cb_tw (i := 60) (by decide +kernel), cb_tw (i := 61) (by decide +kernel), cb_tw (i := 3) (by decide +kernel)⟩ ⟨rfl, rfl, rfl⟩ (fun j => ⟨rfl, rfl, rfl⟩) (by decide) (by decide) (by decide +kernel) ?_
    refine cb_run cb_sd_ok vd_X9_init (cuts := [1, 8, 10, 15, 19, 23, 26, 31, 35, 39, 42, 46, 50, 53, 57, 61, 64, 69, 72, 77, 81, 93, 96, 100, 104, 107, 111, 119, 122, 126, 134, 137, 141, 149, 152, 156, 164, 167]) 20 ?_
    refine ct_init (st := [cb_r 3 1, cb_r 0 0]) (r := []) (t := 3) (i := 1) (idx := 29) ok_X4_init hl0 hE rfl rfl wd_X4_init (Or.inr ⟨"WallClocks", cb_tw (i := 62) (by decide +kernel)⟩) (cb_tw (i := 63) (by decide +kernel)) ⟨by decide, by decide⟩ (by decide +kernel) rfl (by decide) (by decide) (by decide) (by decide +kernel) ?_
    refine ⟨⟨rfl, rfl⟩, z + 17, rfl, ⟨hly 17 (4, 1) rfl, hly 18 (5, 1) rfl, hly 19 (6, 1) rfl, hly 20 (7, 1) rfl, hly 21 (8, 1) rfl, hly 22 (9, 1) rfl, hly 23 (10, 1) rfl, hly 24 (11, 1) rfl, hly 25 (12, 1) rfl, hly 26 (13, 1) rfl, hly 27 (14, 1) rfl, hly 28 (15, 1) rfl⟩, ⟨fun j => ⟨rfl, rfl, rfl⟩, fun j => ⟨rfl, rfl, rfl⟩, fun j => ⟨rfl, rfl, rfl⟩, fun j => ⟨rfl, rfl, rfl⟩, fun j => ⟨rfl, rfl, rfl⟩, fun j => ⟨rfl, rfl, rfl⟩, fun j => ⟨rfl, rfl, rfl⟩, fun j => ⟨rfl, rfl, rfl⟩, fun j => ⟨rfl, rfl, rfl⟩, fun j => ⟨rfl, rfl, rfl⟩, fun j => ⟨rfl, rfl, rfl⟩, fun j => ⟨rfl, rfl, rfl⟩⟩, ?_⟩
    refine ct_put (idx := 34) (t := 0) (i := 0) (j := 5) (ed := 363) rfl rfl rfl (by decide) (by decide +kernel) rfl rfl (by decide +kernel) ?_
    refine cb_run cb_sd_ok vd_X9_init (cuts := [1, 8, 10, 15, 19, 23, 26, 31, 35, 39, 42, 46, 50, 53, 57, 61, 64, 69, 72, 77, 81, 93, 96, 100, 104, 107, 111, 119, 122, 126, 134, 137, 141, 149, 152, 156, 164, 167]) 20 ?_
    refine ct_new (t := 16) (i := 0) (z := z + 29) (N := 8) (idx := 37) rfl (hly 29 (16, 0) rfl) rfl rfl rfl ⟨cb_tw (i := 162) (by decide +kernel), cb_tw (i := 163) (by decide +kernel), cb_tw (i := 4) (by decide +kernel)⟩ ⟨rfl, rfl, rfl⟩ (fun j => ⟨rfl, rfl, rfl⟩) (by decide) (by decide) (by decide +kernel) ?_
    refine cb_run cb_sd_ok vd_X9_init (cuts := [1, 8, 10, 15, 19, 23, 26, 31, 35, 39, 42, 46, 50, 53, 57, 61, 64, 69, 72, 77, 81, 93, 96, 100, 104, 107, 111, 119, 122, 126, 134, 137, 141, 149, 152, 156, 164, 167]) 20 ?_
    refine ct_init (st := [cb_r 16 0, cb_r 0 0]) (r := []) (t := 16) (i := 0) (idx := 39) ok_X3_init hl0 hE rfl rfl wd_X3_init (Or.inr ⟨"WallClocks", cb_tw (i := 164) (by decide +kernel)⟩) (cb_tw (i := 165) (by decide +kernel)) ⟨by decide, by decide⟩ (by decide +kernel) rfl (by decide) (by decide) (by decide) (by decide +kernel) ?_
    refine ⟨⟨rfl, rfl⟩, z + 30, rfl, ⟨hly 30 (17, 0) rfl, hly 31 (18, 0) rfl, hly 32 (19, 0) rfl, hly 33 (20, 0) rfl, hly 34 (21, 0) rfl, hly 35 (22, 0) rfl, hly 36 (23, 0) rfl⟩, ⟨fun j => ⟨rfl, rfl, rfl⟩, fun j => ⟨rfl, rfl, rfl⟩, fun j => ⟨rfl, rfl, rfl⟩, fun j => ⟨rfl, rfl, rfl⟩, fun j => ⟨rfl, rfl, rfl⟩, fun j => ⟨rfl, rfl, rfl⟩, fun j => ⟨rfl, rfl, rfl⟩⟩, ?_⟩
    refine ct_putF (idx := 40) (t := 0) (i := 0) (j := 6) (ed := 364) hin rfl rfl rfl (by decide) (by decide +kernel) rfl rfl rfl (by decide +kernel) ?_
    refine cb_run cb_sd_ok vd_X9_init (cuts := [1, 8, 10, 15, 19, 23, 26, 31, 35, 39, 42, 46, 50, 53, 57, 61, 64, 69, 72, 77, 81, 93, 96, 100, 104, 107, 111, 119, 122, 126, 134, 137, 141, 149, 152, 156, 164, 167]) 20 ?_
    refine ct_anew (t := 24) (i := 0) (z := z + 37) (N := 3) (idx := 37) hE rfl (hly 37 (24, 0) rfl) rfl rfl (fun _ => rfl) ⟨cb_tw (i := 162) (by decide +kernel), rfl⟩ rfl (by decide) (fun j => ⟨rfl, rfl, rfl⟩) (by decide) (by decide) (by decide +kernel) ?_
    refine ct_putF (idx := 44) (t := 0) (i := 0) (j := 7) (ed := 365) hin rfl rfl rfl (by decide) (by decide +kernel) rfl rfl rfl (by decide +kernel) ?_
    refine cb_run cb_sd_ok vd_X9_init (cuts := [1, 8, 10, 15, 19, 23, 26, 31, 35, 39, 42, 46, 50, 53, 57, 61, 64, 69, 72, 77, 81, 93, 96, 100, 104, 107, 111, 119, 122, 126, 134, 137, 141, 149, 152, 156, 164, 167]) 20 ?_
    refine ct_put (idx := 48) (t := 0) (i := 0) (j := 8) (ed := 366) rfl rfl rfl (by decide) (by decide +kernel) rfl rfl (by decide +kernel) ?_
    refine cb_run cb_sd_ok vd_X9_init (cuts := [1, 8, 10, 15, 19, 23, 26, 31, 35, 39, 42, 46, 50, 53, 57, 61, 64, 69, 72, 77, 81, 93, 96, 100, 104, 107, 111, 119, 122, 126, 134, 137, 141, 149, 152, 156, 164, 167]) 20 ?_
    refine ct_new (t := 25) (i := 0) (z := z + 38) (N := 18) (idx := 51) rfl (hly 38 (25, 0) rfl) rfl rfl rfl ⟨cb_tw (i := 212) (by decide +kernel), cb_tw (i := 213) (by decide +kernel), cb_tw (i := 5) (by decide +kernel)⟩ ⟨rfl, rfl, rfl⟩ (fun j => ⟨rfl, rfl, rfl⟩) (by decide) (by decide) (by decide +kernel) ?_
    refine cb_run cb_sd_ok vd_X9_init (cuts := [1, 8, 10, 15, 19, 23, 26, 31, 35, 39, 42, 46, 50, 53, 57, 61, 64, 69, 72, 77, 81, 93, 96, 100, 104, 107, 111, 119, 122, 126, 134, 137, 141, 149, 152, 156, 164, 167]) 20 ?_
    refine Exists.intro (some 0) (And.intro rfl ?_)
    refine Exists.intro (some 0) (And.intro rfl ?_)
    refine ct_init (st := [cb_r 25 0, cb_r 0 0]) (r := [cb_r 3 0, cb_r 16 0]) (t := 25) (i := 0) (idx := 53) ok_X7_init hl0 hE rfl rfl wd_X7_init (Or.inl (cb_tw (i := 214) (by decide +kernel))) (cb_tw (i := 215) (by decide +kernel)) ⟨by decide, by decide⟩ (by decide +kernel) rfl (by decide) (by decide) (by decide) (by decide +kernel) ?_
    refine ⟨⟨rfl, rfl, rfl, rfl, rfl⟩, z + 39, rfl, ⟨hly 39 (26, 0) rfl, hly 40 (27, 0) rfl, hly 41 (28, 0) rfl, hly 42 (29, 0) rfl, hly 43 (30, 0) rfl, hly 44 (31, 0) rfl, hly 45 (32, 0) rfl, hly 46 (33, 0) rfl, hly 47 (34, 0) rfl, hly 48 (35, 0) rfl, hly 49 (36, 0) rfl⟩, ⟨fun j => ⟨rfl, rfl, rfl⟩, fun j => ⟨rfl, rfl, rfl⟩, fun j => ⟨rfl, rfl, rfl⟩, fun j => ⟨rfl, rfl, rfl⟩, fun j => ⟨rfl, rfl, rfl⟩, fun j => ⟨rfl, rfl, rfl⟩, fun j => ⟨rfl, rfl, rfl⟩, fun j => ⟨rfl, rfl, rfl⟩, fun j => ⟨rfl, rfl, rfl⟩, fun j => ⟨rfl, rfl, rfl⟩, fun j => ⟨rfl, rfl, rfl⟩⟩, ?_⟩
    refine ct_putF (idx := 56) (t := 0) (i := 0) (j := 9) (ed := 367) hin rfl rfl rfl (by decide) (by decide +kernel) rfl rfl rfl (by decide +kernel) ?_
    refine cb_run cb_sd_ok vd_X9_init (cuts := [1, 8, 10, 15, 19, 23, 26, 31, 35, 39, 42, 46, 50, 53, 57, 61, 64, 69, 72, 77, 81, 93, 96, 100, 104, 107, 111, 119, 122, 126, 134, 137, 141, 149, 152, 156, 164, 167]) 20 ?_
    refine ct_new (t := 37) (i := 0) (z := z + 50) (N := 2) (idx := 60) rfl (hly 50 (37, 0) rfl) rfl rfl rfl ⟨cb_tw (i := 293) (by decide +kernel), cb_tw (i := 294) (by decide +kernel), cb_tw (i := 6) (by decide +kernel)⟩ ⟨rfl, rfl, rfl⟩ (fun j => ⟨rfl, rfl, rfl⟩) (by decide) (by decide) (by decide +kernel) ?_
    refine cb_run cb_sd_ok vd_X9_init (cuts := [1, 8, 10, 15, 19, 23, 26, 31, 35, 39, 42, 46, 50, 53, 57, 61, 64, 69, 72, 77, 81, 93, 96, 100, 104, 107, 111, 119, 122, 126, 134, 137, 141, 149, 152, 156, 164, 167]) 20 ?_
    refine ct_init (st := [cb_r 37 0, cb_r 0 0]) (r := []) (t := 37) (i := 0) (idx := 62) ok_X2_init hl0 hE rfl rfl wd_X2_init (Or.inr ⟨"WallClocks", cb_tw (i := 295) (by decide +kernel)⟩) (cb_tw (i := 296) (by decide +kernel)) ⟨by decide, by decide⟩ (by decide +kernel) rfl (by decide) (by decide) (by decide) (by decide +kernel) ?_
    refine ⟨⟨rfl, rfl, rfl⟩, z + 51, rfl, (hly 51 (38, 0) rfl), (fun j => ⟨rfl, rfl, rfl⟩), ?_⟩
    refine ct_putF (idx := 63) (t := 0) (i := 0) (j := 10) (ed := 368) hin rfl rfl rfl (by decide) (by decide +kernel) rfl rfl rfl (by decide +kernel) ?_
    refine cb_run cb_sd_ok vd_X9_init (cuts := [1, 8, 10, 15, 19, 23, 26, 31, 35, 39, 42, 46, 50, 53, 57, 61, 64, 69, 72, 77, 81, 93, 96, 100, 104, 107, 111, 119, 122, 126, 134, 137, 141, 149, 152, 156, 164, 167]) 20 ?_
    refine ct_new (t := 39) (i := 0) (z := z + 52) (N := 2) (idx := 67) rfl (hly 52 (39, 0) rfl) rfl rfl rfl ⟨cb_tw (i := 306) (by decide +kernel), cb_tw (i := 307) (by decide +kernel), cb_tw (i := 7) (by decide +kernel)⟩ ⟨rfl, rfl, rfl⟩ (fun j => ⟨rfl, rfl, rfl⟩) (by decide) (by decide) (by decide +kernel) ?_
    refine cb_run cb_sd_ok vd_X9_init (cuts := [1, 8, 10, 15, 19, 23, 26, 31, 35, 39, 42, 46, 50, 53, 57, 61, 64, 69, 72, 77, 81, 93, 96, 100, 104, 107, 111, 119, 122, 126, 134, 137, 141, 149, 152, 156, 164, 167]) 20 ?_
    refine Exists.intro (some 0) (And.intro rfl ?_)
    refine ct_init (st := [cb_r 39 0, cb_r 0 0]) (r := [cb_r 25 0]) (t := 39) (i := 0) (idx := 69) ok_X0_init hl0 hE rfl rfl wd_X0_init (Or.inl (cb_tw (i := 308) (by decide +kernel))) (cb_tw (i := 309) (by decide +kernel)) ⟨by decide, by decide⟩ (by decide +kernel) rfl (by decide) (by decide) (by decide) (by decide +kernel) ?_
    refine ⟨⟨rfl, rfl, rfl, rfl, rfl⟩, z + 53, rfl, (hly 53 (40, 0) rfl), (fun j => ⟨rfl, rfl, rfl⟩), ?_⟩
    refine ct_putF (idx := 72) (t := 0) (i := 0) (j := 11) (ed := 369) hin rfl rfl rfl (by decide) (by decide +kernel) rfl rfl rfl (by decide +kernel) ?_
    refine cb_run cb_sd_ok vd_X9_init (cuts := [1, 8, 10, 15, 19, 23, 26, 31, 35, 39, 42, 46, 50, 53, 57, 61, 64, 69, 72, 77, 81, 93, 96, 100, 104, 107, 111, 119, 122, 126, 134, 137, 141, 149, 152, 156, 164, 167]) 20 ?_
    refine ct_new (t := 41) (i := 0) (z := z + 54) (N := 1) (idx := 76) rfl (hly 54 (41, 0) rfl) rfl rfl rfl ⟨cb_tw (i := 319) (by decide +kernel), cb_tw (i := 320) (by decide +kernel), cb_tw (i := 8) (by decide +kernel)⟩ ⟨rfl, rfl, rfl⟩ (fun j => ⟨rfl, rfl, rfl⟩) (by decide) (by decide) (by decide +kernel) ?_
    refine cb_run cb_sd_ok vd_X9_init (cuts := [1, 8, 10, 15, 19, 23, 26, 31, 35, 39, 42, 46, 50, 53, 57, 61, 64, 69, 72, 77, 81, 93, 96, 100, 104, 107, 111, 119, 122, 126, 134, 137, 141, 149, 152, 156, 164, 167]) 20 ?_
    refine Exists.intro (some 0) (And.intro rfl ?_)
    refine ct_init (st := [cb_r 41 0, cb_r 0 0]) (r := [cb_r 25 0]) (t := 41) (i := 0) (idx := 78) ok_X5_init hl0 hE rfl rfl wd_X5_init (Or.inl (cb_tw (i := 321) (by decide +kernel))) (cb_tw (i := 322) (by decide +kernel)) ⟨by decide, by decide⟩ (by decide +kernel) rfl (by decide) (by decide) (by decide) (by decide +kernel) ?_
    refine ⟨⟨rfl, rfl, rfl, rfl, rfl⟩, z + 55, rfl, trivial, trivial, ?_⟩
    refine ct_putF (idx := 79) (t := 0) (i := 0) (j := 12) (ed := 370) hin rfl rfl rfl (by decide) (by decide +kernel) rfl rfl rfl (by decide +kernel) ?_
    refine cb_run cb_sd_ok vd_X9_init (cuts := [1, 8, 10, 15, 19, 23, 26, 31, 35, 39, 42, 46, 50, 53, 57, 61, 64, 69, 72, 77, 81, 93, 96, 100, 104, 107, 111, 119, 122, 126, 134, 137, 141, 149, 152, 156, 164, 167]) 20 ?_
    refine ct_new (t := 42) (i := 0) (z := z + 55) (N := 4) (idx := 83) rfl (hly 55 (42, 0) rfl) rfl rfl rfl ⟨cb_tw (i := 329) (by decide +kernel), cb_tw (i := 330) (by decide +kernel), cb_tw (i := 9) (by decide +kernel)⟩ ⟨rfl, rfl, rfl⟩ (fun j => ⟨rfl, rfl, rfl⟩) (by decide) (by decide) (by decide +kernel) ?_
    refine cb_run cb_sd_ok vd_X9_init (cuts := [1, 8, 10, 15, 19, 23, 26, 31, 35, 39, 42, 46, 50, 53, 57, 61, 64, 69, 72, 77, 81, 93, 96, 100, 104, 107, 111, 119, 122, 126, 134, 137, 141, 149, 152, 156, 164, 167]) 20 ?_
    refine Exists.intro (some 0) (And.intro rfl ?_)
    refine ct_init (st := [cb_r 42 0, cb_r 0 0]) (r := [cb_r 25 0]) (t := 42) (i := 0) (idx := 85) ok_X1_init hl0 hE rfl rfl wd_X1_init (Or.inl (cb_tw (i := 331) (by decide +kernel))) (cb_tw (i := 332) (by decide +kernel)) ⟨by decide, by decide⟩ (by decide +kernel) rfl (by decide) (by decide) (by decide) (by decide +kernel) ?_
    refine ⟨⟨rfl, rfl, rfl, rfl, rfl⟩, z + 56, rfl, ⟨hly 56 (43, 0) rfl, hly 57 (44, 0) rfl⟩, ⟨fun j => ⟨rfl, rfl, rfl⟩, fun j => ⟨rfl, rfl, rfl⟩⟩, ?_⟩
    refine ct_putF (idx := 86) (t := 0) (i := 0) (j := 13) (ed := 371) hin rfl rfl rfl (by decide) (by decide +kernel) rfl rfl rfl (by decide +kernel) ?_
    refine cb_run cb_sd_ok vd_X9_init (cuts := [1, 8, 10, 15, 19, 23, 26, 31, 35, 39, 42, 46, 50, 53, 57, 61, 64, 69, 72, 77, 81, 93, 96, 100, 104, 107, 111, 119, 122, 126, 134, 137, 141, 149, 152, 156, 164, 167]) 20 ?_
    refine ct_new (t := 45) (i := 0) (z := z + 58) (N := 1) (idx := 90) rfl (hly 58 (45, 0) rfl) rfl rfl rfl ⟨cb_tw (i := 348) (by decide +kernel), cb_tw (i := 349) (by decide +kernel), cb_tw (i := 10) (by decide +kernel)⟩ ⟨rfl, rfl, rfl⟩ (fun j => ⟨rfl, rfl, rfl⟩) (by decide) (by decide) (by decide +kernel) ?_
    refine cb_run cb_sd_ok vd_X9_init (cuts := [1, 8, 10, 15, 19, 23, 26, 31, 35, 39, 42, 46, 50, 53, 57, 61, 64, 69, 72, 77, 81, 93, 96, 100, 104, 107, 111, 119, 122, 126, 134, 137, 141, 149, 152, 156, 164, 167]) 20 ?_
    refine Exists.intro (some 0) (And.intro rfl ?_)
    refine ct_init (st := [cb_r 45 0, cb_r 0 0]) (r := [cb_r 25 0]) (t := 45) (i := 0) (idx := 92) ok_X8_init hl0 hE rfl rfl wd_X8_init (Or.inl (cb_tw (i := 350) (by decide +kernel))) (cb_tw (i := 351) (by decide +kernel)) ⟨by decide, by decide⟩ (by decide +kernel) rfl (by decide) (by decide) (by decide) (by decide +kernel) ?_
    refine ⟨⟨rfl, rfl, rfl, rfl, rfl⟩, z + 59, rfl, trivial, trivial, ?_⟩
    refine ct_putF (idx := 93) (t := 0) (i := 0) (j := 14) (ed := 372) hin rfl rfl rfl (by decide) (by decide +kernel) rfl rfl rfl (by decide +kernel) ?_
    refine cb_run cb_sd_ok vd_X9_init (cuts := [1, 8, 10, 15, 19, 23, 26, 31, 35, 39, 42, 46, 50, 53, 57, 61, 64, 69, 72, 77, 81, 93, 96, 100, 104, 107, 111, 119, 122, 126, 134, 137, 141, 149, 152, 156, 164, 167]) 20 ?_
    exact And.intro rfl h
