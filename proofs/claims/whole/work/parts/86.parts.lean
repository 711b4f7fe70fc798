/-! ===== the constructors of the class's parts ===== -/
theorem cb_ab_old {a : cb_A} {t i t' i' : Nat} {z : Option Nat} (h : a.1 t i = true) : ((cb_ab a t' i', z) : cb_A).1 t i = true := by
  show (a.1 t i || _) = true
  rw [h]
  rfl
theorem ct_put {d : cb_D} {X : cb_X} {pc : Nat} {ls : cb_Ls} {st : List cb_V} {a : cb_A} {M : cb_M} {k n : Nat} {t i j idx ed : Nat} {q : vw_C} {v : cb_V} {M' : cb_M} (ha : a.1 t i = true) (hk : cb_kd cb_sd t = 0) (hq : cb_cl[cb_x cb_sd t]? = some q) (hj : j < q.2.2) (hw : tables_1[ed]? = some (.fieldLink d.own idx (q.2.1 j).1 (q.2.1 j).2.1 (q.2.1 j).2.2.1)) (hfin : (q.2.1 j).2.2.2 = false) (hs : cb_st cb_sd M t i j v = some M') (hd : decode d.cc pc = .ok (.putfield idx, 3))
    (h : cb_Gd cb_sd d X (pc + 3) ls st a M' k n) : cb_Gd cb_sd d X pc ls (v :: cb_r t i :: st) a M k n := by
  intro C H locs lc hP hS hL
  exact cb_1put cb_sd_ok C hP hS ha hk hq hj hw hfin hs hd (fun H1 locs1 hP1 hS1 => h C H1 locs1 lc hP1 hS1 hL)
def mm_X0 (M : cb_M) : cb_M := cb_sR (cb_sR (M) 39 0 1 (some 0)) 39 0 0 (some 0)
def ma_X0 (f : Nat → Nat → Bool) : Nat → Nat → Bool := cb_ab (f, none) 40 0
def pg_X0_init (G : cb_G) : cb_PT := fun As a M K => match As with
  | [.inr (.inr (some (t, i))), .inr (.inr (some (t1, i1)))] => (t = 39 ∧ i = 0 ∧ t1 = 25 ∧ i1 = 0 ∧ a.1 39 0 = true) ∧ ∃ z, a.2 = some z ∧ (G.ad 40 0 = z + 0) ∧ (cb_df M 40 0) ∧ K (.inl none) (ma_X0 a.1, some (z + 1)) (mm_X0 M)
  | _ => False
def md_X0_init : cb_D := (RX0, cX0_init, 2, none, (1, 8, 1, 30), [
  (0, .aload_n 0, 1, 0, 0, 0, 0),
  (4, .aload_n 0, 1, 0, 0, 0, 0),
  (5, .bipush 8, 2, 8, 0, 0, 0),
  (12, .aload_n 0, 1, 0, 0, 0, 0),
  (13, .aload_n 1, 1, 0, 1, 0, 0),
  (17, .return_, 1, 0, 0, 0, 0)],
  [], [])
set_option maxRecDepth 100000 in
theorem vd_X0_init : md_X0_init.cd.all (cb_vE md_X0_init) = true := by decide +kernel
theorem wd_X0_init : cb_wd yX0_init md_X0_init := ⟨cb_tw (i := 310) (by decide +kernel), cb_tw (i := 7) (by decide +kernel), by decide, by decide⟩
theorem pg_X0_to {G : cb_G} {As : List cb_V} {a : cb_A} {M : cb_M} {K : cb_Out → cb_A → cb_M → Prop} (h : pg_X0_init G As a M K) : ∃ z, As = [cb_r 39 0, cb_r 25 0] ∧ a.1 39 0 = true ∧ a.2 = some z ∧ (G.ad 40 0 = z + 0) ∧ (cb_df M 40 0) ∧ K (.inl none) (ma_X0 a.1, some (z + 1)) (mm_X0 M) := by
  unfold pg_X0_init at h
  split at h
  · obtain ⟨⟨rfl, rfl, rfl, rfl, ha⟩, z, h⟩ := h
    exact ⟨z, rfl, ha, h⟩
  · exact h.elim
theorem ok_X0_init : cb_MG yX0_init md_X0_init pg_X0_init := by
  refine cb_ofg ⟨plainFor_of_name (by decide), rfl⟩ (fun G As a M K h => ?_) rfl (by decide) (fun X As a M h hE hl0 hnm => ?_)
  · obtain ⟨z, rfl, -⟩ := pg_X0_to h
    exact (by decide : 2 ≤ 2)
  · obtain ⟨z, rfl, ha, hz, g0, f0, h⟩ := pg_X0_to h
    have hin : X.meth.name = "<init>" := hnm
    refine cb_run cb_sd_ok vd_X0_init (cuts := [1, 7, 9, 14]) 20 ?_
    refine ct_obj (idx := 3) (by decide +kernel) (cb_tw (i := 311) (by decide +kernel)) (cb_tw (i := 31) (by decide +kernel)) (cb_tw (i := 32) (by decide +kernel)) ⟨rfl, rfl, rfl⟩ (by decide) (by decide) (by decide) ?_
    refine cb_run cb_sd_ok vd_X0_init (cuts := [1, 7, 9, 14]) 20 ?_
    refine ct_newa (aty := .int) (t := 40) (i := 0) (z := z + 0) (N := 8) (kd := 0) hz g0 rfl (by decide) rfl rfl (fun _ w => by cases w) ⟨cb_tw (i := 161) (by decide +kernel), rfl⟩ rfl (by decide) (by decide) (fun j => cb_sv_df (fun j => ⟨(f0 j).1, (f0 j).2.1, (f0 j).2.2⟩) rfl X.G.ad) (by decide) (by decide) (by decide +kernel) ?_
    refine ct_putF (idx := 9) (t := 39) (i := 0) (j := 1) (ed := 313) hin (cb_ab_old (ha)) rfl rfl (by decide) (by decide +kernel) rfl rfl rfl (by decide +kernel) ?_
    refine cb_run cb_sd_ok vd_X0_init (cuts := [1, 7, 9, 14]) 20 ?_
    refine ct_putF (idx := 15) (t := 39) (i := 0) (j := 0) (ed := 312) hin (cb_ab_old (ha)) rfl rfl (by decide) (by decide +kernel) rfl rfl rfl (by decide +kernel) ?_
    refine cb_run cb_sd_ok vd_X0_init (cuts := [1, 7, 9, 14]) 20 ?_
    exact And.intro rfl h
def mm_X1 (M : cb_M) : cb_M := cb_sR (cb_sI (cb_sR (cb_sR (M) 42 0 1 (some 0)) 42 0 2 (some 0)) 42 0 3 (0)) 42 0 0 (some 0)
def ma_X1 (f : Nat → Nat → Bool) : Nat → Nat → Bool := cb_ab (cb_ab (f, none) 43 0, none) 44 0
def pg_X1_init (G : cb_G) : cb_PT := fun As a M K => match As with
  | [.inr (.inr (some (t, i))), .inr (.inr (some (t1, i1)))] => (t = 42 ∧ i = 0 ∧ t1 = 25 ∧ i1 = 0 ∧ a.1 42 0 = true) ∧ ∃ z, a.2 = some z ∧ (G.ad 43 0 = z + 0 ∧ G.ad 44 0 = z + 1) ∧ (cb_df M 43 0 ∧ cb_df M 44 0) ∧ K (.inl none) (ma_X1 a.1, some (z + 2)) (mm_X1 M)
  | _ => False
def md_X1_init : cb_D := (RX1, cX1_init, 2, none, (2, 8, 1, 30), [
  (0, .aload_n 0, 1, 0, 0, 0, 0),
  (4, .aload_n 0, 1, 0, 0, 0, 0),
  (5, .iconst 4, 1, 4, 0, 0, 0),
  (11, .aload_n 0, 1, 0, 0, 0, 0),
  (12, .iconst 4, 1, 4, 0, 0, 0),
  (18, .aload_n 0, 1, 0, 0, 0, 0),
  (19, .iconst 0, 1, 0, 0, 0, 0),
  (23, .aload_n 0, 1, 0, 0, 0, 0),
  (24, .aload_n 1, 1, 0, 1, 0, 0),
  (28, .return_, 1, 0, 0, 0, 0)],
  [], [])
set_option maxRecDepth 100000 in
theorem vd_X1_init : md_X1_init.cd.all (cb_vE md_X1_init) = true := by decide +kernel
theorem wd_X1_init : cb_wd yX1_init md_X1_init := ⟨cb_tw (i := 333) (by decide +kernel), cb_tw (i := 9) (by decide +kernel), by decide, by decide⟩
theorem pg_X1_to {G : cb_G} {As : List cb_V} {a : cb_A} {M : cb_M} {K : cb_Out → cb_A → cb_M → Prop} (h : pg_X1_init G As a M K) : ∃ z, As = [cb_r 42 0, cb_r 25 0] ∧ a.1 42 0 = true ∧ a.2 = some z ∧ (G.ad 43 0 = z + 0 ∧ G.ad 44 0 = z + 1) ∧ (cb_df M 43 0 ∧ cb_df M 44 0) ∧ K (.inl none) (ma_X1 a.1, some (z + 2)) (mm_X1 M) := by
  unfold pg_X1_init at h
  split at h
  · obtain ⟨⟨rfl, rfl, rfl, rfl, ha⟩, z, h⟩ := h
    exact ⟨z, rfl, ha, h⟩
  · exact h.elim
theorem ok_X1_init : cb_MG yX1_init md_X1_init pg_X1_init := by
  refine cb_ofg ⟨plainFor_of_name (by decide), rfl⟩ (fun G As a M K h => ?_) rfl (by decide) (fun X As a M h hE hl0 hnm => ?_)
  · obtain ⟨z, rfl, -⟩ := pg_X1_to h
    exact (by decide : 2 ≤ 2)
  · obtain ⟨z, rfl, ha, hz, ⟨g0, g1⟩, ⟨f0, f1⟩, h⟩ := pg_X1_to h
    have hin : X.meth.name = "<init>" := hnm
    refine cb_run cb_sd_ok vd_X1_init (cuts := [1, 6, 8, 13, 15, 20, 25]) 20 ?_
    refine ct_obj (idx := 3) (by decide +kernel) (cb_tw (i := 334) (by decide +kernel)) (cb_tw (i := 31) (by decide +kernel)) (cb_tw (i := 32) (by decide +kernel)) ⟨rfl, rfl, rfl⟩ (by decide) (by decide) (by decide) ?_
    refine cb_run cb_sd_ok vd_X1_init (cuts := [1, 6, 8, 13, 15, 20, 25]) 20 ?_
    refine ct_newa (aty := .int) (t := 43) (i := 0) (z := z + 0) (N := 4) (kd := 0) hz g0 rfl (by decide) rfl rfl (fun _ w => by cases w) ⟨cb_tw (i := 161) (by decide +kernel), rfl⟩ rfl (by decide) (by decide) (fun j => cb_sv_df (fun j => ⟨(f0 j).1, (f0 j).2.1, (f0 j).2.2⟩) rfl X.G.ad) (by decide) (by decide) (by decide +kernel) ?_
    refine ct_putF (idx := 9) (t := 42) (i := 0) (j := 1) (ed := 336) hin (cb_ab_old (ha)) rfl rfl (by decide) (by decide +kernel) rfl rfl rfl (by decide +kernel) ?_
    refine cb_run cb_sd_ok vd_X1_init (cuts := [1, 6, 8, 13, 15, 20, 25]) 20 ?_
    refine ct_newa (aty := .int) (t := 44) (i := 0) (z := z + 1) (N := 4) (kd := 0) rfl g1 rfl (by decide) rfl rfl (fun _ w => by cases w) ⟨cb_tw (i := 161) (by decide +kernel), rfl⟩ rfl (by decide) (by decide) (fun j => cb_sv_df (fun j => ⟨(f1 j).1, (f1 j).2.1, (f1 j).2.2⟩) rfl X.G.ad) (by decide) (by decide) (by decide +kernel) ?_
    refine ct_putF (idx := 15) (t := 42) (i := 0) (j := 2) (ed := 337) hin (cb_ab_old (cb_ab_old (ha))) rfl rfl (by decide) (by decide +kernel) rfl rfl rfl (by decide +kernel) ?_
    refine cb_run cb_sd_ok vd_X1_init (cuts := [1, 6, 8, 13, 15, 20, 25]) 20 ?_
    refine ct_put (idx := 18) (t := 42) (i := 0) (j := 3) (ed := 338) (cb_ab_old (cb_ab_old (ha))) rfl rfl (by decide) (by decide +kernel) rfl rfl (by decide +kernel) ?_
    refine cb_run cb_sd_ok vd_X1_init (cuts := [1, 6, 8, 13, 15, 20, 25]) 20 ?_
    refine ct_putF (idx := 22) (t := 42) (i := 0) (j := 0) (ed := 335) hin (cb_ab_old (cb_ab_old (ha))) rfl rfl (by decide) (by decide +kernel) rfl rfl rfl (by decide +kernel) ?_
    refine cb_run cb_sd_ok vd_X1_init (cuts := [1, 6, 8, 13, 15, 20, 25]) 20 ?_
    exact And.intro rfl h
def mm_X2 (M : cb_M) : cb_M := cb_sR (cb_sI (M) 37 0 0 (0)) 37 0 1 (some 0)
def ma_X2 (f : Nat → Nat → Bool) : Nat → Nat → Bool := cb_ab (f, none) 38 0
def pg_X2_init (G : cb_G) : cb_PT := fun As a M K => match As with
  | [.inr (.inr (some (t, i)))] => (t = 37 ∧ i = 0 ∧ a.1 37 0 = true) ∧ ∃ z, a.2 = some z ∧ (G.ad 38 0 = z + 0) ∧ (cb_df M 38 0) ∧ K (.inl none) (ma_X2 a.1, some (z + 1)) (mm_X2 M)
  | _ => False
def md_X2_init : cb_D := (RX2, cX2_init, 1, none, (1, 8, 1, 30), [
  (0, .aload_n 0, 1, 0, 0, 0, 0),
  (4, .aload_n 0, 1, 0, 0, 0, 0),
  (5, .iconst 0, 1, 0, 0, 0, 0),
  (9, .aload_n 0, 1, 0, 0, 0, 0),
  (10, .bipush 8, 2, 8, 0, 0, 0),
  (17, .return_, 1, 0, 0, 0, 0)],
  [], [])
set_option maxRecDepth 100000 in
theorem vd_X2_init : md_X2_init.cd.all (cb_vE md_X2_init) = true := by decide +kernel
theorem wd_X2_init : cb_wd yX2_init md_X2_init := ⟨cb_tw (i := 297) (by decide +kernel), cb_tw (i := 6) (by decide +kernel), by decide, by decide⟩
theorem pg_X2_to {G : cb_G} {As : List cb_V} {a : cb_A} {M : cb_M} {K : cb_Out → cb_A → cb_M → Prop} (h : pg_X2_init G As a M K) : ∃ z, As = [cb_r 37 0] ∧ a.1 37 0 = true ∧ a.2 = some z ∧ (G.ad 38 0 = z + 0) ∧ (cb_df M 38 0) ∧ K (.inl none) (ma_X2 a.1, some (z + 1)) (mm_X2 M) := by
  unfold pg_X2_init at h
  split at h
  · obtain ⟨⟨rfl, rfl, ha⟩, z, h⟩ := h
    exact ⟨z, rfl, ha, h⟩
  · exact h.elim
theorem ok_X2_init : cb_MG yX2_init md_X2_init pg_X2_init := by
  refine cb_ofg ⟨plainFor_of_name (by decide), rfl⟩ (fun G As a M K h => ?_) rfl (by decide) (fun X As a M h hE hl0 hnm => ?_)
  · obtain ⟨z, rfl, -⟩ := pg_X2_to h
    exact (by decide : 1 ≤ 1)
  · obtain ⟨z, rfl, ha, hz, g0, f0, h⟩ := pg_X2_to h
    have hin : X.meth.name = "<init>" := hnm
    refine cb_run cb_sd_ok vd_X2_init (cuts := [1, 6, 12, 14]) 20 ?_
    refine ct_obj (idx := 3) (by decide +kernel) (cb_tw (i := 298) (by decide +kernel)) (cb_tw (i := 31) (by decide +kernel)) (cb_tw (i := 32) (by decide +kernel)) ⟨rfl, rfl, rfl⟩ (by decide) (by decide) (by decide) ?_
    refine cb_run cb_sd_ok vd_X2_init (cuts := [1, 6, 12, 14]) 20 ?_
    refine ct_put (idx := 9) (t := 37) (i := 0) (j := 0) (ed := 299) (ha) rfl rfl (by decide) (by decide +kernel) rfl rfl (by decide +kernel) ?_
    refine cb_run cb_sd_ok vd_X2_init (cuts := [1, 6, 12, 14]) 20 ?_
    refine ct_newa (aty := .int) (t := 38) (i := 0) (z := z + 0) (N := 8) (kd := 0) hz g0 rfl (by decide) rfl rfl (fun _ w => by cases w) ⟨cb_tw (i := 161) (by decide +kernel), rfl⟩ rfl (by decide) (by decide) (fun j => cb_sv_df (fun j => ⟨(f0 j).1, (f0 j).2.1, (f0 j).2.2⟩) rfl X.G.ad) (by decide) (by decide) (by decide +kernel) ?_
    refine ct_putF (idx := 15) (t := 37) (i := 0) (j := 1) (ed := 300) hin (cb_ab_old (ha)) rfl rfl (by decide) (by decide +kernel) rfl rfl rfl (by decide +kernel) ?_
    refine cb_run cb_sd_ok vd_X2_init (cuts := [1, 6, 12, 14]) 20 ?_
    exact And.intro rfl h
def mm_X3 (M : cb_M) (i : Nat) : cb_M := cb_sR (cb_sR (cb_sR (cb_sR (cb_sR (cb_sR (cb_sR (cb_sI (M) 16 i 0 (0)) 16 i 1 (some i)) 16 i 2 (some i)) 16 i 3 (some i)) 16 i 4 (some i)) 16 i 5 (some i)) 16 i 6 (some i)) 16 i 7 (some i)
def ma_X3 (f : Nat → Nat → Bool) (i : Nat) : Nat → Nat → Bool := cb_ab (cb_ab (cb_ab (cb_ab (cb_ab (cb_ab (cb_ab (f, none) 17 i, none) 18 i, none) 19 i, none) 20 i, none) 21 i, none) 22 i, none) 23 i
def pg_X3_init (G : cb_G) : cb_PT := fun As a M K => match As with
  | [.inr (.inr (some (t, i)))] => (t = 16 ∧ a.1 16 i = true) ∧ ∃ z, a.2 = some z ∧ (G.ad 17 i = z + 0 ∧ G.ad 18 i = z + 1 ∧ G.ad 19 i = z + 2 ∧ G.ad 20 i = z + 3 ∧ G.ad 21 i = z + 4 ∧ G.ad 22 i = z + 5 ∧ G.ad 23 i = z + 6) ∧ (cb_df M 17 i ∧ cb_df M 18 i ∧ cb_df M 19 i ∧ cb_df M 20 i ∧ cb_df M 21 i ∧ cb_df M 22 i ∧ cb_df M 23 i) ∧ K (.inl none) (ma_X3 a.1 i, some (z + 7)) (mm_X3 M i)
  | _ => False
def md_X3_init : cb_D := (RX3, cX3_init, 1, none, (7, 3244, 1, 30), [
  (0, .aload_n 0, 1, 0, 0, 0, 0),
  (4, .aload_n 0, 1, 0, 0, 0, 0),
  (5, .iconst 0, 1, 0, 0, 0, 0),
  (9, .aload_n 0, 1, 0, 0, 0, 0),
  (10, .bipush 8, 2, 8, 0, 0, 0),
  (17, .aload_n 0, 1, 0, 0, 0, 0),
  (18, .bipush 8, 2, 8, 0, 0, 0),
  (25, .aload_n 0, 1, 0, 0, 0, 0),
  (26, .bipush 8, 2, 8, 0, 0, 0),
  (33, .aload_n 0, 1, 0, 0, 0, 0),
  (34, .bipush 6, 2, 6, 0, 0, 0),
  (41, .aload_n 0, 1, 0, 0, 0, 0),
  (42, .bipush 6, 2, 6, 0, 0, 0),
  (49, .aload_n 0, 1, 0, 0, 0, 0),
  (50, .bipush 8, 2, 8, 0, 0, 0),
  (57, .aload_n 0, 1, 0, 0, 0, 0),
  (58, .sipush 3200, 3, 3200, 0, 0, 0),
  (66, .return_, 1, 0, 0, 0, 0)],
  [], [])
set_option maxRecDepth 100000 in
theorem vd_X3_init : md_X3_init.cd.all (cb_vE md_X3_init) = true := by decide +kernel
theorem wd_X3_init : cb_wd yX3_init md_X3_init := ⟨cb_tw (i := 166) (by decide +kernel), cb_tw (i := 4) (by decide +kernel), by decide, by decide⟩
theorem pg_X3_to {G : cb_G} {As : List cb_V} {a : cb_A} {M : cb_M} {K : cb_Out → cb_A → cb_M → Prop} (h : pg_X3_init G As a M K) : ∃ i z, As = [cb_r 16 i] ∧ a.1 16 i = true ∧ a.2 = some z ∧ (G.ad 17 i = z + 0 ∧ G.ad 18 i = z + 1 ∧ G.ad 19 i = z + 2 ∧ G.ad 20 i = z + 3 ∧ G.ad 21 i = z + 4 ∧ G.ad 22 i = z + 5 ∧ G.ad 23 i = z + 6) ∧ (cb_df M 17 i ∧ cb_df M 18 i ∧ cb_df M 19 i ∧ cb_df M 20 i ∧ cb_df M 21 i ∧ cb_df M 22 i ∧ cb_df M 23 i) ∧ K (.inl none) (ma_X3 a.1 i, some (z + 7)) (mm_X3 M i) := by
  unfold pg_X3_init at h
  split at h
  · obtain ⟨⟨rfl, ha⟩, z, h⟩ := h
    exact ⟨_, z, rfl, ha, h⟩
  · exact h.elim
theorem ok_X3_init : cb_MG yX3_init md_X3_init pg_X3_init := by
  refine cb_ofg ⟨plainFor_of_name (by decide), rfl⟩ (fun G As a M K h => ?_) rfl (by decide) (fun X As a M h hE hl0 hnm => ?_)
  · obtain ⟨i, z, rfl, -⟩ := pg_X3_to h
    exact (by decide : 1 ≤ 1)
  · obtain ⟨i, z, rfl, ha, hz, ⟨g0, g1, g2, g3, g4, g5, g6⟩, ⟨f0, f1, f2, f3, f4, f5, f6⟩, h⟩ := pg_X3_to h
    have hin : X.meth.name = "<init>" := hnm
    refine cb_run cb_sd_ok vd_X3_init (cuts := [1, 6, 12, 14, 20, 22, 28, 30, 36, 38, 44, 46, 52, 54, 61, 63]) 20 ?_
    refine ct_obj (idx := 3) (by decide +kernel) (cb_tw (i := 167) (by decide +kernel)) (cb_tw (i := 31) (by decide +kernel)) (cb_tw (i := 32) (by decide +kernel)) ⟨rfl, rfl, rfl⟩ (by decide) (by decide) (by decide) ?_
    refine cb_run cb_sd_ok vd_X3_init (cuts := [1, 6, 12, 14, 20, 22, 28, 30, 36, 38, 44, 46, 52, 54, 61, 63]) 20 ?_
    refine ct_put (idx := 9) (t := 16) (i := i) (j := 0) (ed := 168) (ha) rfl rfl (by decide) (by decide +kernel) rfl rfl (by decide +kernel) ?_
    refine cb_run cb_sd_ok vd_X3_init (cuts := [1, 6, 12, 14, 20, 22, 28, 30, 36, 38, 44, 46, 52, 54, 61, 63]) 20 ?_
    refine ct_newa (aty := .int) (t := 17) (i := i) (z := z + 0) (N := 8) (kd := 0) hz g0 rfl (by decide) rfl rfl (fun _ w => by cases w) ⟨cb_tw (i := 161) (by decide +kernel), rfl⟩ rfl (by decide) (by decide) (fun j => cb_sv_df (fun j => ⟨(f0 j).1, (f0 j).2.1, (f0 j).2.2⟩) rfl X.G.ad) (by decide) (by decide) (by decide +kernel) ?_
    refine ct_putF (idx := 15) (t := 16) (i := i) (j := 1) (ed := 172) hin (cb_ab_old (ha)) rfl rfl (by decide) (by decide +kernel) rfl rfl rfl (by decide +kernel) ?_
    refine cb_run cb_sd_ok vd_X3_init (cuts := [1, 6, 12, 14, 20, 22, 28, 30, 36, 38, 44, 46, 52, 54, 61, 63]) 20 ?_
    refine ct_newa (aty := .int) (t := 18) (i := i) (z := z + 1) (N := 8) (kd := 0) rfl g1 rfl (by decide) rfl rfl (fun _ w => by cases w) ⟨cb_tw (i := 161) (by decide +kernel), rfl⟩ rfl (by decide) (by decide) (fun j => cb_sv_df (fun j => ⟨(f1 j).1, (f1 j).2.1, (f1 j).2.2⟩) rfl X.G.ad) (by decide) (by decide) (by decide +kernel) ?_
    refine ct_putF (idx := 19) (t := 16) (i := i) (j := 2) (ed := 176) hin (cb_ab_old (cb_ab_old (ha))) rfl rfl (by decide) (by decide +kernel) rfl rfl rfl (by decide +kernel) ?_
    refine cb_run cb_sd_ok vd_X3_init (cuts := [1, 6, 12, 14, 20, 22, 28, 30, 36, 38, 44, 46, 52, 54, 61, 63]) 20 ?_
    refine ct_newa (aty := .int) (t := 19) (i := i) (z := z + 2) (N := 8) (kd := 0) rfl g2 rfl (by decide) rfl rfl (fun _ w => by cases w) ⟨cb_tw (i := 161) (by decide +kernel), rfl⟩ rfl (by decide) (by decide) (fun j => cb_sv_df (fun j => ⟨(f2 j).1, (f2 j).2.1, (f2 j).2.2⟩) rfl X.G.ad) (by decide) (by decide) (by decide +kernel) ?_
    refine ct_putF (idx := 22) (t := 16) (i := i) (j := 3) (ed := 180) hin (cb_ab_old (cb_ab_old (cb_ab_old (ha)))) rfl rfl (by decide) (by decide +kernel) rfl rfl rfl (by decide +kernel) ?_
    refine cb_run cb_sd_ok vd_X3_init (cuts := [1, 6, 12, 14, 20, 22, 28, 30, 36, 38, 44, 46, 52, 54, 61, 63]) 20 ?_
    refine ct_newa (aty := .int) (t := 20) (i := i) (z := z + 3) (N := 6) (kd := 0) rfl g3 rfl (by decide) rfl rfl (fun _ w => by cases w) ⟨cb_tw (i := 161) (by decide +kernel), rfl⟩ rfl (by decide) (by decide) (fun j => cb_sv_df (fun j => ⟨(f3 j).1, (f3 j).2.1, (f3 j).2.2⟩) rfl X.G.ad) (by decide) (by decide) (by decide +kernel) ?_
    refine ct_putF (idx := 25) (t := 16) (i := i) (j := 4) (ed := 184) hin (cb_ab_old (cb_ab_old (cb_ab_old (cb_ab_old (ha))))) rfl rfl (by decide) (by decide +kernel) rfl rfl rfl (by decide +kernel) ?_
    refine cb_run cb_sd_ok vd_X3_init (cuts := [1, 6, 12, 14, 20, 22, 28, 30, 36, 38, 44, 46, 52, 54, 61, 63]) 20 ?_
    refine ct_newa (aty := .int) (t := 21) (i := i) (z := z + 4) (N := 6) (kd := 0) rfl g4 rfl (by decide) rfl rfl (fun _ w => by cases w) ⟨cb_tw (i := 161) (by decide +kernel), rfl⟩ rfl (by decide) (by decide) (fun j => cb_sv_df (fun j => ⟨(f4 j).1, (f4 j).2.1, (f4 j).2.2⟩) rfl X.G.ad) (by decide) (by decide) (by decide +kernel) ?_
    refine ct_putF (idx := 28) (t := 16) (i := i) (j := 5) (ed := 187) hin (cb_ab_old (cb_ab_old (cb_ab_old (cb_ab_old (cb_ab_old (ha)))))) rfl rfl (by decide) (by decide +kernel) rfl rfl rfl (by decide +kernel) ?_
    refine cb_run cb_sd_ok vd_X3_init (cuts := [1, 6, 12, 14, 20, 22, 28, 30, 36, 38, 44, 46, 52, 54, 61, 63]) 20 ?_
    refine ct_newa (aty := .int) (t := 22) (i := i) (z := z + 5) (N := 8) (kd := 0) rfl g5 rfl (by decide) rfl rfl (fun _ w => by cases w) ⟨cb_tw (i := 161) (by decide +kernel), rfl⟩ rfl (by decide) (by decide) (fun j => cb_sv_df (fun j => ⟨(f5 j).1, (f5 j).2.1, (f5 j).2.2⟩) rfl X.G.ad) (by decide) (by decide) (by decide +kernel) ?_
    refine ct_putF (idx := 31) (t := 16) (i := i) (j := 6) (ed := 190) hin (cb_ab_old (cb_ab_old (cb_ab_old (cb_ab_old (cb_ab_old (cb_ab_old (ha))))))) rfl rfl (by decide) (by decide +kernel) rfl rfl rfl (by decide +kernel) ?_
    refine cb_run cb_sd_ok vd_X3_init (cuts := [1, 6, 12, 14, 20, 22, 28, 30, 36, 38, 44, 46, 52, 54, 61, 63]) 20 ?_
    refine ct_newa (aty := .int) (t := 23) (i := i) (z := z + 6) (N := 3200) (kd := 0) rfl g6 rfl (by decide) rfl rfl (fun _ w => by cases w) ⟨cb_tw (i := 161) (by decide +kernel), rfl⟩ rfl (by decide) (by decide) (fun j => cb_sv_df (fun j => ⟨(f6 j).1, (f6 j).2.1, (f6 j).2.2⟩) rfl X.G.ad) (by decide) (by decide) (by decide +kernel) ?_
    refine ct_putF (idx := 34) (t := 16) (i := i) (j := 7) (ed := 193) hin (cb_ab_old (cb_ab_old (cb_ab_old (cb_ab_old (cb_ab_old (cb_ab_old (cb_ab_old (ha)))))))) rfl rfl (by decide) (by decide +kernel) rfl rfl rfl (by decide +kernel) ?_
    refine cb_run cb_sd_ok vd_X3_init (cuts := [1, 6, 12, 14, 20, 22, 28, 30, 36, 38, 44, 46, 52, 54, 61, 63]) 20 ?_
    exact And.intro rfl h
def mm_X4 (M : cb_M) (i : Nat) : cb_M := cb_sR (cb_sR (cb_sR (cb_sR (cb_sR (cb_sR (cb_sR (cb_sR (cb_sR (cb_sR (cb_sR (cb_sR (cb_sI (cb_sI (cb_sI (cb_sI (cb_sI (M) 3 i 0 (0)) 3 i 1 (0)) 3 i 2 (0)) 3 i 3 (0)) 3 i 4 (50)) 3 i 5 (some i)) 3 i 6 (some i)) 3 i 7 (some i)) 3 i 8 (some i)) 3 i 9 (some i)) 3 i 10 (some i)) 3 i 11 (some i)) 3 i 12 (some i)) 3 i 13 (some i)) 3 i 14 (some i)) 3 i 15 (some i)) 3 i 16 (some i)
def ma_X4 (f : Nat → Nat → Bool) (i : Nat) : Nat → Nat → Bool := cb_ab (cb_ab (cb_ab (cb_ab (cb_ab (cb_ab (cb_ab (cb_ab (cb_ab (cb_ab (cb_ab (cb_ab (f, none) 4 i, none) 5 i, none) 6 i, none) 7 i, none) 8 i, none) 9 i, none) 10 i, none) 11 i, none) 12 i, none) 13 i, none) 14 i, none) 15 i
def pg_X4_init (G : cb_G) : cb_PT := fun As a M K => match As with
  | [.inr (.inr (some (t, i)))] => (t = 3 ∧ a.1 3 i = true) ∧ ∃ z, a.2 = some z ∧ (G.ad 4 i = z + 0 ∧ G.ad 5 i = z + 1 ∧ G.ad 6 i = z + 2 ∧ G.ad 7 i = z + 3 ∧ G.ad 8 i = z + 4 ∧ G.ad 9 i = z + 5 ∧ G.ad 10 i = z + 6 ∧ G.ad 11 i = z + 7 ∧ G.ad 12 i = z + 8 ∧ G.ad 13 i = z + 9 ∧ G.ad 14 i = z + 10 ∧ G.ad 15 i = z + 11) ∧ (cb_df M 4 i ∧ cb_df M 5 i ∧ cb_df M 6 i ∧ cb_df M 7 i ∧ cb_df M 8 i ∧ cb_df M 9 i ∧ cb_df M 10 i ∧ cb_df M 11 i ∧ cb_df M 12 i ∧ cb_df M 13 i ∧ cb_df M 14 i ∧ cb_df M 15 i) ∧ K (.inl none) (ma_X4 a.1 i, some (z + 12)) (mm_X4 M i)
  | _ => False
def md_X4_init : cb_D := (RX4, cX4_init, 1, none, (12, 536, 1, 30), [
  (0, .aload_n 0, 1, 0, 0, 0, 0),
  (4, .aload_n 0, 1, 0, 0, 0, 0),
  (5, .iconst 0, 1, 0, 0, 0, 0),
  (9, .aload_n 0, 1, 0, 0, 0, 0),
  (10, .iconst 0, 1, 0, 0, 0, 0),
  (14, .aload_n 0, 1, 0, 0, 0, 0),
  (15, .iconst 0, 1, 0, 0, 0, 0),
  (19, .aload_n 0, 1, 0, 0, 0, 0),
  (20, .iconst 0, 1, 0, 0, 0, 0),
  (24, .aload_n 0, 1, 0, 0, 0, 0),
  (25, .bipush 50, 2, 50, 0, 0, 0),
  (30, .aload_n 0, 1, 0, 0, 0, 0),
  (31, .iconst 4, 1, 4, 0, 0, 0),
  (37, .aload_n 0, 1, 0, 0, 0, 0),
  (38, .bipush 8, 2, 8, 0, 0, 0),
  (45, .aload_n 0, 1, 0, 0, 0, 0),
  (46, .bipush 8, 2, 8, 0, 0, 0),
  (53, .aload_n 0, 1, 0, 0, 0, 0),
  (54, .bipush 8, 2, 8, 0, 0, 0),
  (61, .aload_n 0, 1, 0, 0, 0, 0),
  (62, .bipush 8, 2, 8, 0, 0, 0),
  (69, .aload_n 0, 1, 0, 0, 0, 0),
  (70, .bipush 8, 2, 8, 0, 0, 0),
  (77, .aload_n 0, 1, 0, 0, 0, 0),
  (78, .bipush 8, 2, 8, 0, 0, 0),
  (85, .aload_n 0, 1, 0, 0, 0, 0),
  (86, .bipush 8, 2, 8, 0, 0, 0),
  (93, .aload_n 0, 1, 0, 0, 0, 0),
  (94, .bipush 6, 2, 6, 0, 0, 0),
  (101, .aload_n 0, 1, 0, 0, 0, 0),
  (102, .bipush 6, 2, 6, 0, 0, 0),
  (109, .aload_n 0, 1, 0, 0, 0, 0),
  (110, .bipush 64, 2, 64, 0, 0, 0),
  (117, .aload_n 0, 1, 0, 0, 0, 0),
  (118, .sipush 400, 3, 400, 0, 0, 0),
  (126, .return_, 1, 0, 0, 0, 0)],
  [], [])
set_option maxRecDepth 100000 in
theorem vd_X4_init : md_X4_init.cd.all (cb_vE md_X4_init) = true := by decide +kernel
theorem wd_X4_init : cb_wd yX4_init md_X4_init := ⟨cb_tw (i := 64) (by decide +kernel), cb_tw (i := 3) (by decide +kernel), by decide, by decide⟩
theorem pg_X4_to {G : cb_G} {As : List cb_V} {a : cb_A} {M : cb_M} {K : cb_Out → cb_A → cb_M → Prop} (h : pg_X4_init G As a M K) : ∃ i z, As = [cb_r 3 i] ∧ a.1 3 i = true ∧ a.2 = some z ∧ (G.ad 4 i = z + 0 ∧ G.ad 5 i = z + 1 ∧ G.ad 6 i = z + 2 ∧ G.ad 7 i = z + 3 ∧ G.ad 8 i = z + 4 ∧ G.ad 9 i = z + 5 ∧ G.ad 10 i = z + 6 ∧ G.ad 11 i = z + 7 ∧ G.ad 12 i = z + 8 ∧ G.ad 13 i = z + 9 ∧ G.ad 14 i = z + 10 ∧ G.ad 15 i = z + 11) ∧ (cb_df M 4 i ∧ cb_df M 5 i ∧ cb_df M 6 i ∧ cb_df M 7 i ∧ cb_df M 8 i ∧ cb_df M 9 i ∧ cb_df M 10 i ∧ cb_df M 11 i ∧ cb_df M 12 i ∧ cb_df M 13 i ∧ cb_df M 14 i ∧ cb_df M 15 i) ∧ K (.inl none) (ma_X4 a.1 i, some (z + 12)) (mm_X4 M i) := by
  unfold pg_X4_init at h
  split at h
  · obtain ⟨⟨rfl, ha⟩, z, h⟩ := h
    exact ⟨_, z, rfl, ha, h⟩
  · exact h.elim
theorem ok_X4_init : cb_MG yX4_init md_X4_init pg_X4_init := by
  refine cb_ofg ⟨plainFor_of_name (by decide), rfl⟩ (fun G As a M K h => ?_) rfl (by decide) (fun X As a M h hE hl0 hnm => ?_)
  · obtain ⟨i, z, rfl, -⟩ := pg_X4_to h
    exact (by decide : 1 ≤ 1)
  · obtain ⟨i, z, rfl, ha, hz, ⟨g0, g1, g2, g3, g4, g5, g6, g7, g8, g9, g10, g11⟩, ⟨f0, f1, f2, f3, f4, f5, f6, f7, f8, f9, f10, f11⟩, h⟩ := pg_X4_to h
    have hin : X.meth.name = "<init>" := hnm
    refine cb_run cb_sd_ok vd_X4_init (cuts := [1, 6, 11, 16, 21, 27, 32, 34, 40, 42, 48, 50, 56, 58, 64, 66, 72, 74, 80, 82, 88, 90, 96, 98, 104, 106, 112, 114, 121, 123]) 20 ?_
    refine ct_obj (idx := 3) (by decide +kernel) (cb_tw (i := 65) (by decide +kernel)) (cb_tw (i := 31) (by decide +kernel)) (cb_tw (i := 32) (by decide +kernel)) ⟨rfl, rfl, rfl⟩ (by decide) (by decide) (by decide) ?_
    refine cb_run cb_sd_ok vd_X4_init (cuts := [1, 6, 11, 16, 21, 27, 32, 34, 40, 42, 48, 50, 56, 58, 64, 66, 72, 74, 80, 82, 88, 90, 96, 98, 104, 106, 112, 114, 121, 123]) 20 ?_
    refine ct_put (idx := 9) (t := 3) (i := i) (j := 0) (ed := 66) (ha) rfl rfl (by decide) (by decide +kernel) rfl rfl (by decide +kernel) ?_
    refine cb_run cb_sd_ok vd_X4_init (cuts := [1, 6, 11, 16, 21, 27, 32, 34, 40, 42, 48, 50, 56, 58, 64, 66, 72, 74, 80, 82, 88, 90, 96, 98, 104, 106, 112, 114, 121, 123]) 20 ?_
    refine ct_put (idx := 15) (t := 3) (i := i) (j := 1) (ed := 70) (ha) rfl rfl (by decide) (by decide +kernel) rfl rfl (by decide +kernel) ?_
    refine cb_run cb_sd_ok vd_X4_init (cuts := [1, 6, 11, 16, 21, 27, 32, 34, 40, 42, 48, 50, 56, 58, 64, 66, 72, 74, 80, 82, 88, 90, 96, 98, 104, 106, 112, 114, 121, 123]) 20 ?_
    refine ct_put (idx := 18) (t := 3) (i := i) (j := 2) (ed := 74) (ha) rfl rfl (by decide) (by decide +kernel) rfl rfl (by decide +kernel) ?_
    refine cb_run cb_sd_ok vd_X4_init (cuts := [1, 6, 11, 16, 21, 27, 32, 34, 40, 42, 48, 50, 56, 58, 64, 66, 72, 74, 80, 82, 88, 90, 96, 98, 104, 106, 112, 114, 121, 123]) 20 ?_
    refine ct_put (idx := 21) (t := 3) (i := i) (j := 3) (ed := 78) (ha) rfl rfl (by decide) (by decide +kernel) rfl rfl (by decide +kernel) ?_
    refine cb_run cb_sd_ok vd_X4_init (cuts := [1, 6, 11, 16, 21, 27, 32, 34, 40, 42, 48, 50, 56, 58, 64, 66, 72, 74, 80, 82, 88, 90, 96, 98, 104, 106, 112, 114, 121, 123]) 20 ?_
    refine ct_put (idx := 24) (t := 3) (i := i) (j := 4) (ed := 82) (ha) rfl rfl (by decide) (by decide +kernel) rfl rfl (by decide +kernel) ?_
    refine cb_run cb_sd_ok vd_X4_init (cuts := [1, 6, 11, 16, 21, 27, 32, 34, 40, 42, 48, 50, 56, 58, 64, 66, 72, 74, 80, 82, 88, 90, 96, 98, 104, 106, 112, 114, 121, 123]) 20 ?_
    refine ct_newa (aty := .int) (t := 4) (i := i) (z := z + 0) (N := 4) (kd := 0) hz g0 rfl (by decide) rfl rfl (fun _ w => by cases w) ⟨cb_tw (i := 161) (by decide +kernel), rfl⟩ rfl (by decide) (by decide) (fun j => cb_sv_df (fun j => ⟨(f0 j).1, (f0 j).2.1, (f0 j).2.2⟩) rfl X.G.ad) (by decide) (by decide) (by decide +kernel) ?_
    refine ct_putF (idx := 27) (t := 3) (i := i) (j := 5) (ed := 85) hin (cb_ab_old (ha)) rfl rfl (by decide) (by decide +kernel) rfl rfl rfl (by decide +kernel) ?_
    refine cb_run cb_sd_ok vd_X4_init (cuts := [1, 6, 11, 16, 21, 27, 32, 34, 40, 42, 48, 50, 56, 58, 64, 66, 72, 74, 80, 82, 88, 90, 96, 98, 104, 106, 112, 114, 121, 123]) 20 ?_
    refine ct_newa (aty := .int) (t := 5) (i := i) (z := z + 1) (N := 8) (kd := 0) rfl g1 rfl (by decide) rfl rfl (fun _ w => by cases w) ⟨cb_tw (i := 161) (by decide +kernel), rfl⟩ rfl (by decide) (by decide) (fun j => cb_sv_df (fun j => ⟨(f1 j).1, (f1 j).2.1, (f1 j).2.2⟩) rfl X.G.ad) (by decide) (by decide) (by decide +kernel) ?_
    refine ct_putF (idx := 31) (t := 3) (i := i) (j := 6) (ed := 88) hin (cb_ab_old (cb_ab_old (ha))) rfl rfl (by decide) (by decide +kernel) rfl rfl rfl (by decide +kernel) ?_
    refine cb_run cb_sd_ok vd_X4_init (cuts := [1, 6, 11, 16, 21, 27, 32, 34, 40, 42, 48, 50, 56, 58, 64, 66, 72, 74, 80, 82, 88, 90, 96, 98, 104, 106, 112, 114, 121, 123]) 20 ?_
    refine ct_newa (aty := .int) (t := 6) (i := i) (z := z + 2) (N := 8) (kd := 0) rfl g2 rfl (by decide) rfl rfl (fun _ w => by cases w) ⟨cb_tw (i := 161) (by decide +kernel), rfl⟩ rfl (by decide) (by decide) (fun j => cb_sv_df (fun j => ⟨(f2 j).1, (f2 j).2.1, (f2 j).2.2⟩) rfl X.G.ad) (by decide) (by decide) (by decide +kernel) ?_
    refine ct_putF (idx := 34) (t := 3) (i := i) (j := 7) (ed := 91) hin (cb_ab_old (cb_ab_old (cb_ab_old (ha)))) rfl rfl (by decide) (by decide +kernel) rfl rfl rfl (by decide +kernel) ?_
    refine cb_run cb_sd_ok vd_X4_init (cuts := [1, 6, 11, 16, 21, 27, 32, 34, 40, 42, 48, 50, 56, 58, 64, 66, 72, 74, 80, 82, 88, 90, 96, 98, 104, 106, 112, 114, 121, 123]) 20 ?_
    refine ct_newa (aty := .int) (t := 7) (i := i) (z := z + 3) (N := 8) (kd := 0) rfl g3 rfl (by decide) rfl rfl (fun _ w => by cases w) ⟨cb_tw (i := 161) (by decide +kernel), rfl⟩ rfl (by decide) (by decide) (fun j => cb_sv_df (fun j => ⟨(f3 j).1, (f3 j).2.1, (f3 j).2.2⟩) rfl X.G.ad) (by decide) (by decide) (by decide +kernel) ?_
    refine ct_putF (idx := 37) (t := 3) (i := i) (j := 8) (ed := 94) hin (cb_ab_old (cb_ab_old (cb_ab_old (cb_ab_old (ha))))) rfl rfl (by decide) (by decide +kernel) rfl rfl rfl (by decide +kernel) ?_
    refine cb_run cb_sd_ok vd_X4_init (cuts := [1, 6, 11, 16, 21, 27, 32, 34, 40, 42, 48, 50, 56, 58, 64, 66, 72, 74, 80, 82, 88, 90, 96, 98, 104, 106, 112, 114, 121, 123]) 20 ?_
    refine ct_newa (aty := .int) (t := 8) (i := i) (z := z + 4) (N := 8) (kd := 0) rfl g4 rfl (by decide) rfl rfl (fun _ w => by cases w) ⟨cb_tw (i := 161) (by decide +kernel), rfl⟩ rfl (by decide) (by decide) (fun j => cb_sv_df (fun j => ⟨(f4 j).1, (f4 j).2.1, (f4 j).2.2⟩) rfl X.G.ad) (by decide) (by decide) (by decide +kernel) ?_
    refine ct_putF (idx := 40) (t := 3) (i := i) (j := 9) (ed := 100) hin (cb_ab_old (cb_ab_old (cb_ab_old (cb_ab_old (cb_ab_old (ha)))))) rfl rfl (by decide) (by decide +kernel) rfl rfl rfl (by decide +kernel) ?_
    refine cb_run cb_sd_ok vd_X4_init (cuts := [1, 6, 11, 16, 21, 27, 32, 34, 40, 42, 48, 50, 56, 58, 64, 66, 72, 74, 80, 82, 88, 90, 96, 98, 104, 106, 112, 114, 121, 123]) 20 ?_
    refine ct_newa (aty := .int) (t := 9) (i := i) (z := z + 5) (N := 8) (kd := 0) rfl g5 rfl (by decide) rfl rfl (fun _ w => by cases w) ⟨cb_tw (i := 161) (by decide +kernel), rfl⟩ rfl (by decide) (by decide) (fun j => cb_sv_df (fun j => ⟨(f5 j).1, (f5 j).2.1, (f5 j).2.2⟩) rfl X.G.ad) (by decide) (by decide) (by decide +kernel) ?_
    refine ct_putF (idx := 43) (t := 3) (i := i) (j := 10) (ed := 105) hin (cb_ab_old (cb_ab_old (cb_ab_old (cb_ab_old (cb_ab_old (cb_ab_old (ha))))))) rfl rfl (by decide) (by decide +kernel) rfl rfl rfl (by decide +kernel) ?_
    refine cb_run cb_sd_ok vd_X4_init (cuts := [1, 6, 11, 16, 21, 27, 32, 34, 40, 42, 48, 50, 56, 58, 64, 66, 72, 74, 80, 82, 88, 90, 96, 98, 104, 106, 112, 114, 121, 123]) 20 ?_
    refine ct_newa (aty := .int) (t := 10) (i := i) (z := z + 6) (N := 8) (kd := 0) rfl g6 rfl (by decide) rfl rfl (fun _ w => by cases w) ⟨cb_tw (i := 161) (by decide +kernel), rfl⟩ rfl (by decide) (by decide) (fun j => cb_sv_df (fun j => ⟨(f6 j).1, (f6 j).2.1, (f6 j).2.2⟩) rfl X.G.ad) (by decide) (by decide) (by decide +kernel) ?_
    refine ct_putF (idx := 46) (t := 3) (i := i) (j := 11) (ed := 110) hin (cb_ab_old (cb_ab_old (cb_ab_old (cb_ab_old (cb_ab_old (cb_ab_old (cb_ab_old (ha)))))))) rfl rfl (by decide) (by decide +kernel) rfl rfl rfl (by decide +kernel) ?_
    refine cb_run cb_sd_ok vd_X4_init (cuts := [1, 6, 11, 16, 21, 27, 32, 34, 40, 42, 48, 50, 56, 58, 64, 66, 72, 74, 80, 82, 88, 90, 96, 98, 104, 106, 112, 114, 121, 123]) 20 ?_
    refine ct_newa (aty := .int) (t := 11) (i := i) (z := z + 7) (N := 8) (kd := 0) rfl g7 rfl (by decide) rfl rfl (fun _ w => by cases w) ⟨cb_tw (i := 161) (by decide +kernel), rfl⟩ rfl (by decide) (by decide) (fun j => cb_sv_df (fun j => ⟨(f7 j).1, (f7 j).2.1, (f7 j).2.2⟩) rfl X.G.ad) (by decide) (by decide) (by decide +kernel) ?_
    refine ct_putF (idx := 49) (t := 3) (i := i) (j := 12) (ed := 113) hin (cb_ab_old (cb_ab_old (cb_ab_old (cb_ab_old (cb_ab_old (cb_ab_old (cb_ab_old (cb_ab_old (ha))))))))) rfl rfl (by decide) (by decide +kernel) rfl rfl rfl (by decide +kernel) ?_
    refine cb_run cb_sd_ok vd_X4_init (cuts := [1, 6, 11, 16, 21, 27, 32, 34, 40, 42, 48, 50, 56, 58, 64, 66, 72, 74, 80, 82, 88, 90, 96, 98, 104, 106, 112, 114, 121, 123]) 20 ?_
    refine ct_newa (aty := .int) (t := 12) (i := i) (z := z + 8) (N := 6) (kd := 0) rfl g8 rfl (by decide) rfl rfl (fun _ w => by cases w) ⟨cb_tw (i := 161) (by decide +kernel), rfl⟩ rfl (by decide) (by decide) (fun j => cb_sv_df (fun j => ⟨(f8 j).1, (f8 j).2.1, (f8 j).2.2⟩) rfl X.G.ad) (by decide) (by decide) (by decide +kernel) ?_
    refine ct_putF (idx := 52) (t := 3) (i := i) (j := 13) (ed := 115) hin (cb_ab_old (cb_ab_old (cb_ab_old (cb_ab_old (cb_ab_old (cb_ab_old (cb_ab_old (cb_ab_old (cb_ab_old (ha)))))))))) rfl rfl (by decide) (by decide +kernel) rfl rfl rfl (by decide +kernel) ?_
    refine cb_run cb_sd_ok vd_X4_init (cuts := [1, 6, 11, 16, 21, 27, 32, 34, 40, 42, 48, 50, 56, 58, 64, 66, 72, 74, 80, 82, 88, 90, 96, 98, 104, 106, 112, 114, 121, 123]) 20 ?_
    refine ct_newa (aty := .int) (t := 13) (i := i) (z := z + 9) (N := 6) (kd := 0) rfl g9 rfl (by decide) rfl rfl (fun _ w => by cases w) ⟨cb_tw (i := 161) (by decide +kernel), rfl⟩ rfl (by decide) (by decide) (fun j => cb_sv_df (fun j => ⟨(f9 j).1, (f9 j).2.1, (f9 j).2.2⟩) rfl X.G.ad) (by decide) (by decide) (by decide +kernel) ?_
    refine ct_putF (idx := 55) (t := 3) (i := i) (j := 14) (ed := 118) hin (cb_ab_old (cb_ab_old (cb_ab_old (cb_ab_old (cb_ab_old (cb_ab_old (cb_ab_old (cb_ab_old (cb_ab_old (cb_ab_old (ha))))))))))) rfl rfl (by decide) (by decide +kernel) rfl rfl rfl (by decide +kernel) ?_
    refine cb_run cb_sd_ok vd_X4_init (cuts := [1, 6, 11, 16, 21, 27, 32, 34, 40, 42, 48, 50, 56, 58, 64, 66, 72, 74, 80, 82, 88, 90, 96, 98, 104, 106, 112, 114, 121, 123]) 20 ?_
    refine ct_newa (aty := .int) (t := 14) (i := i) (z := z + 10) (N := 64) (kd := 0) rfl g10 rfl (by decide) rfl rfl (fun _ w => by cases w) ⟨cb_tw (i := 161) (by decide +kernel), rfl⟩ rfl (by decide) (by decide) (fun j => cb_sv_df (fun j => ⟨(f10 j).1, (f10 j).2.1, (f10 j).2.2⟩) rfl X.G.ad) (by decide) (by decide) (by decide +kernel) ?_
    refine ct_putF (idx := 58) (t := 3) (i := i) (j := 15) (ed := 121) hin (cb_ab_old (cb_ab_old (cb_ab_old (cb_ab_old (cb_ab_old (cb_ab_old (cb_ab_old (cb_ab_old (cb_ab_old (cb_ab_old (cb_ab_old (ha)))))))))))) rfl rfl (by decide) (by decide +kernel) rfl rfl rfl (by decide +kernel) ?_
    refine cb_run cb_sd_ok vd_X4_init (cuts := [1, 6, 11, 16, 21, 27, 32, 34, 40, 42, 48, 50, 56, 58, 64, 66, 72, 74, 80, 82, 88, 90, 96, 98, 104, 106, 112, 114, 121, 123]) 20 ?_
    refine ct_newa (aty := .int) (t := 15) (i := i) (z := z + 11) (N := 400) (kd := 0) rfl g11 rfl (by decide) rfl rfl (fun _ w => by cases w) ⟨cb_tw (i := 161) (by decide +kernel), rfl⟩ rfl (by decide) (by decide) (fun j => cb_sv_df (fun j => ⟨(f11 j).1, (f11 j).2.1, (f11 j).2.2⟩) rfl X.G.ad) (by decide) (by decide) (by decide +kernel) ?_
    refine ct_putF (idx := 61) (t := 3) (i := i) (j := 16) (ed := 124) hin (cb_ab_old (cb_ab_old (cb_ab_old (cb_ab_old (cb_ab_old (cb_ab_old (cb_ab_old (cb_ab_old (cb_ab_old (cb_ab_old (cb_ab_old (cb_ab_old (ha))))))))))))) rfl rfl (by decide) (by decide +kernel) rfl rfl rfl (by decide +kernel) ?_
    refine cb_run cb_sd_ok vd_X4_init (cuts := [1, 6, 11, 16, 21, 27, 32, 34, 40, 42, 48, 50, 56, 58, 64, 66, 72, 74, 80, 82, 88, 90, 96, 98, 104, 106, 112, 114, 121, 123]) 20 ?_
    exact And.intro rfl h
def mm_X5 (M : cb_M) : cb_M := cb_sR (M) 41 0 0 (some 0)
def ma_X5 (f : Nat → Nat → Bool) : Nat → Nat → Bool := f
def pg_X5_init (G : cb_G) : cb_PT := fun As a M K => match As with
  | [.inr (.inr (some (t, i))), .inr (.inr (some (t1, i1)))] => (t = 41 ∧ i = 0 ∧ t1 = 25 ∧ i1 = 0 ∧ a.1 41 0 = true) ∧ ∃ z, a.2 = some z ∧ (True) ∧ (True) ∧ K (.inl none) (ma_X5 a.1, some (z + 0)) (mm_X5 M)
  | _ => False
def md_X5_init : cb_D := (RX5, cX5_init, 2, none, (0, 0, 1, 30), [
  (0, .aload_n 0, 1, 0, 0, 0, 0),
  (4, .aload_n 0, 1, 0, 0, 0, 0),
  (5, .aload_n 1, 1, 0, 1, 0, 0),
  (9, .return_, 1, 0, 0, 0, 0)],
  [], [])
set_option maxRecDepth 100000 in
theorem vd_X5_init : md_X5_init.cd.all (cb_vE md_X5_init) = true := by decide +kernel
theorem wd_X5_init : cb_wd yX5_init md_X5_init := ⟨cb_tw (i := 323) (by decide +kernel), cb_tw (i := 8) (by decide +kernel), by decide, by decide⟩
theorem pg_X5_to {G : cb_G} {As : List cb_V} {a : cb_A} {M : cb_M} {K : cb_Out → cb_A → cb_M → Prop} (h : pg_X5_init G As a M K) : ∃ z, As = [cb_r 41 0, cb_r 25 0] ∧ a.1 41 0 = true ∧ a.2 = some z ∧ (True) ∧ (True) ∧ K (.inl none) (ma_X5 a.1, some (z + 0)) (mm_X5 M) := by
  unfold pg_X5_init at h
  split at h
  · obtain ⟨⟨rfl, rfl, rfl, rfl, ha⟩, z, h⟩ := h
    exact ⟨z, rfl, ha, h⟩
  · exact h.elim
theorem ok_X5_init : cb_MG yX5_init md_X5_init pg_X5_init := by
  refine cb_ofg ⟨plainFor_of_name (by decide), rfl⟩ (fun G As a M K h => ?_) rfl (by decide) (fun X As a M h hE hl0 hnm => ?_)
  · obtain ⟨z, rfl, -⟩ := pg_X5_to h
    exact (by decide : 2 ≤ 2)
  · obtain ⟨z, rfl, ha, hz, -, -, h⟩ := pg_X5_to h
    obtain ⟨af, az⟩ := a
    have hz : az = some z := hz
    subst hz
    have hin : X.meth.name = "<init>" := hnm
    refine cb_run cb_sd_ok vd_X5_init (cuts := [1, 6]) 20 ?_
    refine ct_obj (idx := 3) (by decide +kernel) (cb_tw (i := 324) (by decide +kernel)) (cb_tw (i := 31) (by decide +kernel)) (cb_tw (i := 32) (by decide +kernel)) ⟨rfl, rfl, rfl⟩ (by decide) (by decide) (by decide) ?_
    refine cb_run cb_sd_ok vd_X5_init (cuts := [1, 6]) 20 ?_
    refine ct_putF (idx := 9) (t := 41) (i := 0) (j := 0) (ed := 325) hin (ha) rfl rfl (by decide) (by decide +kernel) rfl rfl rfl (by decide +kernel) ?_
    refine cb_run cb_sd_ok vd_X5_init (cuts := [1, 6]) 20 ?_
    exact And.intro rfl h
def mm_X6 (M : cb_M) : cb_M := cb_sI (cb_sI (cb_sI (cb_sI (cb_sI (cb_sR (M) 1 0 0 (some 1)) 1 0 1 (0)) 1 0 2 (0)) 1 0 3 (0)) 1 0 4 (0)) 1 0 5 ((-1))
def ma_X6 (f : Nat → Nat → Bool) : Nat → Nat → Bool := cb_ab (f, none) 2 1
def pg_X6_init (G : cb_G) : cb_PT := fun As a M K => match As with
  | [.inr (.inr (some (t, i)))] => (t = 1 ∧ i = 0 ∧ a.1 1 0 = true) ∧ ∃ z, a.2 = some z ∧ (G.ad 2 1 = z + 0) ∧ (cb_df M 2 1) ∧ K (.inl none) (ma_X6 a.1, some (z + 1)) (mm_X6 M)
  | _ => False
def md_X6_init : cb_D := (RX6, cX6_init, 1, none, (1, 0, 1, 30), [
  (0, .aload_n 0, 1, 0, 0, 0, 0),
  (4, .aload_n 0, 1, 0, 0, 0, 0),
  (5, .iconst 0, 1, 0, 0, 0, 0),
  (11, .aload_n 0, 1, 0, 0, 0, 0),
  (12, .iconst 0, 1, 0, 0, 0, 0),
  (16, .aload_n 0, 1, 0, 0, 0, 0),
  (17, .iconst 0, 1, 0, 0, 0, 0),
  (21, .aload_n 0, 1, 0, 0, 0, 0),
  (22, .iconst 0, 1, 0, 0, 0, 0),
  (26, .aload_n 0, 1, 0, 0, 0, 0),
  (27, .iconst 0, 1, 0, 0, 0, 0),
  (31, .aload_n 0, 1, 0, 0, 0, 0),
  (32, .iconst (-1), 1, (-1), 0, 0, 0),
  (36, .return_, 1, 0, 0, 0, 0)],
  [], [])
set_option maxRecDepth 100000 in
theorem vd_X6_init : md_X6_init.cd.all (cb_vE md_X6_init) = true := by decide +kernel
theorem wd_X6_init : cb_wd yX6_init md_X6_init := ⟨cb_tw (i := 37) (by decide +kernel), cb_tw (i := 2) (by decide +kernel), by decide, by decide⟩
theorem pg_X6_to {G : cb_G} {As : List cb_V} {a : cb_A} {M : cb_M} {K : cb_Out → cb_A → cb_M → Prop} (h : pg_X6_init G As a M K) : ∃ z, As = [cb_r 1 0] ∧ a.1 1 0 = true ∧ a.2 = some z ∧ (G.ad 2 1 = z + 0) ∧ (cb_df M 2 1) ∧ K (.inl none) (ma_X6 a.1, some (z + 1)) (mm_X6 M) := by
  unfold pg_X6_init at h
  split at h
  · obtain ⟨⟨rfl, rfl, ha⟩, z, h⟩ := h
    exact ⟨z, rfl, ha, h⟩
  · exact h.elim
theorem ok_X6_init : cb_MG yX6_init md_X6_init pg_X6_init := by
  refine cb_ofg ⟨plainFor_of_name (by decide), rfl⟩ (fun G As a M K h => ?_) rfl (by decide) (fun X As a M h hE hl0 hnm => ?_)
  · obtain ⟨z, rfl, -⟩ := pg_X6_to h
    exact (by decide : 1 ≤ 1)
  · obtain ⟨z, rfl, ha, hz, g0, f0, h⟩ := pg_X6_to h
    have hin : X.meth.name = "<init>" := hnm
    refine cb_run cb_sd_ok vd_X6_init (cuts := [1, 6, 8, 13, 18, 23, 28, 33]) 20 ?_
    refine ct_obj (idx := 3) (by decide +kernel) (cb_tw (i := 38) (by decide +kernel)) (cb_tw (i := 31) (by decide +kernel)) (cb_tw (i := 32) (by decide +kernel)) ⟨rfl, rfl, rfl⟩ (by decide) (by decide) (by decide) ?_
    refine cb_run cb_sd_ok vd_X6_init (cuts := [1, 6, 8, 13, 18, 23, 28, 33]) 20 ?_
    refine ct_newa (aty := .byte) (t := 2) (i := 1) (z := z + 0) (N := 0) (kd := 1) hz g0 rfl (by decide) rfl rfl (fun _ w => by cases w) ⟨cb_tw (i := 59) (by decide +kernel), rfl⟩ rfl (by decide) (by decide) (fun j => congrArg Value.int (f0 j).1) (by decide) (by decide) (by decide +kernel) ?_
    refine ct_put (idx := 9) (t := 1) (i := 0) (j := 0) (ed := 39) (cb_ab_old (ha)) rfl rfl (by decide) (by decide +kernel) rfl rfl (by decide +kernel) ?_
    refine cb_run cb_sd_ok vd_X6_init (cuts := [1, 6, 8, 13, 18, 23, 28, 33]) 20 ?_
    refine ct_put (idx := 15) (t := 1) (i := 0) (j := 1) (ed := 40) (cb_ab_old (ha)) rfl rfl (by decide) (by decide +kernel) rfl rfl (by decide +kernel) ?_
    refine cb_run cb_sd_ok vd_X6_init (cuts := [1, 6, 8, 13, 18, 23, 28, 33]) 20 ?_
    refine ct_put (idx := 19) (t := 1) (i := 0) (j := 2) (ed := 41) (cb_ab_old (ha)) rfl rfl (by decide) (by decide +kernel) rfl rfl (by decide +kernel) ?_
    refine cb_run cb_sd_ok vd_X6_init (cuts := [1, 6, 8, 13, 18, 23, 28, 33]) 20 ?_
    refine ct_put (idx := 22) (t := 1) (i := 0) (j := 3) (ed := 42) (cb_ab_old (ha)) rfl rfl (by decide) (by decide +kernel) rfl rfl (by decide +kernel) ?_
    refine cb_run cb_sd_ok vd_X6_init (cuts := [1, 6, 8, 13, 18, 23, 28, 33]) 20 ?_
    refine ct_put (idx := 25) (t := 1) (i := 0) (j := 4) (ed := 43) (cb_ab_old (ha)) rfl rfl (by decide) (by decide +kernel) rfl rfl (by decide +kernel) ?_
    refine cb_run cb_sd_ok vd_X6_init (cuts := [1, 6, 8, 13, 18, 23, 28, 33]) 20 ?_
    refine ct_put (idx := 28) (t := 1) (i := 0) (j := 5) (ed := 44) (cb_ab_old (ha)) rfl rfl (by decide) (by decide +kernel) rfl rfl (by decide +kernel) ?_
    refine cb_run cb_sd_ok vd_X6_init (cuts := [1, 6, 8, 13, 18, 23, 28, 33]) 20 ?_
    exact And.intro rfl h
def mm_X7 (M : cb_M) (p m : Nat) : cb_M := cb_sR (cb_sR (cb_sR (cb_sR (cb_sR (cb_sR (cb_sI (cb_sR (cb_sR (cb_sI (cb_sI (cb_sR (cb_sR (cb_sR (cb_sR (cb_sR (cb_sI (cb_sI (M) 25 0 2 (0)) 25 0 3 (0)) 25 0 4 (some 0)) 25 0 5 (some 0)) 25 0 6 (some 0)) 25 0 7 (some 0)) 25 0 8 (some 0)) 25 0 9 (0)) 25 0 10 (0)) 25 0 11 (some 0)) 25 0 12 (some 0)) 25 0 13 (0)) 25 0 14 (some 0)) 25 0 15 (some 0)) 25 0 16 (some 0)) 25 0 17 (some 0)) 25 0 0 (some p)) 25 0 1 (some m)
def ma_X7 (f : Nat → Nat → Bool) : Nat → Nat → Bool := cb_ab (cb_ab (cb_ab (cb_ab (cb_ab (cb_ab (cb_ab (cb_ab (cb_ab (cb_ab (cb_ab (f, none) 26 0, none) 27 0, none) 28 0, none) 29 0, none) 30 0, none) 31 0, none) 32 0, none) 33 0, none) 34 0, none) 35 0, none) 36 0
def pg_X7_init (G : cb_G) : cb_PT := fun As a M K => match As with
  | [.inr (.inr (some (t, i))), .inr (.inr (some (t1, p))), .inr (.inr (some (t2, m)))] => (t = 25 ∧ i = 0 ∧ t1 = 3 ∧ t2 = 16 ∧ a.1 25 0 = true) ∧ ∃ z, a.2 = some z ∧ (G.ad 26 0 = z + 0 ∧ G.ad 27 0 = z + 1 ∧ G.ad 28 0 = z + 2 ∧ G.ad 29 0 = z + 3 ∧ G.ad 30 0 = z + 4 ∧ G.ad 31 0 = z + 5 ∧ G.ad 32 0 = z + 6 ∧ G.ad 33 0 = z + 7 ∧ G.ad 34 0 = z + 8 ∧ G.ad 35 0 = z + 9 ∧ G.ad 36 0 = z + 10) ∧ (cb_df M 26 0 ∧ cb_df M 27 0 ∧ cb_df M 28 0 ∧ cb_df M 29 0 ∧ cb_df M 30 0 ∧ cb_df M 31 0 ∧ cb_df M 32 0 ∧ cb_df M 33 0 ∧ cb_df M 34 0 ∧ cb_df M 35 0 ∧ cb_df M 36 0) ∧ K (.inl none) (ma_X7 a.1, some (z + 11)) (mm_X7 M p m)
  | _ => False
def md_X7_init : cb_D := (RX7, cX7_init, 3, none, (11, 168, 1, 30), [
  (0, .aload_n 0, 1, 0, 0, 0, 0),
  (4, .aload_n 0, 1, 0, 0, 0, 0),
  (5, .iconst 0, 1, 0, 0, 0, 0),
  (9, .aload_n 0, 1, 0, 0, 0, 0),
  (10, .iconst 0, 1, 0, 0, 0, 0),
  (14, .aload_n 0, 1, 0, 0, 0, 0),
  (15, .bipush 8, 2, 8, 0, 0, 0),
  (22, .aload_n 0, 1, 0, 0, 0, 0),
  (23, .bipush 8, 2, 8, 0, 0, 0),
  (30, .aload_n 0, 1, 0, 0, 0, 0),
  (31, .bipush 8, 2, 8, 0, 0, 0),
  (38, .aload_n 0, 1, 0, 0, 0, 0),
  (39, .bipush 8, 2, 8, 0, 0, 0),
  (46, .aload_n 0, 1, 0, 0, 0, 0),
  (47, .bipush 8, 2, 8, 0, 0, 0),
  (54, .aload_n 0, 1, 0, 0, 0, 0),
  (55, .iconst 0, 1, 0, 0, 0, 0),
  (59, .aload_n 0, 1, 0, 0, 0, 0),
  (60, .iconst 0, 1, 0, 0, 0, 0),
  (64, .aload_n 0, 1, 0, 0, 0, 0),
  (65, .bipush 8, 2, 8, 0, 0, 0),
  (72, .aload_n 0, 1, 0, 0, 0, 0),
  (73, .bipush 8, 2, 8, 0, 0, 0),
  (80, .aload_n 0, 1, 0, 0, 0, 0),
  (81, .iconst 0, 1, 0, 0, 0, 0),
  (85, .aload_n 0, 1, 0, 0, 0, 0),
  (86, .bipush 28, 2, 28, 0, 0, 0),
  (93, .aload_n 0, 1, 0, 0, 0, 0),
  (94, .bipush 28, 2, 28, 0, 0, 0),
  (101, .aload_n 0, 1, 0, 0, 0, 0),
  (102, .bipush 28, 2, 28, 0, 0, 0),
  (109, .aload_n 0, 1, 0, 0, 0, 0),
  (110, .bipush 28, 2, 28, 0, 0, 0),
  (117, .aload_n 0, 1, 0, 0, 0, 0),
  (118, .aload_n 1, 1, 0, 1, 0, 0),
  (122, .aload_n 0, 1, 0, 0, 0, 0),
  (123, .aload_n 2, 1, 0, 2, 0, 0),
  (127, .return_, 1, 0, 0, 0, 0)],
  [], [])
set_option maxRecDepth 100000 in
theorem vd_X7_init : md_X7_init.cd.all (cb_vE md_X7_init) = true := by decide +kernel
theorem wd_X7_init : cb_wd yX7_init md_X7_init := ⟨cb_tw (i := 216) (by decide +kernel), cb_tw (i := 5) (by decide +kernel), by decide, by decide⟩
theorem pg_X7_to {G : cb_G} {As : List cb_V} {a : cb_A} {M : cb_M} {K : cb_Out → cb_A → cb_M → Prop} (h : pg_X7_init G As a M K) : ∃ p m z, As = [cb_r 25 0, cb_r 3 p, cb_r 16 m] ∧ a.1 25 0 = true ∧ a.2 = some z ∧ (G.ad 26 0 = z + 0 ∧ G.ad 27 0 = z + 1 ∧ G.ad 28 0 = z + 2 ∧ G.ad 29 0 = z + 3 ∧ G.ad 30 0 = z + 4 ∧ G.ad 31 0 = z + 5 ∧ G.ad 32 0 = z + 6 ∧ G.ad 33 0 = z + 7 ∧ G.ad 34 0 = z + 8 ∧ G.ad 35 0 = z + 9 ∧ G.ad 36 0 = z + 10) ∧ (cb_df M 26 0 ∧ cb_df M 27 0 ∧ cb_df M 28 0 ∧ cb_df M 29 0 ∧ cb_df M 30 0 ∧ cb_df M 31 0 ∧ cb_df M 32 0 ∧ cb_df M 33 0 ∧ cb_df M 34 0 ∧ cb_df M 35 0 ∧ cb_df M 36 0) ∧ K (.inl none) (ma_X7 a.1, some (z + 11)) (mm_X7 M p m) := by
  unfold pg_X7_init at h
  split at h
  · obtain ⟨⟨rfl, rfl, rfl, rfl, ha⟩, z, h⟩ := h
    exact ⟨_, _, z, rfl, ha, h⟩
  · exact h.elim
theorem ok_X7_init : cb_MG yX7_init md_X7_init pg_X7_init := by
  refine cb_ofg ⟨plainFor_of_name (by decide), rfl⟩ (fun G As a M K h => ?_) rfl (by decide) (fun X As a M h hE hl0 hnm => ?_)
  · obtain ⟨p, m, z, rfl, -⟩ := pg_X7_to h
    exact (by decide : 3 ≤ 3)
  · obtain ⟨p, m, z, rfl, ha, hz, ⟨g0, g1, g2, g3, g4, g5, g6, g7, g8, g9, g10⟩, ⟨f0, f1, f2, f3, f4, f5, f6, f7, f8, f9, f10⟩, h⟩ := pg_X7_to h
    have hin : X.meth.name = "<init>" := hnm
    refine cb_run cb_sd_ok vd_X7_init (cuts := [1, 6, 11, 17, 19, 25, 27, 33, 35, 41, 43, 49, 51, 56, 61, 67, 69, 75, 77, 82, 88, 90, 96, 98, 104, 106, 112, 114, 119, 124]) 20 ?_
    refine ct_obj (idx := 3) (by decide +kernel) (cb_tw (i := 217) (by decide +kernel)) (cb_tw (i := 31) (by decide +kernel)) (cb_tw (i := 32) (by decide +kernel)) ⟨rfl, rfl, rfl⟩ (by decide) (by decide) (by decide) ?_
    refine cb_run cb_sd_ok vd_X7_init (cuts := [1, 6, 11, 17, 19, 25, 27, 33, 35, 41, 43, 49, 51, 56, 61, 67, 69, 75, 77, 82, 88, 90, 96, 98, 104, 106, 112, 114, 119, 124]) 20 ?_
    refine ct_put (idx := 9) (t := 25) (i := 0) (j := 2) (ed := 226) (ha) rfl rfl (by decide) (by decide +kernel) rfl rfl (by decide +kernel) ?_
    refine cb_run cb_sd_ok vd_X7_init (cuts := [1, 6, 11, 17, 19, 25, 27, 33, 35, 41, 43, 49, 51, 56, 61, 67, 69, 75, 77, 82, 88, 90, 96, 98, 104, 106, 112, 114, 119, 124]) 20 ?_
    refine ct_put (idx := 15) (t := 25) (i := 0) (j := 3) (ed := 231) (ha) rfl rfl (by decide) (by decide +kernel) rfl rfl (by decide +kernel) ?_
    refine cb_run cb_sd_ok vd_X7_init (cuts := [1, 6, 11, 17, 19, 25, 27, 33, 35, 41, 43, 49, 51, 56, 61, 67, 69, 75, 77, 82, 88, 90, 96, 98, 104, 106, 112, 114, 119, 124]) 20 ?_
    refine ct_newa (aty := .int) (t := 26) (i := 0) (z := z + 0) (N := 8) (kd := 0) hz g0 rfl (by decide) rfl rfl (fun _ w => by cases w) ⟨cb_tw (i := 161) (by decide +kernel), rfl⟩ rfl (by decide) (by decide) (fun j => cb_sv_df (fun j => ⟨(f0 j).1, (f0 j).2.1, (f0 j).2.2⟩) rfl X.G.ad) (by decide) (by decide) (by decide +kernel) ?_
    refine ct_putF (idx := 18) (t := 25) (i := 0) (j := 4) (ed := 234) hin (cb_ab_old (ha)) rfl rfl (by decide) (by decide +kernel) rfl rfl rfl (by decide +kernel) ?_
    refine cb_run cb_sd_ok vd_X7_init (cuts := [1, 6, 11, 17, 19, 25, 27, 33, 35, 41, 43, 49, 51, 56, 61, 67, 69, 75, 77, 82, 88, 90, 96, 98, 104, 106, 112, 114, 119, 124]) 20 ?_
    refine ct_newa (aty := .int) (t := 27) (i := 0) (z := z + 1) (N := 8) (kd := 0) rfl g1 rfl (by decide) rfl rfl (fun _ w => by cases w) ⟨cb_tw (i := 161) (by decide +kernel), rfl⟩ rfl (by decide) (by decide) (fun j => cb_sv_df (fun j => ⟨(f1 j).1, (f1 j).2.1, (f1 j).2.2⟩) rfl X.G.ad) (by decide) (by decide) (by decide +kernel) ?_
    refine ct_putF (idx := 22) (t := 25) (i := 0) (j := 5) (ed := 236) hin (cb_ab_old (cb_ab_old (ha))) rfl rfl (by decide) (by decide +kernel) rfl rfl rfl (by decide +kernel) ?_
    refine cb_run cb_sd_ok vd_X7_init (cuts := [1, 6, 11, 17, 19, 25, 27, 33, 35, 41, 43, 49, 51, 56, 61, 67, 69, 75, 77, 82, 88, 90, 96, 98, 104, 106, 112, 114, 119, 124]) 20 ?_
    refine ct_newa (aty := .int) (t := 28) (i := 0) (z := z + 2) (N := 8) (kd := 0) rfl g2 rfl (by decide) rfl rfl (fun _ w => by cases w) ⟨cb_tw (i := 161) (by decide +kernel), rfl⟩ rfl (by decide) (by decide) (fun j => cb_sv_df (fun j => ⟨(f2 j).1, (f2 j).2.1, (f2 j).2.2⟩) rfl X.G.ad) (by decide) (by decide) (by decide +kernel) ?_
    refine ct_putF (idx := 25) (t := 25) (i := 0) (j := 6) (ed := 239) hin (cb_ab_old (cb_ab_old (cb_ab_old (ha)))) rfl rfl (by decide) (by decide +kernel) rfl rfl rfl (by decide +kernel) ?_
    refine cb_run cb_sd_ok vd_X7_init (cuts := [1, 6, 11, 17, 19, 25, 27, 33, 35, 41, 43, 49, 51, 56, 61, 67, 69, 75, 77, 82, 88, 90, 96, 98, 104, 106, 112, 114, 119, 124]) 20 ?_
    refine ct_newa (aty := .int) (t := 29) (i := 0) (z := z + 3) (N := 8) (kd := 0) rfl g3 rfl (by decide) rfl rfl (fun _ w => by cases w) ⟨cb_tw (i := 161) (by decide +kernel), rfl⟩ rfl (by decide) (by decide) (fun j => cb_sv_df (fun j => ⟨(f3 j).1, (f3 j).2.1, (f3 j).2.2⟩) rfl X.G.ad) (by decide) (by decide) (by decide +kernel) ?_
    refine ct_putF (idx := 28) (t := 25) (i := 0) (j := 7) (ed := 244) hin (cb_ab_old (cb_ab_old (cb_ab_old (cb_ab_old (ha))))) rfl rfl (by decide) (by decide +kernel) rfl rfl rfl (by decide +kernel) ?_
    refine cb_run cb_sd_ok vd_X7_init (cuts := [1, 6, 11, 17, 19, 25, 27, 33, 35, 41, 43, 49, 51, 56, 61, 67, 69, 75, 77, 82, 88, 90, 96, 98, 104, 106, 112, 114, 119, 124]) 20 ?_
    refine ct_newa (aty := .int) (t := 30) (i := 0) (z := z + 4) (N := 8) (kd := 0) rfl g4 rfl (by decide) rfl rfl (fun _ w => by cases w) ⟨cb_tw (i := 161) (by decide +kernel), rfl⟩ rfl (by decide) (by decide) (fun j => cb_sv_df (fun j => ⟨(f4 j).1, (f4 j).2.1, (f4 j).2.2⟩) rfl X.G.ad) (by decide) (by decide) (by decide +kernel) ?_
    refine ct_putF (idx := 31) (t := 25) (i := 0) (j := 8) (ed := 246) hin (cb_ab_old (cb_ab_old (cb_ab_old (cb_ab_old (cb_ab_old (ha)))))) rfl rfl (by decide) (by decide +kernel) rfl rfl rfl (by decide +kernel) ?_
    refine cb_run cb_sd_ok vd_X7_init (cuts := [1, 6, 11, 17, 19, 25, 27, 33, 35, 41, 43, 49, 51, 56, 61, 67, 69, 75, 77, 82, 88, 90, 96, 98, 104, 106, 112, 114, 119, 124]) 20 ?_
    refine ct_put (idx := 34) (t := 25) (i := 0) (j := 9) (ed := 247) (cb_ab_old (cb_ab_old (cb_ab_old (cb_ab_old (cb_ab_old (ha)))))) rfl rfl (by decide) (by decide +kernel) rfl rfl (by decide +kernel) ?_
    refine cb_run cb_sd_ok vd_X7_init (cuts := [1, 6, 11, 17, 19, 25, 27, 33, 35, 41, 43, 49, 51, 56, 61, 67, 69, 75, 77, 82, 88, 90, 96, 98, 104, 106, 112, 114, 119, 124]) 20 ?_
    refine ct_put (idx := 37) (t := 25) (i := 0) (j := 10) (ed := 248) (cb_ab_old (cb_ab_old (cb_ab_old (cb_ab_old (cb_ab_old (ha)))))) rfl rfl (by decide) (by decide +kernel) rfl rfl (by decide +kernel) ?_
    refine cb_run cb_sd_ok vd_X7_init (cuts := [1, 6, 11, 17, 19, 25, 27, 33, 35, 41, 43, 49, 51, 56, 61, 67, 69, 75, 77, 82, 88, 90, 96, 98, 104, 106, 112, 114, 119, 124]) 20 ?_
    refine ct_newa (aty := .int) (t := 31) (i := 0) (z := z + 5) (N := 8) (kd := 0) rfl g5 rfl (by decide) rfl rfl (fun _ w => by cases w) ⟨cb_tw (i := 161) (by decide +kernel), rfl⟩ rfl (by decide) (by decide) (fun j => cb_sv_df (fun j => ⟨(f5 j).1, (f5 j).2.1, (f5 j).2.2⟩) rfl X.G.ad) (by decide) (by decide) (by decide +kernel) ?_
    refine ct_putF (idx := 41) (t := 25) (i := 0) (j := 11) (ed := 249) hin (cb_ab_old (cb_ab_old (cb_ab_old (cb_ab_old (cb_ab_old (cb_ab_old (ha))))))) rfl rfl (by decide) (by decide +kernel) rfl rfl rfl (by decide +kernel) ?_
    refine cb_run cb_sd_ok vd_X7_init (cuts := [1, 6, 11, 17, 19, 25, 27, 33, 35, 41, 43, 49, 51, 56, 61, 67, 69, 75, 77, 82, 88, 90, 96, 98, 104, 106, 112, 114, 119, 124]) 20 ?_
    refine ct_newa (aty := .int) (t := 32) (i := 0) (z := z + 6) (N := 8) (kd := 0) rfl g6 rfl (by decide) rfl rfl (fun _ w => by cases w) ⟨cb_tw (i := 161) (by decide +kernel), rfl⟩ rfl (by decide) (by decide) (fun j => cb_sv_df (fun j => ⟨(f6 j).1, (f6 j).2.1, (f6 j).2.2⟩) rfl X.G.ad) (by decide) (by decide) (by decide +kernel) ?_
    refine ct_putF (idx := 44) (t := 25) (i := 0) (j := 12) (ed := 250) hin (cb_ab_old (cb_ab_old (cb_ab_old (cb_ab_old (cb_ab_old (cb_ab_old (cb_ab_old (ha)))))))) rfl rfl (by decide) (by decide +kernel) rfl rfl rfl (by decide +kernel) ?_
    refine cb_run cb_sd_ok vd_X7_init (cuts := [1, 6, 11, 17, 19, 25, 27, 33, 35, 41, 43, 49, 51, 56, 61, 67, 69, 75, 77, 82, 88, 90, 96, 98, 104, 106, 112, 114, 119, 124]) 20 ?_
    refine ct_put (idx := 47) (t := 25) (i := 0) (j := 13) (ed := 251) (cb_ab_old (cb_ab_old (cb_ab_old (cb_ab_old (cb_ab_old (cb_ab_old (cb_ab_old (ha)))))))) rfl rfl (by decide) (by decide +kernel) rfl rfl (by decide +kernel) ?_
    refine cb_run cb_sd_ok vd_X7_init (cuts := [1, 6, 11, 17, 19, 25, 27, 33, 35, 41, 43, 49, 51, 56, 61, 67, 69, 75, 77, 82, 88, 90, 96, 98, 104, 106, 112, 114, 119, 124]) 20 ?_
    refine ct_newa (aty := .int) (t := 33) (i := 0) (z := z + 7) (N := 28) (kd := 0) rfl g7 rfl (by decide) rfl rfl (fun _ w => by cases w) ⟨cb_tw (i := 161) (by decide +kernel), rfl⟩ rfl (by decide) (by decide) (fun j => cb_sv_df (fun j => ⟨(f7 j).1, (f7 j).2.1, (f7 j).2.2⟩) rfl X.G.ad) (by decide) (by decide) (by decide +kernel) ?_
    refine ct_putF (idx := 50) (t := 25) (i := 0) (j := 14) (ed := 252) hin (cb_ab_old (cb_ab_old (cb_ab_old (cb_ab_old (cb_ab_old (cb_ab_old (cb_ab_old (cb_ab_old (ha))))))))) rfl rfl (by decide) (by decide +kernel) rfl rfl rfl (by decide +kernel) ?_
    refine cb_run cb_sd_ok vd_X7_init (cuts := [1, 6, 11, 17, 19, 25, 27, 33, 35, 41, 43, 49, 51, 56, 61, 67, 69, 75, 77, 82, 88, 90, 96, 98, 104, 106, 112, 114, 119, 124]) 20 ?_
    refine ct_newa (aty := .int) (t := 34) (i := 0) (z := z + 8) (N := 28) (kd := 0) rfl g8 rfl (by decide) rfl rfl (fun _ w => by cases w) ⟨cb_tw (i := 161) (by decide +kernel), rfl⟩ rfl (by decide) (by decide) (fun j => cb_sv_df (fun j => ⟨(f8 j).1, (f8 j).2.1, (f8 j).2.2⟩) rfl X.G.ad) (by decide) (by decide) (by decide +kernel) ?_
    refine ct_putF (idx := 53) (t := 25) (i := 0) (j := 15) (ed := 253) hin (cb_ab_old (cb_ab_old (cb_ab_old (cb_ab_old (cb_ab_old (cb_ab_old (cb_ab_old (cb_ab_old (cb_ab_old (ha)))))))))) rfl rfl (by decide) (by decide +kernel) rfl rfl rfl (by decide +kernel) ?_
    refine cb_run cb_sd_ok vd_X7_init (cuts := [1, 6, 11, 17, 19, 25, 27, 33, 35, 41, 43, 49, 51, 56, 61, 67, 69, 75, 77, 82, 88, 90, 96, 98, 104, 106, 112, 114, 119, 124]) 20 ?_
    refine ct_newa (aty := .int) (t := 35) (i := 0) (z := z + 9) (N := 28) (kd := 0) rfl g9 rfl (by decide) rfl rfl (fun _ w => by cases w) ⟨cb_tw (i := 161) (by decide +kernel), rfl⟩ rfl (by decide) (by decide) (fun j => cb_sv_df (fun j => ⟨(f9 j).1, (f9 j).2.1, (f9 j).2.2⟩) rfl X.G.ad) (by decide) (by decide) (by decide +kernel) ?_
    refine ct_putF (idx := 56) (t := 25) (i := 0) (j := 16) (ed := 254) hin (cb_ab_old (cb_ab_old (cb_ab_old (cb_ab_old (cb_ab_old (cb_ab_old (cb_ab_old (cb_ab_old (cb_ab_old (cb_ab_old (ha))))))))))) rfl rfl (by decide) (by decide +kernel) rfl rfl rfl (by decide +kernel) ?_
    refine cb_run cb_sd_ok vd_X7_init (cuts := [1, 6, 11, 17, 19, 25, 27, 33, 35, 41, 43, 49, 51, 56, 61, 67, 69, 75, 77, 82, 88, 90, 96, 98, 104, 106, 112, 114, 119, 124]) 20 ?_
    refine ct_newa (aty := .int) (t := 36) (i := 0) (z := z + 10) (N := 28) (kd := 0) rfl g10 rfl (by decide) rfl rfl (fun _ w => by cases w) ⟨cb_tw (i := 161) (by decide +kernel), rfl⟩ rfl (by decide) (by decide) (fun j => cb_sv_df (fun j => ⟨(f10 j).1, (f10 j).2.1, (f10 j).2.2⟩) rfl X.G.ad) (by decide) (by decide) (by decide +kernel) ?_
    refine ct_putF (idx := 59) (t := 25) (i := 0) (j := 17) (ed := 255) hin (cb_ab_old (cb_ab_old (cb_ab_old (cb_ab_old (cb_ab_old (cb_ab_old (cb_ab_old (cb_ab_old (cb_ab_old (cb_ab_old (cb_ab_old (ha)))))))))))) rfl rfl (by decide) (by decide +kernel) rfl rfl rfl (by decide +kernel) ?_
    refine cb_run cb_sd_ok vd_X7_init (cuts := [1, 6, 11, 17, 19, 25, 27, 33, 35, 41, 43, 49, 51, 56, 61, 67, 69, 75, 77, 82, 88, 90, 96, 98, 104, 106, 112, 114, 119, 124]) 20 ?_
    refine ct_put (idx := 62) (t := 25) (i := 0) (j := 0) (ed := 218) (cb_ab_old (cb_ab_old (cb_ab_old (cb_ab_old (cb_ab_old (cb_ab_old (cb_ab_old (cb_ab_old (cb_ab_old (cb_ab_old (cb_ab_old (ha)))))))))))) rfl rfl (by decide) (by decide +kernel) rfl rfl (by decide +kernel) ?_
    refine cb_run cb_sd_ok vd_X7_init (cuts := [1, 6, 11, 17, 19, 25, 27, 33, 35, 41, 43, 49, 51, 56, 61, 67, 69, 75, 77, 82, 88, 90, 96, 98, 104, 106, 112, 114, 119, 124]) 20 ?_
    refine ct_put (idx := 66) (t := 25) (i := 0) (j := 1) (ed := 222) (cb_ab_old (cb_ab_old (cb_ab_old (cb_ab_old (cb_ab_old (cb_ab_old (cb_ab_old (cb_ab_old (cb_ab_old (cb_ab_old (cb_ab_old (ha)))))))))))) rfl rfl (by decide) (by decide +kernel) rfl rfl (by decide +kernel) ?_
    refine cb_run cb_sd_ok vd_X7_init (cuts := [1, 6, 11, 17, 19, 25, 27, 33, 35, 41, 43, 49, 51, 56, 61, 67, 69, 75, 77, 82, 88, 90, 96, 98, 104, 106, 112, 114, 119, 124]) 20 ?_
    exact And.intro rfl h
def mm_X8 (M : cb_M) : cb_M := cb_sR (M) 45 0 0 (some 0)
def ma_X8 (f : Nat → Nat → Bool) : Nat → Nat → Bool := f
def pg_X8_init (G : cb_G) : cb_PT := fun As a M K => match As with
  | [.inr (.inr (some (t, i))), .inr (.inr (some (t1, i1)))] => (t = 45 ∧ i = 0 ∧ t1 = 25 ∧ i1 = 0 ∧ a.1 45 0 = true) ∧ ∃ z, a.2 = some z ∧ (True) ∧ (True) ∧ K (.inl none) (ma_X8 a.1, some (z + 0)) (mm_X8 M)
  | _ => False
def md_X8_init : cb_D := (RX8, cX8_init, 2, none, (0, 0, 1, 30), [
  (0, .aload_n 0, 1, 0, 0, 0, 0),
  (4, .aload_n 0, 1, 0, 0, 0, 0),
  (5, .aload_n 1, 1, 0, 1, 0, 0),
  (9, .return_, 1, 0, 0, 0, 0)],
  [], [])
set_option maxRecDepth 100000 in
theorem vd_X8_init : md_X8_init.cd.all (cb_vE md_X8_init) = true := by decide +kernel
theorem wd_X8_init : cb_wd yX8_init md_X8_init := ⟨cb_tw (i := 352) (by decide +kernel), cb_tw (i := 10) (by decide +kernel), by decide, by decide⟩
theorem pg_X8_to {G : cb_G} {As : List cb_V} {a : cb_A} {M : cb_M} {K : cb_Out → cb_A → cb_M → Prop} (h : pg_X8_init G As a M K) : ∃ z, As = [cb_r 45 0, cb_r 25 0] ∧ a.1 45 0 = true ∧ a.2 = some z ∧ (True) ∧ (True) ∧ K (.inl none) (ma_X8 a.1, some (z + 0)) (mm_X8 M) := by
  unfold pg_X8_init at h
  split at h
  · obtain ⟨⟨rfl, rfl, rfl, rfl, ha⟩, z, h⟩ := h
    exact ⟨z, rfl, ha, h⟩
  · exact h.elim
theorem ok_X8_init : cb_MG yX8_init md_X8_init pg_X8_init := by
  refine cb_ofg ⟨plainFor_of_name (by decide), rfl⟩ (fun G As a M K h => ?_) rfl (by decide) (fun X As a M h hE hl0 hnm => ?_)
  · obtain ⟨z, rfl, -⟩ := pg_X8_to h
    exact (by decide : 2 ≤ 2)
  · obtain ⟨z, rfl, ha, hz, -, -, h⟩ := pg_X8_to h
    obtain ⟨af, az⟩ := a
    have hz : az = some z := hz
    subst hz
    have hin : X.meth.name = "<init>" := hnm
    refine cb_run cb_sd_ok vd_X8_init (cuts := [1, 6]) 20 ?_
    refine ct_obj (idx := 3) (by decide +kernel) (cb_tw (i := 353) (by decide +kernel)) (cb_tw (i := 31) (by decide +kernel)) (cb_tw (i := 32) (by decide +kernel)) ⟨rfl, rfl, rfl⟩ (by decide) (by decide) (by decide) ?_
    refine cb_run cb_sd_ok vd_X8_init (cuts := [1, 6]) 20 ?_
    refine ct_putF (idx := 9) (t := 45) (i := 0) (j := 0) (ed := 354) hin (ha) rfl rfl (by decide) (by decide +kernel) rfl rfl rfl (by decide +kernel) ?_
    refine cb_run cb_sd_ok vd_X8_init (cuts := [1, 6]) 20 ?_
    exact And.intro rfl h
