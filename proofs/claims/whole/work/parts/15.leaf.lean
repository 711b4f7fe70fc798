/-! ===== leaves: numbers alone ===== -/
def cb_f1 (p : Int32 → Prop) (f : Int32 → Int32) : cb_PT := fun As a M K => match As with
  | [.inl x] => p x ∧ K (.inl (some (cb_i (f x)))) a M
  | _ => False
def cb_f2 (p : Int32 → Int32 → Prop) (f : Int32 → Int32 → Int32) : cb_PT := fun As a M K => match As with
  | [.inl x, .inl y] => p x y ∧ K (.inl (some (cb_i (f x y)))) a M
  | _ => False
theorem cb_f1_to {p : Int32 → Prop} {f : Int32 → Int32} {As : List cb_V} {a : cb_A} {M : cb_M} {K : cb_Out → cb_A → cb_M → Prop} (h : cb_f1 p f As a M K) : ∃ x, As = [cb_i x] ∧ p x ∧ K (.inl (some (cb_i (f x)))) a M := by
  unfold cb_f1 at h
  split at h
  · exact ⟨_, rfl, h⟩
  · exact h.elim
theorem cb_f2_to {p : Int32 → Int32 → Prop} {f : Int32 → Int32 → Int32} {As : List cb_V} {a : cb_A} {M : cb_M} {K : cb_Out → cb_A → cb_M → Prop} (h : cb_f2 p f As a M K) : ∃ x y, As = [cb_i x, cb_i y] ∧ p x y ∧ K (.inl (some (cb_i (f x y)))) a M := by
  unfold cb_f2 at h
  split at h
  · exact ⟨_, _, rfl, h⟩
  · exact h.elim
theorem cb_f1_nt (p : Int32 → Prop) (f : Int32 → Int32) : cb_nt (cb_f1 p f) := by
  intro As a M K h
  obtain ⟨x, rfl, h⟩ := cb_f1_to h
  exact h
theorem cb_f2_nt (p : Int32 → Int32 → Prop) (f : Int32 → Int32 → Int32) : cb_nt (cb_f2 p f) := by
  intro As a M K h
  obtain ⟨x, y, rfl, h⟩ := cb_f2_to h
  exact h
theorem cb_ok1 {y : MethodName} {d : cb_D} {p : Int32 → Prop} {f : Int32 → Int32} (hy : plainFor y = true ∧ y.cls = d.own) (hnL : 1 ≤ d.nL) (hcs : ∀ X, cb_Bs d X → ∀ g ∈ d.ga, cb_CS cb_tb d X g) (hT : cb_noT d = true)
    (hb : ∀ X a M x, p x → X.K (.inl (some (cb_i (f x)))) a M → cb_Gd cb_tb d X 0 (cb_l0 [cb_i x] d.nL) [] a M 0 0) : cb_MOK cb_tb y d (cb_f1 p f) := by
  refine cb_of hy (fun As a M K h => ?_) hcs (fun _ _ _ _ _ => cb_Ts0 hT) (fun X As a M h => ?_)
  · obtain ⟨x, rfl, -⟩ := cb_f1_to h
    exact hnL
  · obtain ⟨x, rfl, h1, h2⟩ := cb_f1_to h
    exact hb X a M x h1 h2
theorem cb_ok2 {y : MethodName} {d : cb_D} {p : Int32 → Int32 → Prop} {f : Int32 → Int32 → Int32} (hy : plainFor y = true ∧ y.cls = d.own) (hnL : 2 ≤ d.nL) (hcs : ∀ X, cb_Bs d X → ∀ g ∈ d.ga, cb_CS cb_tb d X g) (hT : cb_noT d = true)
    (hb : ∀ X a M x z, p x z → X.K (.inl (some (cb_i (f x z)))) a M → cb_Gd cb_tb d X 0 (cb_l0 [cb_i x, cb_i z] d.nL) [] a M 0 0) : cb_MOK cb_tb y d (cb_f2 p f) := by
  refine cb_of hy (fun As a M K h => ?_) hcs (fun _ _ _ _ _ => cb_Ts0 hT) (fun X As a M h => ?_)
  · obtain ⟨x, z, rfl, -⟩ := cb_f2_to h
    exact hnL
  · obtain ⟨x, z, rfl, h1, h2⟩ := cb_f2_to h
    exact hb X a M x z h1 h2
theorem cb_eqK {K : cb_Out → cb_A → cb_M → Prop} {a : cb_A} {M : cb_M} {u v : Int32} (h : K (.inl (some (cb_i u))) a M) (e : v = u) : K (.inl (some (cb_i v))) a M := by
  subst e
  exact h
theorem cb_lt_nle {x y : Int32} (h : x < y) : ¬ y ≤ x := Int32.not_le.mpr h
theorem cb_nle_lt {x y : Int32} (h : ¬ y ≤ x) : x < y := Int32.not_le.mp h
def pt_J9_abs_0f7a4 : cb_PT := cb_f1 (fun _ => True) wm_abs
def md_J9_abs_0f7a4 : cb_D := (RJ9, cJ9_abs_0f7a4, 1, (some .int), (0, 0, 0, 0), [
  (0, .iload_n 0, 1, 0, 0, 0, 0),
  (1, .ifCond .ge 8, 3, 0, 9, 0, 0),
  (4, .iload_n 0, 1, 0, 0, 0, 0),
  (5, .ineg, 1, 0, 0, 0, 0),
  (6, .goto 4, 3, 0, 10, 0, 0),
  (9, .iload_n 0, 1, 0, 0, 0, 0),
  (10, .ireturn, 1, 0, 0, 0, 0)],
  [], [])
set_option maxRecDepth 100000 in
theorem vd_J9_abs_0f7a4 : md_J9_abs_0f7a4.cd.all (cb_vE md_J9_abs_0f7a4) = true := by decide +kernel
theorem wd_J9_abs_0f7a4 : cb_wd yJ9_abs_0f7a4 md_J9_abs_0f7a4 := ⟨cb_tw (i := 452) (by decide +kernel), cb_tw (i := 16) (by decide +kernel), by decide, by decide⟩
theorem cs_J9_abs_0f7a4 : ∀ X, cb_Bs md_J9_abs_0f7a4 X → ∀ g ∈ md_J9_abs_0f7a4.ga, cb_CS cb_tb md_J9_abs_0f7a4 X g := fun X B => fun _ h => nomatch h
theorem ok_J9_abs_0f7a4 : cb_MOK cb_tb yJ9_abs_0f7a4 md_J9_abs_0f7a4 pt_J9_abs_0f7a4 := by
  refine cb_ok1 ⟨by decide +kernel, rfl⟩ (by decide) cs_J9_abs_0f7a4 (by decide) (fun X a M x _ h => cb_run cb_tb_ok vd_J9_abs_0f7a4 (cuts := []) 20 ?_)
  refine And.intro (fun h1 => And.intro trivial (cb_eqK h ?_)) (fun h1 => And.intro trivial (cb_eqK h ?_))
  · exact (if_pos h1).symm
  · exact (if_neg h1).symm
def pt_J9_min_7cf53 : cb_PT := cb_f2 (fun _ _ => True) wm_min
def md_J9_min_7cf53 : cb_D := (RJ9, cJ9_min_7cf53, 2, (some .int), (0, 0, 0, 0), [
  (0, .iload_n 0, 1, 0, 0, 0, 0),
  (1, .iload_n 1, 1, 0, 1, 0, 0),
  (2, .if_icmp .gt 7, 3, 0, 9, 0, 0),
  (5, .iload_n 0, 1, 0, 0, 0, 0),
  (6, .goto 4, 3, 0, 10, 0, 0),
  (9, .iload_n 1, 1, 0, 1, 0, 0),
  (10, .ireturn, 1, 0, 0, 0, 0)],
  [], [])
set_option maxRecDepth 100000 in
theorem vd_J9_min_7cf53 : md_J9_min_7cf53.cd.all (cb_vE md_J9_min_7cf53) = true := by decide +kernel
theorem wd_J9_min_7cf53 : cb_wd yJ9_min_7cf53 md_J9_min_7cf53 := ⟨cb_tw (i := 486) (by decide +kernel), cb_tw (i := 16) (by decide +kernel), by decide, by decide⟩
theorem cs_J9_min_7cf53 : ∀ X, cb_Bs md_J9_min_7cf53 X → ∀ g ∈ md_J9_min_7cf53.ga, cb_CS cb_tb md_J9_min_7cf53 X g := fun X B => fun _ h => nomatch h
theorem ok_J9_min_7cf53 : cb_MOK cb_tb yJ9_min_7cf53 md_J9_min_7cf53 pt_J9_min_7cf53 := by
  refine cb_ok2 ⟨by decide +kernel, rfl⟩ (by decide) cs_J9_min_7cf53 (by decide) (fun X a M x y _ h => cb_run cb_tb_ok vd_J9_min_7cf53 (cuts := []) 20 ?_)
  refine And.intro (fun h1 => And.intro trivial (cb_eqK h ?_)) (fun h1 => And.intro trivial (cb_eqK h ?_))
  · exact (if_pos h1).symm
  · exact (if_neg h1).symm
def pt_J9_max_7cf53 : cb_PT := cb_f2 (fun _ _ => True) wm_max
def md_J9_max_7cf53 : cb_D := (RJ9, cJ9_max_7cf53, 2, (some .int), (0, 0, 0, 0), [
  (0, .iload_n 0, 1, 0, 0, 0, 0),
  (1, .iload_n 1, 1, 0, 1, 0, 0),
  (2, .if_icmp .lt 7, 3, 0, 9, 0, 0),
  (5, .iload_n 0, 1, 0, 0, 0, 0),
  (6, .goto 4, 3, 0, 10, 0, 0),
  (9, .iload_n 1, 1, 0, 1, 0, 0),
  (10, .ireturn, 1, 0, 0, 0, 0)],
  [], [])
set_option maxRecDepth 100000 in
theorem vd_J9_max_7cf53 : md_J9_max_7cf53.cd.all (cb_vE md_J9_max_7cf53) = true := by decide +kernel
theorem wd_J9_max_7cf53 : cb_wd yJ9_max_7cf53 md_J9_max_7cf53 := ⟨cb_tw (i := 878) (by decide +kernel), cb_tw (i := 16) (by decide +kernel), by decide, by decide⟩
theorem cs_J9_max_7cf53 : ∀ X, cb_Bs md_J9_max_7cf53 X → ∀ g ∈ md_J9_max_7cf53.ga, cb_CS cb_tb md_J9_max_7cf53 X g := fun X B => fun _ h => nomatch h
theorem ok_J9_max_7cf53 : cb_MOK cb_tb yJ9_max_7cf53 md_J9_max_7cf53 pt_J9_max_7cf53 := by
  refine cb_ok2 ⟨by decide +kernel, rfl⟩ (by decide) cs_J9_max_7cf53 (by decide) (fun X a M x y _ h => cb_run cb_tb_ok vd_J9_max_7cf53 (cuts := []) 20 ?_)
  refine And.intro (fun h1 => And.intro trivial (cb_eqK h ?_)) (fun h1 => And.intro trivial (cb_eqK h ?_))
  · exact (if_pos h1).symm
  · exact (if_neg h1).symm
def pt_J9_floorMod_7cf53 : cb_PT := cb_f2 (fun _ y => ¬ y = 0) wm_fmod
def md_J9_floorMod_7cf53 : cb_D := (RJ9, cJ9_floorMod_7cf53, 3, (some .int), (0, 0, 0, 0), [
  (0, .iload_n 0, 1, 0, 0, 0, 0),
  (1, .iload_n 1, 1, 0, 1, 0, 0),
  (2, .irem, 1, 0, 0, 0, 0),
  (3, .istore_n 2, 1, 0, 2, 0, 0),
  (4, .iload_n 0, 1, 0, 0, 0, 0),
  (5, .iload_n 1, 1, 0, 1, 0, 0),
  (6, .ixor, 1, 0, 0, 0, 0),
  (7, .ifCond .ge 11, 3, 0, 18, 0, 0),
  (10, .iload_n 2, 1, 0, 2, 0, 0),
  (11, .ifCond .eq 7, 3, 0, 18, 0, 0),
  (14, .iload_n 2, 1, 0, 2, 0, 0),
  (15, .iload_n 1, 1, 0, 1, 0, 0),
  (16, .iadd, 1, 0, 0, 0, 0),
  (17, .ireturn, 1, 0, 0, 0, 0),
  (18, .iload_n 2, 1, 0, 2, 0, 0),
  (19, .ireturn, 1, 0, 0, 0, 0)],
  [], [])
set_option maxRecDepth 100000 in
theorem vd_J9_floorMod_7cf53 : md_J9_floorMod_7cf53.cd.all (cb_vE md_J9_floorMod_7cf53) = true := by decide +kernel
theorem wd_J9_floorMod_7cf53 : cb_wd yJ9_floorMod_7cf53 md_J9_floorMod_7cf53 := ⟨cb_tw (i := 463) (by decide +kernel), cb_tw (i := 16) (by decide +kernel), by decide, by decide⟩
theorem cs_J9_floorMod_7cf53 : ∀ X, cb_Bs md_J9_floorMod_7cf53 X → ∀ g ∈ md_J9_floorMod_7cf53.ga, cb_CS cb_tb md_J9_floorMod_7cf53 X g := fun X B => fun _ h => nomatch h
theorem ok_J9_floorMod_7cf53 : cb_MOK cb_tb yJ9_floorMod_7cf53 md_J9_floorMod_7cf53 pt_J9_floorMod_7cf53 := by
  refine cb_ok2 ⟨by decide +kernel, rfl⟩ (by decide) cs_J9_floorMod_7cf53 (by decide) (fun X a M x y hy h => cb_run cb_tb_ok vd_J9_floorMod_7cf53 (cuts := []) 40 ?_)
  refine And.intro hy (And.intro (fun h1 => And.intro trivial (cb_eqK h ?_)) (fun h1 => And.intro (fun h2 => And.intro trivial (cb_eqK h ?_)) (fun h2 => And.intro trivial (cb_eqK h ?_))))
  · exact (if_neg fun q => q.1 h1).symm
  · exact (if_neg fun q => q.2 h2).symm
  · exact (if_pos ⟨h1, h2⟩).symm
def pt_X9_apartBy : cb_PT := cb_f2 (fun _ _ => True) wm_ap
theorem nt_X9_apartBy : cb_nt pt_X9_apartBy := cb_f2_nt _ _
def md_X9_apartBy : cb_D := (RX9, cX9_apartBy, 3, (some .int), (0, 0, 0, 0), [
  (0, .iload_n 1, 1, 0, 1, 0, 0),
  (1, .iload_n 0, 1, 0, 0, 0, 0),
  (2, .isub, 1, 0, 0, 0, 0),
  (3, .istore_n 2, 1, 0, 2, 0, 0),
  (4, .iload_n 2, 1, 0, 2, 0, 0),
  (5, .sipush (-500), 3, (-500), 0, 0, 0),
  (8, .if_icmp .ge 9, 3, 0, 17, 0, 0),
  (11, .iload_n 2, 1, 0, 2, 0, 0),
  (12, .sipush 1000, 3, 1000, 0, 0, 0),
  (15, .iadd, 1, 0, 0, 0, 0),
  (16, .ireturn, 1, 0, 0, 0, 0),
  (17, .iload_n 2, 1, 0, 2, 0, 0),
  (18, .sipush 500, 3, 500, 0, 0, 0),
  (21, .if_icmp .lt 11, 3, 0, 32, 0, 0),
  (24, .iload_n 2, 1, 0, 2, 0, 0),
  (25, .sipush 1000, 3, 1000, 0, 0, 0),
  (28, .isub, 1, 0, 0, 0, 0),
  (29, .goto 4, 3, 0, 33, 0, 0),
  (32, .iload_n 2, 1, 0, 2, 0, 0),
  (33, .ireturn, 1, 0, 0, 0, 0)],
  [], [])
set_option maxRecDepth 100000 in
theorem vd_X9_apartBy : md_X9_apartBy.cd.all (cb_vE md_X9_apartBy) = true := by decide +kernel
theorem wd_X9_apartBy : cb_wd yX9_apartBy md_X9_apartBy := ⟨cb_tw (i := 500) (by decide +kernel), cb_tw (i := 1) (by decide +kernel), by decide, by decide⟩
theorem cs_X9_apartBy : ∀ X, cb_Bs md_X9_apartBy X → ∀ g ∈ md_X9_apartBy.ga, cb_CS cb_tb md_X9_apartBy X g := fun X B => fun _ h => nomatch h
theorem ok_X9_apartBy : cb_MOK cb_tb yX9_apartBy md_X9_apartBy pt_X9_apartBy := by
  refine cb_ok2 ⟨plainFor_of_name (by decide), rfl⟩ (by decide) cs_X9_apartBy (by decide) (fun X a M p q _ h => cb_run cb_tb_ok vd_X9_apartBy (cuts := []) 40 ?_)
  refine And.intro (fun h1 => And.intro (fun h2 => And.intro trivial (cb_eqK h ?_)) (fun h2 => And.intro trivial (cb_eqK h ?_))) (fun h1 => And.intro trivial (cb_eqK h ?_))
  · unfold wm_ap
    rw [if_neg (Int32.not_lt.mpr h1), if_neg (cb_lt_nle h2)]
  · unfold wm_ap
    rw [if_neg (Int32.not_lt.mpr h1), if_pos (Int32.not_lt.mp h2)]
  · unfold wm_ap
    rw [if_pos (cb_nle_lt h1)]
def pt_X9_bitOf : cb_PT := cb_f2 (fun _ i => vp_in i 32) fun x i => cb_z (cb_bit x i.toNatClampNeg)
theorem nt_X9_bitOf : cb_nt pt_X9_bitOf := cb_f2_nt _ _
def md_X9_bitOf : cb_D := (RX9, cX9_bitOf, 2, (some .int), (0, 0, 0, 0), [
  (0, .iload_n 0, 1, 0, 0, 0, 0),
  (1, .iload_n 1, 1, 0, 1, 0, 0),
  (2, .iushr, 1, 0, 0, 0, 0),
  (3, .iconst 1, 1, 1, 0, 0, 0),
  (4, .iand, 1, 0, 0, 0, 0),
  (5, .ireturn, 1, 0, 0, 0, 0)],
  [], [])
set_option maxRecDepth 100000 in
theorem vd_X9_bitOf : md_X9_bitOf.cd.all (cb_vE md_X9_bitOf) = true := by decide +kernel
theorem wd_X9_bitOf : cb_wd yX9_bitOf md_X9_bitOf := ⟨cb_tw (i := 441) (by decide +kernel), cb_tw (i := 1) (by decide +kernel), by decide, by decide⟩
theorem cs_X9_bitOf : ∀ X, cb_Bs md_X9_bitOf X → ∀ g ∈ md_X9_bitOf.ga, cb_CS cb_tb md_X9_bitOf X g := fun X B => fun _ h => nomatch h
theorem ok_X9_bitOf : cb_MOK cb_tb yX9_bitOf md_X9_bitOf pt_X9_bitOf := by
  refine cb_ok2 ⟨plainFor_of_name (by decide), rfl⟩ (by decide) cs_X9_bitOf (by decide) (fun X a M x i hi h => cb_run cb_tb_ok vd_X9_bitOf (cuts := []) 40 ?_)
  refine And.intro trivial (cb_eqK h ?_)
  obtain ⟨j, hj, rfl⟩ := vp_in_of hi (by decide)
  rw [nI_clamp (by omega)]
  exact cb_bitOf x hj
def pt_X9_beatBy : cb_PT := cb_f1 (fun _ => True) wm_beat
theorem nt_X9_beatBy : cb_nt pt_X9_beatBy := cb_f1_nt _ _
def md_X9_beatBy : cb_D := (RX9, cX9_beatBy, 1, (some .int), (0, 0, 0, 0), [
  (0, .iload_n 0, 1, 0, 0, 0, 0),
  (1, .bipush (-20), 2, (-20), 0, 0, 0),
  (3, .if_icmp .lt 11, 3, 0, 14, 0, 0),
  (6, .iload_n 0, 1, 0, 0, 0, 0),
  (7, .bipush 20, 2, 20, 0, 0, 0),
  (9, .if_icmp .gt 5, 3, 0, 14, 0, 0),
  (12, .iconst 2, 1, 2, 0, 0, 0),
  (13, .ireturn, 1, 0, 0, 0, 0),
  (14, .iload_n 0, 1, 0, 0, 0, 0),
  (15, .sipush (-480), 3, (-480), 0, 0, 0),
  (18, .if_icmp .le 10, 3, 0, 28, 0, 0),
  (21, .iload_n 0, 1, 0, 0, 0, 0),
  (22, .sipush 480, 3, 480, 0, 0, 0),
  (25, .if_icmp .lt 7, 3, 0, 32, 0, 0),
  (28, .iconst 1, 1, 1, 0, 0, 0),
  (29, .goto 4, 3, 0, 33, 0, 0),
  (32, .iconst 0, 1, 0, 0, 0, 0),
  (33, .ireturn, 1, 0, 0, 0, 0)],
  [], [])
set_option maxRecDepth 100000 in
theorem vd_X9_beatBy : md_X9_beatBy.cd.all (cb_vE md_X9_beatBy) = true := by decide +kernel
theorem wd_X9_beatBy : cb_wd yX9_beatBy md_X9_beatBy := ⟨cb_tw (i := 503) (by decide +kernel), cb_tw (i := 1) (by decide +kernel), by decide, by decide⟩
theorem cs_X9_beatBy : ∀ X, cb_Bs md_X9_beatBy X → ∀ g ∈ md_X9_beatBy.ga, cb_CS cb_tb md_X9_beatBy X g := fun X B => fun _ h => nomatch h
theorem ok_X9_beatBy : cb_MOK cb_tb yX9_beatBy md_X9_beatBy pt_X9_beatBy := by
  refine cb_ok1 ⟨plainFor_of_name (by decide), rfl⟩ (by decide) cs_X9_beatBy (by decide) (fun X a M x _ h => cb_run cb_tb_ok vd_X9_beatBy (cuts := []) 40 ?_)
  have key : ∀ c1 c2 : Prop, ∀ v : Int32, (¬ (-20 ≤ x ∧ x ≤ 20)) → (x ≤ -480 → v = 1) → (480 ≤ x → v = 1) → (¬ x ≤ -480 → ¬ 480 ≤ x → v = 0) → v = wm_beat x := by
    intro _ _ v h1 h2 h3 h4
    unfold wm_beat
    rw [if_neg h1]
    by_cases q1 : x ≤ -480
    · rw [if_pos (Or.inl q1)]; exact h2 q1
    · by_cases q2 : 480 ≤ x
      · rw [if_pos (Or.inr q2)]; exact h3 q2
      · rw [if_neg (fun q => q.elim q1 q2)]; exact h4 q1 q2
  refine And.intro (fun h1 => ?_) (fun h1 => ?_)
  · refine And.intro (fun h2 => ?_) (fun h2 => And.intro (fun h3 => ?_) (fun h3 => ?_))
    · exact And.intro trivial (cb_eqK h (key True True _ (fun q => cb_lt_nle h1 q.1) (fun _ => rfl) (fun _ => rfl) (fun q => (q h2).elim)))
    · exact And.intro trivial (cb_eqK h (key True True _ (fun q => cb_lt_nle h1 q.1) (fun q => (h2 q).elim) (fun q => (cb_lt_nle h3 q).elim) (fun _ _ => rfl)))
    · exact And.intro trivial (cb_eqK h (key True True _ (fun q => cb_lt_nle h1 q.1) (fun _ => rfl) (fun _ => rfl) (fun _ q => (q (Int32.not_lt.mp h3)).elim)))
  · refine And.intro (fun h4 => ?_) (fun h4 => ?_)
    · refine And.intro (fun h2 => ?_) (fun h2 => And.intro (fun h3 => ?_) (fun h3 => ?_))
      · exact And.intro trivial (cb_eqK h (key True True _ (fun q => cb_lt_nle h4 q.2) (fun _ => rfl) (fun _ => rfl) (fun q => (q h2).elim)))
      · exact And.intro trivial (cb_eqK h (key True True _ (fun q => cb_lt_nle h4 q.2) (fun q => (h2 q).elim) (fun q => (cb_lt_nle h3 q).elim) (fun _ _ => rfl)))
      · exact And.intro trivial (cb_eqK h (key True True _ (fun q => cb_lt_nle h4 q.2) (fun _ => rfl) (fun _ => rfl) (fun _ q => (q (Int32.not_lt.mp h3)).elim)))
    · refine And.intro trivial (cb_eqK h ?_)
      unfold wm_beat
      rw [if_pos ⟨Int32.not_lt.mp h1, Int32.not_lt.mp h4⟩]
def pt_X9_beatAsked : cb_PT := cb_f1 (fun _ => True) fun x => if x = 0 then 2 else if x = 1 then 1 else 0
theorem nt_X9_beatAsked : cb_nt pt_X9_beatAsked := cb_f1_nt _ _
def md_X9_beatAsked : cb_D := (RX9, cX9_beatAsked, 1, (some .int), (0, 0, 0, 0), [
  (0, .iload_n 0, 1, 0, 0, 0, 0),
  (1, .ifCond .ne 7, 3, 0, 8, 0, 0),
  (4, .iconst 2, 1, 2, 0, 0, 0),
  (5, .goto 13, 3, 0, 18, 0, 0),
  (8, .iload_n 0, 1, 0, 0, 0, 0),
  (9, .iconst 1, 1, 1, 0, 0, 0),
  (10, .if_icmp .ne 7, 3, 0, 17, 0, 0),
  (13, .iconst 1, 1, 1, 0, 0, 0),
  (14, .goto 4, 3, 0, 18, 0, 0),
  (17, .iconst 0, 1, 0, 0, 0, 0),
  (18, .ireturn, 1, 0, 0, 0, 0)],
  [], [])
set_option maxRecDepth 100000 in
theorem vd_X9_beatAsked : md_X9_beatAsked.cd.all (cb_vE md_X9_beatAsked) = true := by decide +kernel
theorem wd_X9_beatAsked : cb_wd yX9_beatAsked md_X9_beatAsked := ⟨cb_tw (i := 1004) (by decide +kernel), cb_tw (i := 1) (by decide +kernel), by decide, by decide⟩
theorem cs_X9_beatAsked : ∀ X, cb_Bs md_X9_beatAsked X → ∀ g ∈ md_X9_beatAsked.ga, cb_CS cb_tb md_X9_beatAsked X g := fun X B => fun _ h => nomatch h
theorem ok_X9_beatAsked : cb_MOK cb_tb yX9_beatAsked md_X9_beatAsked pt_X9_beatAsked := by
  refine cb_ok1 ⟨plainFor_of_name (by decide), rfl⟩ (by decide) cs_X9_beatAsked (by decide) (fun X a M x _ h => cb_run cb_tb_ok vd_X9_beatAsked (cuts := []) 40 ?_)
  refine And.intro (fun h1 => And.intro (fun h2 => ?_) (fun h2 => ?_)) (fun h1 => ?_)
  · refine And.intro trivial (cb_eqK h ?_)
    rw [if_neg h1, if_neg h2]
  · refine And.intro trivial (cb_eqK h ?_)
    rw [if_neg h1, if_pos (Classical.not_not.mp h2)]
  · refine And.intro trivial (cb_eqK h ?_)
    rw [if_pos (Classical.not_not.mp h1)]
def pt_X7_tendencyBy : cb_PT := cb_f1 (fun _ => True) wm_ten
def md_X7_tendencyBy : cb_D := (RX7, cX7_tendencyBy, 1, (some .int), (0, 0, 0, 0), [
  (0, .iload_n 0, 1, 0, 0, 0, 0),
  (1, .sipush 250, 3, 250, 0, 0, 0),
  (4, .if_icmp .le 9, 3, 0, 13, 0, 0),
  (7, .iload_n 0, 1, 0, 0, 0, 0),
  (8, .sipush 500, 3, 500, 0, 0, 0),
  (11, .isub, 1, 0, 0, 0, 0),
  (12, .ireturn, 1, 0, 0, 0, 0),
  (13, .iload_n 0, 1, 0, 0, 0, 0),
  (14, .sipush (-250), 3, (-250), 0, 0, 0),
  (17, .if_icmp .ge 11, 3, 0, 28, 0, 0),
  (20, .iload_n 0, 1, 0, 0, 0, 0),
  (21, .sipush 500, 3, 500, 0, 0, 0),
  (24, .iadd, 1, 0, 0, 0, 0),
  (25, .goto 4, 3, 0, 29, 0, 0),
  (28, .iload_n 0, 1, 0, 0, 0, 0),
  (29, .ireturn, 1, 0, 0, 0, 0)],
  [], [])
set_option maxRecDepth 100000 in
theorem vd_X7_tendencyBy : md_X7_tendencyBy.cd.all (cb_vE md_X7_tendencyBy) = true := by decide +kernel
theorem wd_X7_tendencyBy : cb_wd yX7_tendencyBy md_X7_tendencyBy := ⟨cb_tw (i := 866) (by decide +kernel), cb_tw (i := 5) (by decide +kernel), by decide, by decide⟩
theorem cs_X7_tendencyBy : ∀ X, cb_Bs md_X7_tendencyBy X → ∀ g ∈ md_X7_tendencyBy.ga, cb_CS cb_tb md_X7_tendencyBy X g := fun X B => fun _ h => nomatch h
theorem ok_X7_tendencyBy : cb_MOK cb_tb yX7_tendencyBy md_X7_tendencyBy pt_X7_tendencyBy := by
  refine cb_ok1 ⟨plainFor_of_name (by decide), rfl⟩ (by decide) cs_X7_tendencyBy (by decide) (fun X a M x _ h => cb_run cb_tb_ok vd_X7_tendencyBy (cuts := []) 40 ?_)
  refine And.intro (fun h1 => And.intro (fun h2 => ?_) (fun h2 => ?_)) (fun h1 => ?_)
  · refine And.intro trivial (cb_eqK h ?_)
    unfold wm_ten
    rw [if_neg (Int32.not_lt.mpr h1), if_neg (Int32.not_lt.mpr h2)]
  · refine And.intro trivial (cb_eqK h ?_)
    unfold wm_ten
    rw [if_neg (Int32.not_lt.mpr h1), if_pos (cb_nle_lt h2)]
  · refine And.intro trivial (cb_eqK h ?_)
    unfold wm_ten
    rw [if_pos (cb_nle_lt h1)]
