/-! ===== methods of things; what there is once all is made ===== -/
/-- how many there are of each tag, and one; 0: as many moments as there are -/
def cb_cnt : List Nat := [2, 2, 3, 3, 3, 3, 3, 3, 3, 3, 3, 3, 3, 3, 3, 3, 0, 0, 0, 0, 0, 0, 0, 0, 2, 2, 2, 2, 2, 2, 2, 2, 2, 2, 2, 2, 2, 2, 2, 2, 2, 2, 2, 2, 2, 2, 2, 2, 2, 2, 2, 2, 2, 2, 2, 2, 2, 9, 2, 7, 2, 9, 2, 9, 2, 2, 2, 2, 2, 2, 2, 2, 2, 2, 2, 402, 2, 402, 2, 4, 2, 2, 2, 2, 2, 2, 2, 2, 101, 2, 2]
def cb_aS (n t i : Nat) : Bool := match cb_nth cb_cnt t 1 with
  | 0 => Nat.ble i n
  | c + 1 => Nat.blt i c
def cb_nl (r : List cb_V) : Bool := r.all fun v => !cb_lg v
theorem cb_nl_len : ∀ {r : List cb_V}, cb_nl r = true → (r.flatMap fun v => if cb_lg v then [some v, none] else [some v]).length = r.length
  | [], _ => rfl
  | v :: r, h => by
    simp only [cb_nl, List.all_cons, Bool.and_eq_true, Bool.not_eq_true'] at h
    rw [List.flatMap_cons, List.length_append, cb_nl_len (r := r) h.2, h.1]
    simp
    omega
abbrev cb_Sp : Type := Nat → List cb_V → cb_M → (Option cb_V → cb_M → Prop) → Prop
/-- a method of the things of tag T, that takes na values beside, and doesn't throw -/
def cb_m (T na : Nat) (sp : cb_Sp) : cb_PT := fun As a M K => match As with
  | .inr (.inr (some (t, i))) :: r => cb_ck (Nat.beq t T) (cb_ck (Nat.beq r.length na) (cb_ck (cb_nl r) (((∃ n, a.1 = cb_aS n) ∧ a.1 T i = true) ∧ sp i r M fun v M' => K (.inl v) a M')))
  | _ => False
theorem cb_m_to {T na : Nat} {sp : cb_Sp} {As : List cb_V} {a : cb_A} {M : cb_M} {K : cb_Out → cb_A → cb_M → Prop} (h : cb_m T na sp As a M K) : ∃ (i : Nat) (r : List cb_V) (n : Nat) (f : Option Nat), As = cb_r T i :: r ∧ r.length = na ∧ cb_nl r = true ∧ a = (cb_aS n, f) ∧ cb_aS n T i = true ∧ sp i r M fun v M' => K (.inl v) (cb_aS n, f) M' := by
  unfold cb_m at h
  split at h
  · obtain ⟨g1, h⟩ := h.to
    obtain ⟨g2, h⟩ := h.to
    obtain ⟨g3, h⟩ := h.to
    obtain ⟨⟨⟨n, hn⟩, ha⟩, h9⟩ := h
    have e := Nat.eq_of_beq_eq_true g1
    subst e
    obtain ⟨a1, a2⟩ := a
    simp only [] at hn
    subst hn
    exact ⟨_, _, n, a2, rfl, Nat.eq_of_beq_eq_true g2, g3, rfl, ha, h9⟩
  · exact h.elim
theorem cb_m_rc {T na : Nat} {sp : cb_Sp} {C : String} (hk : cb_kd cb_tb T = 0) (hq : (cb_cl[cb_x cb_tb T]?).map (fun q => q.1) = some C) : cb_rc cb_tb C (cb_m T na sp) := by
  intro As a M K h
  obtain ⟨i, r, n, f, rfl, -, -, rfl, ha, -⟩ := cb_m_to h
  cases e : cb_cl[cb_x cb_tb T]? with
  | none => rw [e] at hq; cases hq
  | some q =>
    rw [e] at hq
    exact ⟨T, i, r, q, rfl, ha, hk, e, Option.some.inj hq⟩
theorem cb_okm {y : MethodName} {d : cb_D} {T na : Nat} {sp : cb_Sp} (hy : plainFor y = true ∧ y.cls = d.own) (hnL : na + 1 ≤ d.nL) (hcs : ∀ X, cb_Bs d X → ∀ g ∈ d.ga, cb_CS cb_tb d X g) (hT : cb_noT d = true)
    (hb : ∀ X n f i r M, r.length = na → cb_aS n T i = true → sp i r M (fun v M' => X.K (.inl v) (cb_aS n, f) M') → cb_Gd cb_tb d X 0 (cb_l0 (cb_r T i :: r) d.nL) [] (cb_aS n, f) M 0 0) : cb_MOK cb_tb y d (cb_m T na sp) := by
  refine cb_of hy (fun As a M K h => ?_) hcs (fun _ _ _ _ _ => cb_Ts0 hT) (fun X As a M h => ?_)
  · obtain ⟨i, r, n, f, rfl, h1, h2, -⟩ := cb_m_to h
    rw [List.flatMap_cons, List.length_append, cb_nl_len h2, h1]
    show 1 + na ≤ d.nL
    omega
  · obtain ⟨i, r, n, f, rfl, h1, -, rfl, ha, h⟩ := cb_m_to h
    exact hb X n f i r M h1 ha h
theorem cb_on {n : Nat} {f : Option Nat} {T i : Nat} (h : cb_aS n T i = true) : (∃ m, ((cb_aS n, f) : cb_A).1 = cb_aS m) ∧ ((cb_aS n, f) : cb_A).1 T i = true := ⟨⟨n, rfl⟩, h⟩
theorem cb_a1 {n T i : Nat} (h : cb_nth cb_cnt T 1 = 2) (ha : cb_aS n T i = true) : i = 0 := by
  unfold cb_aS at ha
  rw [h] at ha
  simpa using ha
theorem cb_a2 {n T i : Nat} (h : cb_nth cb_cnt T 1 = 3) (ha : cb_aS n T i = true) : i < 2 := by
  unfold cb_aS at ha
  rw [h] at ha
  simpa using ha
theorem cb_in8 {i n N : Nat} (h : i < n) (hn : n ≤ N) (hN : N < 2 ^ 31) : vp_in (nI i) N := vp_in_nI (Nat.lt_of_lt_of_le h hn) hN
theorem cb_z1 {K : Option cb_V → cb_M → Prop} {M : cb_M} {b : Bool} (h : K (some (cb_i (cb_z b))) M) (hb : b = true) : K (some (cb_i 1)) M := by
  subst hb
  exact h
theorem cb_z0 {K : Option cb_V → cb_M → Prop} {M : cb_M} {b : Bool} (h : K (some (cb_i (cb_z b))) M) (hb : b = false) : K (some (cb_i 0)) M := by
  subst hb
  exact h
theorem cb_rt1 : cb_rv (some .boolean) 1 := Or.inr rfl
theorem cb_rt0 : cb_rv (some .boolean) 0 := Or.inl rfl
/-! the plan -/
def sp_runsOn : cb_Sp := fun P r M K => match r with
  | [.inl x, .inl day] => vp_in x 8 ∧ K (some (cb_i (cb_z (decide (cb_gI M 11 P x.toNatClampNeg ≤ 8 ∨ cb_rem day (cb_gI M 11 P x.toNatClampNeg) < 8))))) M
  | _ => False
def pt_X4_runsOn : cb_PT := cb_m 3 2 sp_runsOn
theorem rc_X4_runsOn : cb_rc cb_tb RX4 pt_X4_runsOn := cb_m_rc rfl rfl
def md_X4_runsOn : cb_D := (RX4, cX4_runsOn, 4, (some .boolean), (0, 0, 0, 0), [
  (0, .aload_n 0, 1, 0, 0, 0, 0),
  (1, .getfield 49, 3, 0, 4, 12, 113),
  (4, .iload_n 1, 1, 0, 1, 0, 0),
  (5, .iaload, 1, 0, 0, 0, 0),
  (6, .istore_n 3, 1, 0, 3, 0, 0),
  (7, .iload_n 3, 1, 0, 3, 0, 0),
  (8, .bipush 8, 2, 8, 0, 0, 0),
  (10, .if_icmp .le 11, 3, 0, 21, 0, 0),
  (13, .iload_n 2, 1, 0, 2, 0, 0),
  (14, .iload_n 3, 1, 0, 3, 0, 0),
  (15, .irem, 1, 0, 0, 0, 0),
  (16, .bipush 8, 2, 8, 0, 0, 0),
  (18, .if_icmp .ge 7, 3, 0, 25, 0, 0),
  (21, .iconst 1, 1, 1, 0, 0, 0),
  (22, .goto 4, 3, 0, 26, 0, 0),
  (25, .iconst 0, 1, 0, 0, 0, 0),
  (26, .ireturn, 1, 0, 0, 0, 0)],
  [], [])
set_option maxRecDepth 100000 in
theorem vd_X4_runsOn : md_X4_runsOn.cd.all (cb_vE md_X4_runsOn) = true := by decide +kernel
theorem wd_X4_runsOn : cb_wd yX4_runsOn md_X4_runsOn := ⟨cb_tw (i := 809) (by decide +kernel), cb_tw (i := 3) (by decide +kernel), by decide, by decide⟩
theorem cs_X4_runsOn : ∀ X, cb_Bs md_X4_runsOn X → ∀ g ∈ md_X4_runsOn.ga, cb_CS cb_tb md_X4_runsOn X g := fun X B => fun _ h => nomatch h
theorem ok_X4_runsOn : cb_MOK cb_tb yX4_runsOn md_X4_runsOn pt_X4_runsOn := by
  refine cb_okm ⟨plainFor_of_name (by decide), rfl⟩ (by decide) cs_X4_runsOn (by decide) (fun X n f P r M hr ha h => ?_)
  match r, hr, h with
  | [.inl x, .inl day], hr, h =>
    obtain ⟨hx, h⟩ := h
    refine cb_run cb_tb_ok vd_X4_runsOn (cuts := []) 40 ?_
    refine cb_av.of ha (cb_av.of (show cb_aS n 11 P = true from ha) (And.intro hx ?_))
    refine And.intro (fun h1 => ?_) (fun h1 => And.intro (fun q => ?_) (And.intro (fun h2 => ?_) (fun h2 => ?_)))
    · exact And.intro cb_rt1 (cb_z1 (K := fun v M' => X.K (.inl v) (cb_aS n, f) M') h (decide_eq_true (Or.inl h1)))
    · exact h1 (show cb_gI M 11 P x.toNatClampNeg ≤ 8 by rw [q]; decide)
    · exact And.intro cb_rt0 (cb_z0 (K := fun v M' => X.K (.inl v) (cb_aS n, f) M') h (decide_eq_false (fun q => q.elim h1 (Int32.not_lt.mpr h2))))
    · exact And.intro cb_rt1 (cb_z1 (K := fun v M' => X.K (.inl v) (cb_aS n, f) M') h (decide_eq_true (Or.inr (cb_nle_lt h2))))
def wm_rgt (w x : Int32) : Bool := decide (-w ≤ x ∧ x ≤ w)
def sp_isRightBy : cb_Sp := fun P r M K => match r with
  | [.inl x] => K (some (cb_i (cb_z (wm_rgt (cb_gI M 3 P 4) x)))) M
  | _ => False
def pt_X4_isRightBy : cb_PT := cb_m 3 1 sp_isRightBy
theorem rc_X4_isRightBy : cb_rc cb_tb RX4 pt_X4_isRightBy := cb_m_rc rfl rfl
def md_X4_isRightBy : cb_D := (RX4, cX4_isRightBy, 2, (some .boolean), (0, 0, 0, 0), [
  (0, .iload_n 1, 1, 0, 1, 0, 0),
  (1, .aload_n 0, 1, 0, 0, 0, 0),
  (2, .getfield 24, 3, 0, 4, 4, 82),
  (5, .ineg, 1, 0, 0, 0, 0),
  (6, .if_icmp .lt 15, 3, 0, 21, 0, 0),
  (9, .iload_n 1, 1, 0, 1, 0, 0),
  (10, .aload_n 0, 1, 0, 0, 0, 0),
  (11, .getfield 24, 3, 0, 4, 4, 82),
  (14, .if_icmp .gt 7, 3, 0, 21, 0, 0),
  (17, .iconst 1, 1, 1, 0, 0, 0),
  (18, .goto 4, 3, 0, 22, 0, 0),
  (21, .iconst 0, 1, 0, 0, 0, 0),
  (22, .ireturn, 1, 0, 0, 0, 0)],
  [], [])
set_option maxRecDepth 100000 in
theorem vd_X4_isRightBy : md_X4_isRightBy.cd.all (cb_vE md_X4_isRightBy) = true := by decide +kernel
theorem wd_X4_isRightBy : cb_wd yX4_isRightBy md_X4_isRightBy := ⟨cb_tw (i := 475) (by decide +kernel), cb_tw (i := 3) (by decide +kernel), by decide, by decide⟩
theorem cs_X4_isRightBy : ∀ X, cb_Bs md_X4_isRightBy X → ∀ g ∈ md_X4_isRightBy.ga, cb_CS cb_tb md_X4_isRightBy X g := fun X B => fun _ h => nomatch h
theorem ok_X4_isRightBy : cb_MOK cb_tb yX4_isRightBy md_X4_isRightBy pt_X4_isRightBy := by
  refine cb_okm ⟨plainFor_of_name (by decide), rfl⟩ (by decide) cs_X4_isRightBy (by decide) (fun X n f P r M hr ha h => ?_)
  match r, hr, h with
  | [.inl x], hr, h =>
    refine cb_run cb_tb_ok vd_X4_isRightBy (cuts := []) 40 ?_
    refine cb_av.of ha (And.intro (fun h1 => ?_) (fun h1 => cb_av.of ha (And.intro (fun h2 => ?_) (fun h2 => ?_))))
    · exact And.intro cb_rt0 (cb_z0 (K := fun v M' => X.K (.inl v) (cb_aS n, f) M') h (decide_eq_false (fun q => cb_lt_nle h1 q.1)))
    · exact And.intro cb_rt0 (cb_z0 (K := fun v M' => X.K (.inl v) (cb_aS n, f) M') h (decide_eq_false (fun q => cb_lt_nle h2 q.2)))
    · exact And.intro cb_rt1 (cb_z1 (K := fun v M' => X.K (.inl v) (cb_aS n, f) M') h (decide_eq_true ⟨Int32.not_lt.mp h1, Int32.not_lt.mp h2⟩))
def wm_dmp (dp : wm_F) (day : Int32) : Int32 := if 0 ≤ day ∧ day < 400 then dp day.toNatClampNeg else 0
def sp_dampOn : cb_Sp := fun P r M K => match r with
  | [.inl day] => K (some (cb_i (wm_dmp (cb_gI M 15 P) day))) M
  | _ => False
def pt_X4_dampOn : cb_PT := cb_m 3 1 sp_dampOn
theorem rc_X4_dampOn : cb_rc cb_tb RX4 pt_X4_dampOn := cb_m_rc rfl rfl
def md_X4_dampOn : cb_D := (RX4, cX4_dampOn, 2, (some .int), (0, 0, 0, 0), [
  (0, .iload_n 1, 1, 0, 1, 0, 0),
  (1, .ifCond .lt 19, 3, 0, 20, 0, 0),
  (4, .iload_n 1, 1, 0, 1, 0, 0),
  (5, .sipush 400, 3, 400, 0, 0, 0),
  (8, .if_icmp .ge 12, 3, 0, 20, 0, 0),
  (11, .aload_n 0, 1, 0, 0, 0, 0),
  (12, .getfield 61, 3, 0, 4, 16, 124),
  (15, .iload_n 1, 1, 0, 1, 0, 0),
  (16, .iaload, 1, 0, 0, 0, 0),
  (17, .goto 4, 3, 0, 21, 0, 0),
  (20, .iconst 0, 1, 0, 0, 0, 0),
  (21, .ireturn, 1, 0, 0, 0, 0)],
  [], [])
set_option maxRecDepth 100000 in
theorem vd_X4_dampOn : md_X4_dampOn.cd.all (cb_vE md_X4_dampOn) = true := by decide +kernel
theorem wd_X4_dampOn : cb_wd yX4_dampOn md_X4_dampOn := ⟨cb_tw (i := 898) (by decide +kernel), cb_tw (i := 3) (by decide +kernel), by decide, by decide⟩
theorem cs_X4_dampOn : ∀ X, cb_Bs md_X4_dampOn X → ∀ g ∈ md_X4_dampOn.ga, cb_CS cb_tb md_X4_dampOn X g := fun X B => fun _ h => nomatch h
theorem cb_inI {x : Int32} {n : Nat} (h0 : 0 ≤ x) (h1 : x < nI n) (hn : n < 2 ^ 31) : vp_in x n := by
  rw [vp_in_iff]
  have e1 := Int32.le_iff_toInt_le.mp h0
  have e2 := Int32.lt_iff_toInt_lt.mp h1
  rw [nI_toInt hn] at e2
  exact ⟨by simpa using e1, e2⟩
theorem ok_X4_dampOn : cb_MOK cb_tb yX4_dampOn md_X4_dampOn pt_X4_dampOn := by
  refine cb_okm ⟨plainFor_of_name (by decide), rfl⟩ (by decide) cs_X4_dampOn (by decide) (fun X n f P r M hr ha h => ?_)
  match r, hr, h with
  | [.inl day], hr, h =>
    refine cb_run cb_tb_ok vd_X4_dampOn (cuts := []) 40 ?_
    refine And.intro (fun h1 => ?_) (fun h1 => And.intro (fun h2 => ?_) (fun h2 => ?_))
    · exact And.intro trivial (cb_eqK h (if_neg (fun q => cb_lt_nle h1 q.1)).symm)
    · exact And.intro trivial (cb_eqK h (if_neg (fun q => cb_lt_nle q.2 h2)).symm)
    · have a1 := Int32.not_lt.mp h1
      have a2 := cb_nle_lt h2
      exact cb_av.of ha (cb_av.of (show cb_aS n 15 P = true from ha) (And.intro (cb_inI (n := 400) a1 a2 (by decide)) (And.intro trivial (cb_eqK h (if_pos ⟨a1, a2⟩).symm))))
def wm_all (n : Int32) : Int32 := ((1 : Int32) <<< (n &&& 31)) - 1
def sp_allClocks : cb_Sp := fun P r M K => match r with
  | [] => K (some (cb_i (wm_all (cb_gI M 3 P 1)))) M
  | _ => False
def pt_X4_allClocks : cb_PT := cb_m 3 0 sp_allClocks
theorem rc_X4_allClocks : cb_rc cb_tb RX4 pt_X4_allClocks := cb_m_rc rfl rfl
def md_X4_allClocks : cb_D := (RX4, cX4_allClocks, 1, (some .int), (0, 0, 0, 0), [
  (0, .iconst 1, 1, 1, 0, 0, 0),
  (1, .aload_n 0, 1, 0, 0, 0, 0),
  (2, .getfield 15, 3, 0, 4, 1, 70),
  (5, .ishl, 1, 0, 0, 0, 0),
  (6, .iconst 1, 1, 1, 0, 0, 0),
  (7, .isub, 1, 0, 0, 0, 0),
  (8, .ireturn, 1, 0, 0, 0, 0)],
  [], [])
set_option maxRecDepth 100000 in
theorem vd_X4_allClocks : md_X4_allClocks.cd.all (cb_vE md_X4_allClocks) = true := by decide +kernel
theorem wd_X4_allClocks : cb_wd yX4_allClocks md_X4_allClocks := ⟨cb_tw (i := 434) (by decide +kernel), cb_tw (i := 3) (by decide +kernel), by decide, by decide⟩
theorem cs_X4_allClocks : ∀ X, cb_Bs md_X4_allClocks X → ∀ g ∈ md_X4_allClocks.ga, cb_CS cb_tb md_X4_allClocks X g := fun X B => fun _ h => nomatch h
theorem ok_X4_allClocks : cb_MOK cb_tb yX4_allClocks md_X4_allClocks pt_X4_allClocks := by
  refine cb_okm ⟨plainFor_of_name (by decide), rfl⟩ (by decide) cs_X4_allClocks (by decide) (fun X n f P r M hr ha h => ?_)
  match r, hr, h with
  | [], hr, h =>
    refine cb_run cb_tb_ok vd_X4_allClocks (cuts := []) 40 ?_
    exact cb_av.of ha (And.intro trivial (cb_eqK h rfl))
/-! the trial: one thing, number 0 -/
/-- what the trial is of: the plan P, the moment Q, so many clocks -/
def wk_c (M : cb_M) (P n : Nat) : wm_C := (n, cb_gI M 9 P, cb_gI M 29 0, cb_gI M 30 0, cb_gI M 8 P, cb_gI M 4 P, cb_gI M 11 P, cb_gI M 26 0, fun i j => cb_gI M 14 P (i * 8 + j))
def sp_setPhase : cb_Sp := fun _ r M K => match r with
  | [.inl x, .inl to] => vp_in x 8 ∧ K none (cb_sI M 27 0 x.toNatClampNeg (wm_fmod to 1000))
  | _ => False
def pt_X7_setPhase : cb_PT := cb_m 25 2 sp_setPhase
theorem rc_X7_setPhase : cb_rc cb_tb RX7 pt_X7_setPhase := cb_m_rc rfl rfl
def md_X7_setPhase : cb_D := (RX7, cX7_setPhase, 3, none, (0, 0, 1, 22), [
  (0, .aload_n 0, 1, 0, 0, 0, 0),
  (1, .getfield 22, 3, 0, 7, 5, 236),
  (4, .iload_n 1, 1, 0, 1, 0, 0),
  (5, .iload_n 2, 1, 0, 2, 0, 0),
  (6, .sipush 1000, 3, 1000, 0, 0, 0),
  (9, .invokestatic 101, 3, 0, 0, 0, 0),
  (12, .iastore, 1, 0, 0, 0, 0),
  (13, .return_, 1, 0, 0, 0, 0)],
  [(1, 101, 2, 0, 0, pt_J9_floorMod_7cf53)], [])
set_option maxRecDepth 100000 in
theorem vd_X7_setPhase : md_X7_setPhase.cd.all (cb_vE md_X7_setPhase) = true := by decide +kernel
theorem wd_X7_setPhase : cb_wd yX7_setPhase md_X7_setPhase := ⟨cb_tw (i := 906) (by decide +kernel), cb_tw (i := 5) (by decide +kernel), by decide, by decide⟩
theorem cs_X7_setPhase : ∀ X, cb_Bs md_X7_setPhase X → ∀ g ∈ md_X7_setPhase.ga, cb_CS cb_tb md_X7_setPhase X g := fun X B => List.forall_mem_cons.mpr ⟨cb_csS B ok_J9_floorMod_7cf53 wd_J9_floorMod_7cf53 (cb_tw (i := 907) (by decide +kernel)) (cb_tw (i := 462) (by decide +kernel)) ⟨by decide, by decide⟩ (by decide +kernel), fun _ h => nomatch h⟩
theorem ok_X7_setPhase : cb_MOK cb_tb yX7_setPhase md_X7_setPhase pt_X7_setPhase := by
  refine cb_okm ⟨plainFor_of_name (by decide), rfl⟩ (by decide) cs_X7_setPhase (by decide) (fun X n f i r M hr ha h => ?_)
  have h0 := cb_a1 (T := 25) rfl ha
  subst h0
  match r, hr, h with
  | [.inl x, .inl to], hr, h =>
    obtain ⟨hx, h⟩ := h
    refine cb_run cb_tb_ok vd_X7_setPhase (cuts := []) 40 ?_
    exact And.intro (show ¬ (1000 : Int32) = 0 by decide) (And.intro hx (And.intro rfl h))
def sp_windAlways : cb_Sp := fun _ r M K => match r with
  | [] => K none (cb_sI M 25 0 10 1)
  | _ => False
def pt_X7_windAlways : cb_PT := cb_m 25 0 sp_windAlways
theorem rc_X7_windAlways : cb_rc cb_tb RX7 pt_X7_windAlways := cb_m_rc rfl rfl
def md_X7_windAlways : cb_D := (RX7, cX7_windAlways, 1, none, (0, 0, 0, 0), [
  (0, .aload_n 0, 1, 0, 0, 0, 0),
  (1, .iconst 1, 1, 1, 0, 0, 0),
  (2, .putfield 37, 3, 0, 7, 10, 248),
  (5, .return_, 1, 0, 0, 0, 0)],
  [], [])
set_option maxRecDepth 100000 in
theorem vd_X7_windAlways : md_X7_windAlways.cd.all (cb_vE md_X7_windAlways) = true := by decide +kernel
theorem wd_X7_windAlways : cb_wd yX7_windAlways md_X7_windAlways := ⟨cb_tw (i := 1203) (by decide +kernel), cb_tw (i := 5) (by decide +kernel), by decide, by decide⟩
theorem cs_X7_windAlways : ∀ X, cb_Bs md_X7_windAlways X → ∀ g ∈ md_X7_windAlways.ga, cb_CS cb_tb md_X7_windAlways X g := fun X B => fun _ h => nomatch h
theorem ok_X7_windAlways : cb_MOK cb_tb yX7_windAlways md_X7_windAlways pt_X7_windAlways := by
  refine cb_okm ⟨plainFor_of_name (by decide), rfl⟩ (by decide) cs_X7_windAlways (by decide) (fun X n f i r M hr ha h => ?_)
  have h0 := cb_a1 (T := 25) rfl ha
  subst h0
  match r, hr, h with
  | [], hr, h =>
    refine cb_run cb_tb_ok vd_X7_windAlways (cuts := []) 40 ?_
    exact And.intro rfl h
def sp_hangAt : cb_Sp := fun _ r M K => match r with
  | [.inl x, .inl b, .inl p] => vp_in x 8 ∧ K none (cb_sI (cb_sI M 29 0 x.toNatClampNeg b) 30 0 x.toNatClampNeg p)
  | _ => False
def pt_X7_hangAt : cb_PT := cb_m 25 3 sp_hangAt
theorem rc_X7_hangAt : cb_rc cb_tb RX7 pt_X7_hangAt := cb_m_rc rfl rfl
def md_X7_hangAt : cb_D := (RX7, cX7_hangAt, 4, none, (0, 0, 0, 0), [
  (0, .aload_n 0, 1, 0, 0, 0, 0),
  (1, .getfield 28, 3, 0, 7, 7, 244),
  (4, .iload_n 1, 1, 0, 1, 0, 0),
  (5, .iload_n 2, 1, 0, 2, 0, 0),
  (6, .iastore, 1, 0, 0, 0, 0),
  (7, .aload_n 0, 1, 0, 0, 0, 0),
  (8, .getfield 31, 3, 0, 7, 8, 246),
  (11, .iload_n 1, 1, 0, 1, 0, 0),
  (12, .iload_n 3, 1, 0, 3, 0, 0),
  (13, .iastore, 1, 0, 0, 0, 0),
  (14, .return_, 1, 0, 0, 0, 0)],
  [], [])
set_option maxRecDepth 100000 in
theorem vd_X7_hangAt : md_X7_hangAt.cd.all (cb_vE md_X7_hangAt) = true := by decide +kernel
theorem wd_X7_hangAt : cb_wd yX7_hangAt md_X7_hangAt := ⟨cb_tw (i := 1086) (by decide +kernel), cb_tw (i := 5) (by decide +kernel), by decide, by decide⟩
theorem cs_X7_hangAt : ∀ X, cb_Bs md_X7_hangAt X → ∀ g ∈ md_X7_hangAt.ga, cb_CS cb_tb md_X7_hangAt X g := fun X B => fun _ h => nomatch h
theorem ok_X7_hangAt : cb_MOK cb_tb yX7_hangAt md_X7_hangAt pt_X7_hangAt := by
  refine cb_okm ⟨plainFor_of_name (by decide), rfl⟩ (by decide) cs_X7_hangAt (by decide) (fun X n f i r M hr ha h => ?_)
  have h0 := cb_a1 (T := 25) rfl ha
  subst h0
  match r, hr, h with
  | [.inl x, .inl b, .inl p], hr, h =>
    obtain ⟨hx, h⟩ := h
    refine cb_run cb_tb_ok vd_X7_hangAt (cuts := []) 40 ?_
    exact And.intro hx (And.intro hx (And.intro rfl h))
def sp_apartFrom : cb_Sp := fun _ r M K => match r with
  | [.inl x, .inl y] => (vp_in x 8 ∧ vp_in y 8) ∧ K (some (cb_i (wm_ap (cb_gI M 27 0 x.toNatClampNeg) (cb_gI M 27 0 y.toNatClampNeg)))) M
  | _ => False
def pt_X7_apartFrom : cb_PT := cb_m 25 2 sp_apartFrom
theorem rc_X7_apartFrom : cb_rc cb_tb RX7 pt_X7_apartFrom := cb_m_rc rfl rfl
def md_X7_apartFrom : cb_D := (RX7, cX7_apartFrom, 3, (some .int), (0, 0, 1, 22), [
  (0, .aload_n 0, 1, 0, 0, 0, 0),
  (1, .getfield 22, 3, 0, 7, 5, 236),
  (4, .iload_n 1, 1, 0, 1, 0, 0),
  (5, .iaload, 1, 0, 0, 0, 0),
  (6, .aload_n 0, 1, 0, 0, 0, 0),
  (7, .getfield 22, 3, 0, 7, 5, 236),
  (10, .iload_n 2, 1, 0, 2, 0, 0),
  (11, .iaload, 1, 0, 0, 0, 0),
  (12, .invokestatic 162, 3, 0, 0, 0, 0),
  (15, .ireturn, 1, 0, 0, 0, 0)],
  [(1, 162, 2, 0, 0, pt_X9_apartBy)], [])
set_option maxRecDepth 100000 in
theorem vd_X7_apartFrom : md_X7_apartFrom.cd.all (cb_vE md_X7_apartFrom) = true := by decide +kernel
theorem wd_X7_apartFrom : cb_wd yX7_apartFrom md_X7_apartFrom := ⟨cb_tw (i := 497) (by decide +kernel), cb_tw (i := 5) (by decide +kernel), by decide, by decide⟩
theorem cs_X7_apartFrom : ∀ X, cb_Bs md_X7_apartFrom X → ∀ g ∈ md_X7_apartFrom.ga, cb_CS cb_tb md_X7_apartFrom X g := fun X B => List.forall_mem_cons.mpr ⟨cb_csN (host := "WallClocks") B ok_X9_apartBy nt_X9_apartBy wd_X9_apartBy (cb_tw (i := 498) (by decide +kernel)) (cb_tw (i := 499) (by decide +kernel)) ⟨by decide, by decide⟩ (by decide +kernel), fun _ h => nomatch h⟩
theorem ok_X7_apartFrom : cb_MOK cb_tb yX7_apartFrom md_X7_apartFrom pt_X7_apartFrom := by
  refine cb_okm ⟨plainFor_of_name (by decide), rfl⟩ (by decide) cs_X7_apartFrom (by decide) (fun X n f i r M hr ha h => ?_)
  have h0 := cb_a1 (T := 25) rfl ha
  subst h0
  match r, hr, h with
  | [.inl x, .inl y], hr, h =>
    obtain ⟨⟨hx, hy⟩, h⟩ := h
    refine cb_run cb_tb_ok vd_X7_apartFrom (cuts := []) 40 ?_
    exact And.intro hx (And.intro hy (And.intro trivial (And.intro trivial (cb_eqK h rfl))))
def sp_beatOf : cb_Sp := fun _ r M K => match r with
  | [.inl x, .inl y] => (vp_in x 8 ∧ vp_in y 8) ∧ K (some (cb_i (wm_beat (wm_ap (cb_gI M 27 0 x.toNatClampNeg) (cb_gI M 27 0 y.toNatClampNeg))))) M
  | _ => False
def pt_X7_beatOf : cb_PT := cb_m 25 2 sp_beatOf
theorem rc_X7_beatOf : cb_rc cb_tb RX7 pt_X7_beatOf := cb_m_rc rfl rfl
def md_X7_beatOf : cb_D := (RX7, cX7_beatOf, 3, (some .int), (0, 0, 2, 44), [
  (0, .aload_n 0, 1, 0, 0, 0, 0),
  (1, .iload_n 1, 1, 0, 1, 0, 0),
  (2, .iload_n 2, 1, 0, 2, 0, 0),
  (3, .invokevirtual 184, 3, 0, 0, 0, 0),
  (6, .invokestatic 187, 3, 0, 1, 0, 0),
  (9, .ireturn, 1, 0, 0, 0, 0)],
  [(0, 184, 3, 0, 0, pt_X7_apartFrom), (1, 187, 1, 0, 0, pt_X9_beatBy)], [])
set_option maxRecDepth 100000 in
theorem vd_X7_beatOf : md_X7_beatOf.cd.all (cb_vE md_X7_beatOf) = true := by decide +kernel
theorem wd_X7_beatOf : cb_wd yX7_beatOf md_X7_beatOf := ⟨cb_tw (i := 493) (by decide +kernel), cb_tw (i := 5) (by decide +kernel), by decide, by decide⟩
theorem cs_X7_beatOf : ∀ X, cb_Bs md_X7_beatOf X → ∀ g ∈ md_X7_beatOf.ga, cb_CS cb_tb md_X7_beatOf X g := fun X B => List.forall_mem_cons.mpr ⟨cb_csV B ok_X7_apartFrom wd_X7_apartFrom (cb_tw (i := 494) (by decide +kernel)) (cb_tw (i := 495) (by decide +kernel)) (cb_tw (i := 496) (by decide +kernel)) rc_X7_apartFrom ⟨by decide, by decide⟩ (by decide +kernel), List.forall_mem_cons.mpr ⟨cb_csN (host := "WallClocks") B ok_X9_beatBy nt_X9_beatBy wd_X9_beatBy (cb_tw (i := 501) (by decide +kernel)) (cb_tw (i := 502) (by decide +kernel)) ⟨by decide, by decide⟩ (by decide +kernel), fun _ h => nomatch h⟩⟩
theorem ok_X7_beatOf : cb_MOK cb_tb yX7_beatOf md_X7_beatOf pt_X7_beatOf := by
  refine cb_okm ⟨plainFor_of_name (by decide), rfl⟩ (by decide) cs_X7_beatOf (by decide) (fun X n f i r M hr ha h => ?_)
  have h0 := cb_a1 (T := 25) rfl ha
  subst h0
  match r, hr, h with
  | [.inl x, .inl y], hr, h =>
    obtain ⟨⟨hx, hy⟩, h⟩ := h
    refine cb_run cb_tb_ok vd_X7_beatOf (cuts := []) 40 ?_
    exact And.intro (cb_on rfl) (And.intro ⟨hx, hy⟩ (And.intro trivial (And.intro trivial (cb_eqK h rfl))))
def sp_isRight : cb_Sp := fun _ r M K => match r with
  | [.inl x] => ∃ P, (cb_gR M 25 0 0 = some P ∧ P < 2 ∧ vp_in x 8) ∧ K (some (cb_i (cb_z (wm_rgt (cb_gI M 3 P 4) (cb_gI M 28 0 x.toNatClampNeg))))) M
  | _ => False
def pt_X7_isRight : cb_PT := cb_m 25 1 sp_isRight
theorem rc_X7_isRight : cb_rc cb_tb RX7 pt_X7_isRight := cb_m_rc rfl rfl
theorem cb_aP {n P t : Nat} (h : P < 2) (ht : cb_nth cb_cnt t 1 = 3) : cb_aS n t P = true := by
  unfold cb_aS
  rw [ht]
  simpa using h
def md_X7_isRight : cb_D := (RX7, cX7_isRight, 2, (some .boolean), (0, 0, 1, 21), [
  (0, .aload_n 0, 1, 0, 0, 0, 0),
  (1, .getfield 62, 3, 0, 7, 0, 218),
  (4, .aload_n 0, 1, 0, 0, 0, 0),
  (5, .getfield 25, 3, 0, 7, 6, 239),
  (8, .iload_n 1, 1, 0, 1, 0, 0),
  (9, .iaload, 1, 0, 0, 0, 0),
  (10, .invokevirtual 190, 3, 0, 0, 0, 0),
  (13, .ireturn, 1, 0, 0, 0, 0)],
  [(0, 190, 2, 0, 0, pt_X4_isRightBy)], [])
set_option maxRecDepth 100000 in
theorem vd_X7_isRight : md_X7_isRight.cd.all (cb_vE md_X7_isRight) = true := by decide +kernel
theorem wd_X7_isRight : cb_wd yX7_isRight md_X7_isRight := ⟨cb_tw (i := 471) (by decide +kernel), cb_tw (i := 5) (by decide +kernel), by decide, by decide⟩
theorem cs_X7_isRight : ∀ X, cb_Bs md_X7_isRight X → ∀ g ∈ md_X7_isRight.ga, cb_CS cb_tb md_X7_isRight X g := fun X B => List.forall_mem_cons.mpr ⟨cb_csV B ok_X4_isRightBy wd_X4_isRightBy (cb_tw (i := 472) (by decide +kernel)) (cb_tw (i := 473) (by decide +kernel)) (cb_tw (i := 474) (by decide +kernel)) rc_X4_isRightBy ⟨by decide, by decide⟩ (by decide +kernel), fun _ h => nomatch h⟩
theorem ok_X7_isRight : cb_MOK cb_tb yX7_isRight md_X7_isRight pt_X7_isRight := by
  refine cb_okm ⟨plainFor_of_name (by decide), rfl⟩ (by decide) cs_X7_isRight (by decide) (fun X n f i r M hr ha h => ?_)
  have h0 := cb_a1 (T := 25) rfl ha
  subst h0
  match r, hr, h with
  | [.inl x], hr, h =>
    obtain ⟨P, ⟨hP, hP2, hx⟩, h⟩ := h
    refine cb_run cb_tb_ok vd_X7_isRight (cuts := []) 40 ?_
    exact Exists.intro (some P) (And.intro hP (And.intro hx (And.intro (cb_on (cb_aP hP2 rfl)) (And.intro (cb_z_01 _) (cb_eqK h rfl)))))
