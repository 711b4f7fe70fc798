/-! ===== the moment; the plan's two others ===== -/
/-- as cb_m, with what there is -/
def cb_ma (T na : Nat) (sp : (Nat → Nat → Bool) → cb_Sp) : cb_PT := fun As a M K => match As with
  | .inr (.inr (some (t, i))) :: r => cb_ck (Nat.beq t T) (cb_ck (Nat.beq r.length na) (cb_ck (cb_nl r) (((∃ n, a.1 = cb_aS n) ∧ a.1 T i = true) ∧ sp a.1 i r M fun v M' => K (.inl v) a M')))
  | _ => False
theorem cb_ma_to {T na : Nat} {sp : (Nat → Nat → Bool) → cb_Sp} {As : List cb_V} {a : cb_A} {M : cb_M} {K : cb_Out → cb_A → cb_M → Prop} (h : cb_ma T na sp As a M K) : ∃ (i : Nat) (r : List cb_V) (n : Nat) (f : Option Nat), As = cb_r T i :: r ∧ r.length = na ∧ cb_nl r = true ∧ a = (cb_aS n, f) ∧ cb_aS n T i = true ∧ sp (cb_aS n) i r M fun v M' => K (.inl v) (cb_aS n, f) M' := by
  unfold cb_ma at h
  split at h
  · obtain ⟨g1, h⟩ := h.to
    obtain ⟨g2, h⟩ := h.to
    obtain ⟨g3, h⟩ := h.to
    obtain ⟨⟨⟨n, hn⟩, ha⟩, h9⟩ := h
    have e := Nat.eq_of_beq_eq_true g1
    subst e
    obtain ⟨a1, a2⟩ := a
    simp only [] at hn
    subst hn
    exact ⟨_, _, n, a2, rfl, Nat.eq_of_beq_eq_true g2, g3, rfl, ha, h9⟩
  · exact h.elim
theorem cb_ma_rc {T na : Nat} {sp : (Nat → Nat → Bool) → cb_Sp} {C : String} (hk : cb_kd cb_tb T = 0) (hq : (cb_cl[cb_x cb_tb T]?).map (fun q => q.1) = some C) : cb_rc cb_tb C (cb_ma T na sp) := by
  intro As a M K h
  obtain ⟨i, r, n, f, rfl, -, -, rfl, ha, -⟩ := cb_ma_to h
  cases e : cb_cl[cb_x cb_tb T]? with
  | none => rw [e] at hq; cases hq
  | some q =>
    rw [e] at hq
    exact ⟨T, i, r, q, rfl, ha, hk, e, Option.some.inj hq⟩
theorem cb_okma {y : MethodName} {d : cb_D} {T na : Nat} {sp : (Nat → Nat → Bool) → cb_Sp} (hy : plainFor y = true ∧ y.cls = d.own) (hnL : na + 1 ≤ d.nL) (hcs : ∀ X, cb_Bs d X → ∀ g ∈ d.ga, cb_CS cb_tb d X g) (hT : cb_noT d = true)
    (hb : ∀ X n f i r M, r.length = na → cb_aS n T i = true → sp (cb_aS n) i r M (fun v M' => X.K (.inl v) (cb_aS n, f) M') → cb_Gd cb_tb d X 0 (cb_l0 (cb_r T i :: r) d.nL) [] (cb_aS n, f) M 0 0) : cb_MOK cb_tb y d (cb_ma T na sp) := by
  refine cb_of hy (fun As a M K h => ?_) hcs (fun _ _ _ _ _ => cb_Ts0 hT) (fun X As a M h => ?_)
  · obtain ⟨i, r, n, f, rfl, h1, h2, -⟩ := cb_ma_to h
    rw [List.flatMap_cons, List.length_append, cb_nl_len h2, h1]
    show 1 + na ≤ d.nL
    omega
  · obtain ⟨i, r, n, f, rfl, h1, -, rfl, ha, h⟩ := cb_ma_to h
    exact hb X n f i r M h1 ha h
def mo_start (M : cb_M) (q P : Nat) : cb_M := cb_cp (cb_cp (cb_cp (cb_cp (cb_fl (cb_fl (cb_sI M 16 q 0 0) 17 q 0 8) 22 q (-2147483648) 8) 5 P 0 18 q 0 8) 6 P 0 19 q 0 8) 12 P 0 20 q 0 6) 13 P 0 21 q 0 6
def sp_X3_startOf : cb_Sp := fun q r M K => match r with
  | [.inr (.inr (some (t, P)))] => cb_ck (Nat.beq t 3) (P < 2 ∧ K none (mo_start M q P))
  | _ => False
def pt_X3_startOf : cb_PT := cb_m 16 1 sp_X3_startOf
theorem rc_X3_startOf : cb_rc cb_tb RX3 pt_X3_startOf := cb_m_rc rfl rfl
def md_X3_startOf : cb_D := (RX3, cX3_startOf, 2, none, (0, 0, 1, 60), [
  (0, .aload_n 0, 1, 0, 0, 0, 0),
  (1, .iconst 0, 1, 0, 0, 0, 0),
  (2, .putfield 9, 3, 0, 3, 0, 168),
  (5, .aload_n 0, 1, 0, 0, 0, 0),
  (6, .getfield 15, 3, 0, 3, 1, 172),
  (9, .iconst 0, 1, 0, 0, 0, 0),
  (10, .invokestatic 37, 3, 0, 0, 0, 0),
  (13, .aload_n 0, 1, 0, 0, 0, 0),
  (14, .getfield 31, 3, 0, 3, 6, 190),
  (17, .ldc 43, 2, (-2147483648), 0, 0, 769),
  (19, .invokestatic 37, 3, 0, 0, 0, 0),
  (22, .aload_n 1, 1, 0, 1, 0, 0),
  (23, .getfield 44, 3, 0, 4, 6, 89),
  (26, .iconst 0, 1, 0, 0, 0, 0),
  (27, .aload_n 0, 1, 0, 0, 0, 0),
  (28, .getfield 19, 3, 0, 3, 2, 176),
  (31, .iconst 0, 1, 0, 0, 0, 0),
  (32, .bipush 8, 2, 8, 0, 0, 0),
  (34, .invokestatic 47, 3, 0, 1, 0, 0),
  (37, .aload_n 1, 1, 0, 1, 0, 0),
  (38, .getfield 53, 3, 0, 4, 7, 92),
  (41, .iconst 0, 1, 0, 0, 0, 0),
  (42, .aload_n 0, 1, 0, 0, 0, 0),
  (43, .getfield 22, 3, 0, 3, 3, 180),
  (46, .iconst 0, 1, 0, 0, 0, 0),
  (47, .bipush 8, 2, 8, 0, 0, 0),
  (49, .invokestatic 47, 3, 0, 1, 0, 0),
  (52, .aload_n 1, 1, 0, 1, 0, 0),
  (53, .getfield 54, 3, 0, 4, 13, 116),
  (56, .iconst 0, 1, 0, 0, 0, 0),
  (57, .aload_n 0, 1, 0, 0, 0, 0),
  (58, .getfield 25, 3, 0, 3, 4, 184),
  (61, .iconst 0, 1, 0, 0, 0, 0),
  (62, .bipush 6, 2, 6, 0, 0, 0),
  (64, .invokestatic 47, 3, 0, 1, 0, 0),
  (67, .aload_n 1, 1, 0, 1, 0, 0),
  (68, .getfield 55, 3, 0, 4, 14, 119),
  (71, .iconst 0, 1, 0, 0, 0, 0),
  (72, .aload_n 0, 1, 0, 0, 0, 0),
  (73, .getfield 28, 3, 0, 3, 5, 187),
  (76, .iconst 0, 1, 0, 0, 0, 0),
  (77, .bipush 6, 2, 6, 0, 0, 0),
  (79, .invokestatic 47, 3, 0, 1, 0, 0),
  (82, .return_, 1, 0, 0, 0, 0)],
  [(1, 37, 2, 0, 0, pt_J7_fill_53178), (1, 47, 5, 0, 0, pt_cp)], [])
set_option maxRecDepth 100000 in
theorem vd_X3_startOf : md_X3_startOf.cd.all (cb_vE md_X3_startOf) = true := by decide +kernel
theorem wd_X3_startOf : cb_wd yX3_startOf md_X3_startOf := ⟨cb_tw (i := 767) (by decide +kernel), cb_tw (i := 4) (by decide +kernel), by decide, by decide⟩
theorem cs_X3_startOf : ∀ X, cb_Bs md_X3_startOf X → ∀ g ∈ md_X3_startOf.ga, cb_CS cb_tb md_X3_startOf X g := fun X B => List.forall_mem_cons.mpr ⟨cb_csS B ok_J7_fill_53178 wd_J7_fill_53178 (cb_tw (i := 768) (by decide +kernel)) (cb_tw (i := 488) (by decide +kernel)) ⟨by decide, by decide⟩ (by decide +kernel), List.forall_mem_cons.mpr ⟨cb_csCp B (cb_tw (i := 530) (by decide +kernel)) ⟨by decide, by decide⟩, fun _ h => nomatch h⟩⟩
theorem ok_X3_startOf : cb_MOK cb_tb yX3_startOf md_X3_startOf pt_X3_startOf := by
  refine cb_okm ⟨plainFor_of_name (by decide), rfl⟩ (by decide) cs_X3_startOf (by decide) (fun X n0 f i r M hr ha h => ?_)
  match r, hr, h with
  | [.inr (.inr (some (t, P)))], hr, h =>
    obtain ⟨ht, hP, hK⟩ := cb_ck.to h
    have ht := Nat.eq_of_beq_eq_true ht
    subst ht
    refine cb_run cb_tb_ok vd_X3_startOf (cuts := []) 90 ?_
    have c8 : ¬ (0 : Int32) < 0 ∧ ¬ (0 : Int32) < 0 ∧ ¬ (8 : Int32) < 0 ∧ (0 : Int32).toNatClampNeg + (8 : Int32).toNatClampNeg ≤ 8 ∧ (0 : Int32).toNatClampNeg + (8 : Int32).toNatClampNeg ≤ 8 := by decide
    have c6 : ¬ (0 : Int32) < 0 ∧ ¬ (0 : Int32) < 0 ∧ ¬ (6 : Int32) < 0 ∧ (0 : Int32).toNatClampNeg + (6 : Int32).toNatClampNeg ≤ 6 ∧ (0 : Int32).toNatClampNeg + (6 : Int32).toNatClampNeg ≤ 6 := by decide
    have al : ∀ t, cb_nth cb_cnt t 1 = 0 → cb_aS n0 t i = true := fun t ht => by
      have : cb_aS n0 16 i = true := ha
      unfold cb_aS at *
      rw [ht]
      exact this
    refine cb_av.of ha (cb_av.of ha (cb_av.of (al 17 rfl) (And.intro (show (8 : Nat) < 2 ^ 31 by decide) (cb_av.of ha (cb_av.of (al 22 rfl) (And.intro (show (8 : Nat) < 2 ^ 31 by decide) ?_))))))
    refine cb_av.of (cb_aPP hP rfl) (cb_av.of ha (cb_av.of (cb_aPP hP rfl) (cb_av.of (al 18 rfl) (And.intro c8 ?_))))
    refine cb_av.of (cb_aPP hP rfl) (cb_av.of ha (cb_av.of (cb_aPP hP rfl) (cb_av.of (al 19 rfl) (And.intro c8 ?_))))
    refine cb_av.of (cb_aPP hP rfl) (cb_av.of ha (cb_av.of (cb_aPP hP rfl) (cb_av.of (al 20 rfl) (And.intro c6 ?_))))
    refine cb_av.of (cb_aPP hP rfl) (cb_av.of ha (cb_av.of (cb_aPP hP rfl) (cb_av.of (al 21 rfl) (And.intro c6 ?_))))
    exact And.intro rfl hK
def mo_copy (M : cb_M) (q q2 d : Nat) : cb_M := cb_cp (cb_cp (cb_cp (cb_cp (cb_cp (cb_cp (cb_cp (cb_sI M 16 q 0 (cb_gI M 16 q2 0)) 17 q2 0 17 q 0 8) 18 q2 0 18 q 0 8) 19 q2 0 19 q 0 8) 20 q2 0 20 q 0 6) 21 q2 0 21 q 0 6) 22 q2 0 22 q 0 8) 23 q2 0 23 q 0 (d * 8)
def sp_X3_copyFrom (al : Nat → Nat → Bool) : cb_Sp := fun q r M K => match r with
  | [.inr (.inr (some (t, q2)))] => cb_ck (Nat.beq t 16) (al 16 q2 = true ∧ ∃ d, (cb_gI M 16 q2 0 = nI d ∧ d ≤ 400) ∧ K none (mo_copy M q q2 d))
  | _ => False
def pt_X3_copyFrom : cb_PT := cb_ma 16 1 sp_X3_copyFrom
theorem rc_X3_copyFrom : cb_rc cb_tb RX3 pt_X3_copyFrom := cb_ma_rc rfl rfl
def md_X3_copyFrom : cb_D := (RX3, cX3_copyFrom, 2, none, (0, 0, 1, 60), [
  (0, .aload_n 0, 1, 0, 0, 0, 0),
  (1, .aload_n 1, 1, 0, 1, 0, 0),
  (2, .getfield 9, 3, 0, 3, 0, 168),
  (5, .putfield 9, 3, 0, 3, 0, 168),
  (8, .aload_n 1, 1, 0, 1, 0, 0),
  (9, .getfield 15, 3, 0, 3, 1, 172),
  (12, .iconst 0, 1, 0, 0, 0, 0),
  (13, .aload_n 0, 1, 0, 0, 0, 0),
  (14, .getfield 15, 3, 0, 3, 1, 172),
  (17, .iconst 0, 1, 0, 0, 0, 0),
  (18, .bipush 8, 2, 8, 0, 0, 0),
  (20, .invokestatic 47, 3, 0, 0, 0, 0),
  (23, .aload_n 1, 1, 0, 1, 0, 0),
  (24, .getfield 19, 3, 0, 3, 2, 176),
  (27, .iconst 0, 1, 0, 0, 0, 0),
  (28, .aload_n 0, 1, 0, 0, 0, 0),
  (29, .getfield 19, 3, 0, 3, 2, 176),
  (32, .iconst 0, 1, 0, 0, 0, 0),
  (33, .bipush 8, 2, 8, 0, 0, 0),
  (35, .invokestatic 47, 3, 0, 0, 0, 0),
  (38, .aload_n 1, 1, 0, 1, 0, 0),
  (39, .getfield 22, 3, 0, 3, 3, 180),
  (42, .iconst 0, 1, 0, 0, 0, 0),
  (43, .aload_n 0, 1, 0, 0, 0, 0),
  (44, .getfield 22, 3, 0, 3, 3, 180),
  (47, .iconst 0, 1, 0, 0, 0, 0),
  (48, .bipush 8, 2, 8, 0, 0, 0),
  (50, .invokestatic 47, 3, 0, 0, 0, 0),
  (53, .aload_n 1, 1, 0, 1, 0, 0),
  (54, .getfield 25, 3, 0, 3, 4, 184),
  (57, .iconst 0, 1, 0, 0, 0, 0),
  (58, .aload_n 0, 1, 0, 0, 0, 0),
  (59, .getfield 25, 3, 0, 3, 4, 184),
  (62, .iconst 0, 1, 0, 0, 0, 0),
  (63, .bipush 6, 2, 6, 0, 0, 0),
  (65, .invokestatic 47, 3, 0, 0, 0, 0),
  (68, .aload_n 1, 1, 0, 1, 0, 0),
  (69, .getfield 28, 3, 0, 3, 5, 187),
  (72, .iconst 0, 1, 0, 0, 0, 0),
  (73, .aload_n 0, 1, 0, 0, 0, 0),
  (74, .getfield 28, 3, 0, 3, 5, 187),
  (77, .iconst 0, 1, 0, 0, 0, 0),
  (78, .bipush 6, 2, 6, 0, 0, 0),
  (80, .invokestatic 47, 3, 0, 0, 0, 0),
  (83, .aload_n 1, 1, 0, 1, 0, 0),
  (84, .getfield 31, 3, 0, 3, 6, 190),
  (87, .iconst 0, 1, 0, 0, 0, 0),
  (88, .aload_n 0, 1, 0, 0, 0, 0),
  (89, .getfield 31, 3, 0, 3, 6, 190),
  (92, .iconst 0, 1, 0, 0, 0, 0),
  (93, .bipush 8, 2, 8, 0, 0, 0),
  (95, .invokestatic 47, 3, 0, 0, 0, 0),
  (98, .aload_n 1, 1, 0, 1, 0, 0),
  (99, .getfield 34, 3, 0, 3, 7, 193),
  (102, .iconst 0, 1, 0, 0, 0, 0),
  (103, .aload_n 0, 1, 0, 0, 0, 0),
  (104, .getfield 34, 3, 0, 3, 7, 193),
  (107, .iconst 0, 1, 0, 0, 0, 0),
  (108, .aload_n 0, 1, 0, 0, 0, 0),
  (109, .getfield 9, 3, 0, 3, 0, 168),
  (112, .sipush 400, 3, 400, 0, 0, 0),
  (115, .invokestatic 56, 3, 0, 1, 0, 0),
  (118, .bipush 8, 2, 8, 0, 0, 0),
  (120, .imul, 1, 0, 0, 0, 0),
  (121, .invokestatic 47, 3, 0, 0, 0, 0),
  (124, .return_, 1, 0, 0, 0, 0)],
  [(1, 47, 5, 0, 0, pt_cp), (1, 56, 2, 0, 0, pt_J9_min_7cf53)], [])
set_option maxRecDepth 100000 in
theorem vd_X3_copyFrom : md_X3_copyFrom.cd.all (cb_vE md_X3_copyFrom) = true := by decide +kernel
theorem wd_X3_copyFrom : cb_wd yX3_copyFrom md_X3_copyFrom := ⟨cb_tw (i := 529) (by decide +kernel), cb_tw (i := 4) (by decide +kernel), by decide, by decide⟩
theorem cs_X3_copyFrom : ∀ X, cb_Bs md_X3_copyFrom X → ∀ g ∈ md_X3_copyFrom.ga, cb_CS cb_tb md_X3_copyFrom X g := fun X B => List.forall_mem_cons.mpr ⟨cb_csCp B (cb_tw (i := 530) (by decide +kernel)) ⟨by decide, by decide⟩, List.forall_mem_cons.mpr ⟨cb_csS B ok_J9_min_7cf53 wd_J9_min_7cf53 (cb_tw (i := 531) (by decide +kernel)) (cb_tw (i := 485) (by decide +kernel)) ⟨by decide, by decide⟩ (by decide +kernel), fun _ h => nomatch h⟩⟩
theorem ok_X3_copyFrom : cb_MOK cb_tb yX3_copyFrom md_X3_copyFrom pt_X3_copyFrom := by
  refine cb_okma ⟨plainFor_of_name (by decide), rfl⟩ (by decide) cs_X3_copyFrom (by decide) (fun X n0 f i r M hr ha h => ?_)
  match r, hr, h with
  | [.inr (.inr (some (t, q2)))], hr, h =>
    obtain ⟨ht, h2, d, ⟨hd, hd4⟩, hK⟩ := cb_ck.to h
    have ht := Nat.eq_of_beq_eq_true ht
    subst ht
    refine cb_run cb_tb_ok vd_X3_copyFrom (cuts := []) 90 ?_
    have c8 : ¬ (0 : Int32) < 0 ∧ ¬ (0 : Int32) < 0 ∧ ¬ (8 : Int32) < 0 ∧ (0 : Int32).toNatClampNeg + (8 : Int32).toNatClampNeg ≤ 8 ∧ (0 : Int32).toNatClampNeg + (8 : Int32).toNatClampNeg ≤ 8 := by decide
    have c6 : ¬ (0 : Int32) < 0 ∧ ¬ (0 : Int32) < 0 ∧ ¬ (6 : Int32) < 0 ∧ (0 : Int32).toNatClampNeg + (6 : Int32).toNatClampNeg ≤ 6 ∧ (0 : Int32).toNatClampNeg + (6 : Int32).toNatClampNeg ≤ 6 := by decide
    have al : ∀ q, cb_aS n0 16 q = true → ∀ t, cb_nth cb_cnt t 1 = 0 → cb_aS n0 t q = true := fun q hq t ht => by
      unfold cb_aS at *
      rw [ht]
      exact hq
    refine cb_av.of h2 (cb_av.of ha ?_)
    refine cb_av.of h2 (cb_av.of ha (cb_av.of (al q2 h2 17 rfl) (cb_av.of (al i ha 17 rfl) (And.intro c8 ?_))))
    refine cb_av.of h2 (cb_av.of ha (cb_av.of (al q2 h2 18 rfl) (cb_av.of (al i ha 18 rfl) (And.intro c8 ?_))))
    refine cb_av.of h2 (cb_av.of ha (cb_av.of (al q2 h2 19 rfl) (cb_av.of (al i ha 19 rfl) (And.intro c8 ?_))))
    refine cb_av.of h2 (cb_av.of ha (cb_av.of (al q2 h2 20 rfl) (cb_av.of (al i ha 20 rfl) (And.intro c6 ?_))))
    refine cb_av.of h2 (cb_av.of ha (cb_av.of (al q2 h2 21 rfl) (cb_av.of (al i ha 21 rfl) (And.intro c6 ?_))))
    refine cb_av.of h2 (cb_av.of ha (cb_av.of (al q2 h2 22 rfl) (cb_av.of (al i ha 22 rfl) (And.intro c8 ?_))))
    refine cb_av.of h2 (cb_av.of ha (cb_av.of ha (And.intro trivial ?_)))
    have ed : wm_min (if 16 = 16 ∧ i = i ∧ 0 = 0 then cb_gI M 16 q2 0 else cb_gI M 16 i 0) 400 * 8 = nI (d * 8) := by
      rw [if_pos ⟨rfl, rfl, rfl⟩, hd]
      unfold wm_min
      have : ¬ (400 : Int32) < nI d := fun w => by
        have := (nI_ltI (a := 400) (by decide) (by omega)).mp w
        omega
      rw [if_neg this, show (8 : Int32) = nI 8 from rfl]
      exact (Int32.ofNat_mul _ _).symm
    have hw : ∀ L : Int32, L = nI (d * 8) → ¬ (0 : Int32) < 0 ∧ ¬ (0 : Int32) < 0 ∧ ¬ L < 0 ∧ (0 : Int32).toNatClampNeg + L.toNatClampNeg ≤ 3200 ∧ (0 : Int32).toNatClampNeg + L.toNatClampNeg ≤ 3200 := by
      intro L hL
      have e : L.toNatClampNeg = d * 8 := by rw [hL]; exact nI_clamp (by omega)
      refine ⟨by decide, by decide, by rw [hL]; exact nI_pos (by omega), ?_, ?_⟩
      · rw [e]
        show 0 + d * 8 ≤ 3200
        omega
      · rw [e]
        show 0 + d * 8 ≤ 3200
        omega
    refine cb_av.of (al q2 h2 23 rfl) (cb_av.of (al i ha 23 rfl) (And.intro (hw _ ed) (And.intro rfl ?_)))
    have e9 : (wm_min (if 16 = 16 ∧ i = i ∧ 0 = 0 then cb_gI M 16 q2 0 else cb_gI M 16 i 0) 400 * 8).toNatClampNeg = d * 8 := by rw [ed]; exact nI_clamp (by omega)
    refine cb_eqN (M' := cb_cp (cb_cp (cb_cp (cb_cp (cb_cp (cb_cp (cb_cp (cb_sI M 16 i 0 (cb_gI M 16 q2 0)) 17 q2 0 17 i 0 8) 18 q2 0 18 i 0 8) 19 q2 0 19 i 0 8) 20 q2 0 20 i 0 6) 21 q2 0 21 i 0 6) 22 q2 0 22 i 0 8) 23 q2 0 23 i 0 (wm_min (if 16 = 16 ∧ i = i ∧ 0 = 0 then cb_gI M 16 q2 0 else cb_gI M 16 i 0) 400 * 8).toNatClampNeg) hK ?_
    rw [e9]
    rfl
def sp_X3_keepPast : cb_Sp := fun q r M K => match r with
  | [.inl c] => ∃ d n, (cb_gI M 16 q 0 = nI d ∧ d < 400 ∧ c = nI n ∧ n ≤ 8) ∧ K none (cb_cp M 17 q 0 23 q (d * 8) n)
  | _ => False
def pt_X3_keepPast : cb_PT := cb_m 16 1 sp_X3_keepPast
theorem rc_X3_keepPast : cb_rc cb_tb RX3 pt_X3_keepPast := cb_m_rc rfl rfl
def md_X3_keepPast : cb_D := (RX3, cX3_keepPast, 2, none, (0, 0, 1, 60), [
  (0, .aload_n 0, 1, 0, 0, 0, 0),
  (1, .getfield 9, 3, 0, 3, 0, 168),
  (4, .ifCond .lt 13, 3, 0, 17, 0, 0),
  (7, .aload_n 0, 1, 0, 0, 0, 0),
  (8, .getfield 9, 3, 0, 3, 0, 168),
  (11, .sipush 400, 3, 400, 0, 0, 0),
  (14, .if_icmp .lt 4, 3, 0, 18, 0, 0),
  (17, .return_, 1, 0, 0, 0, 0),
  (18, .aload_n 0, 1, 0, 0, 0, 0),
  (19, .getfield 15, 3, 0, 3, 1, 172),
  (22, .iconst 0, 1, 0, 0, 0, 0),
  (23, .aload_n 0, 1, 0, 0, 0, 0),
  (24, .getfield 34, 3, 0, 3, 7, 193),
  (27, .aload_n 0, 1, 0, 0, 0, 0),
  (28, .getfield 9, 3, 0, 3, 0, 168),
  (31, .bipush 8, 2, 8, 0, 0, 0),
  (33, .imul, 1, 0, 0, 0, 0),
  (34, .iload_n 1, 1, 0, 1, 0, 0),
  (35, .invokestatic 47, 3, 0, 0, 0, 0),
  (38, .return_, 1, 0, 0, 0, 0)],
  [(1, 47, 5, 0, 0, pt_cp)], [])
set_option maxRecDepth 100000 in
theorem vd_X3_keepPast : md_X3_keepPast.cd.all (cb_vE md_X3_keepPast) = true := by decide +kernel
theorem wd_X3_keepPast : cb_wd yX3_keepPast md_X3_keepPast := ⟨cb_tw (i := 890) (by decide +kernel), cb_tw (i := 4) (by decide +kernel), by decide, by decide⟩
theorem cs_X3_keepPast : ∀ X, cb_Bs md_X3_keepPast X → ∀ g ∈ md_X3_keepPast.ga, cb_CS cb_tb md_X3_keepPast X g := fun X B => List.forall_mem_cons.mpr ⟨cb_csCp B (cb_tw (i := 530) (by decide +kernel)) ⟨by decide, by decide⟩, fun _ h => nomatch h⟩
theorem ok_X3_keepPast : cb_MOK cb_tb yX3_keepPast md_X3_keepPast pt_X3_keepPast := by
  refine cb_okm ⟨plainFor_of_name (by decide), rfl⟩ (by decide) cs_X3_keepPast (by decide) (fun X n0 f i r M hr ha h => ?_)
  match r, hr, h with
  | [.inl c], hr, h =>
    obtain ⟨d, n, ⟨hd, hd4, hc, hn8⟩, h⟩ := h
    have al : ∀ t, cb_nth cb_cnt t 1 = 0 → cb_aS n0 t i = true := fun t ht => by
      have : cb_aS n0 16 i = true := ha
      unfold cb_aS at *
      rw [ht]
      exact this
    have e8 : cb_gI M 16 i 0 * 8 = nI (d * 8) := by
      rw [hd, show (8 : Int32) = nI 8 from rfl]
      exact (Int32.ofNat_mul _ _).symm
    have ec : c.toNatClampNeg = n := by rw [hc]; exact nI_clamp (by omega)
    have ed : (cb_gI M 16 i 0 * 8).toNatClampNeg = d * 8 := by rw [e8]; exact nI_clamp (by omega)
    refine cb_run cb_tb_ok vd_X3_keepPast (cuts := []) 90 ?_
    refine cb_av.of ha (And.intro (fun q => ?_) (fun _ => cb_av.of ha (And.intro (fun _ => ?_) (fun q => ?_))))
    · have q : cb_gI M 16 i 0 < 0 := q
      rw [hd] at q
      exact absurd q (nI_pos (by omega))
    · refine cb_av.of ha (cb_av.of ha (cb_av.of ha (cb_av.of (al 17 rfl) (cb_av.of (al 23 rfl) (And.intro ⟨by decide, ?_, ?_, ?_, ?_⟩ (And.intro rfl ?_))))))
      · show ¬ cb_gI M 16 i 0 * 8 < 0
        rw [e8]
        exact nI_pos (by omega)
      · rw [hc]
        exact nI_pos (by omega)
      · rw [ec]
        show 0 + n ≤ 8
        omega
      · rw [ec]
        show (cb_gI M 16 i 0 * 8).toNatClampNeg + n ≤ 3200
        rw [ed]
        omega
      · refine cb_eqN (M' := cb_cp M 17 i 0 23 i (cb_gI M 16 i 0 * 8).toNatClampNeg c.toNatClampNeg) h ?_
        rw [ed, ec]
    · have q : ¬ cb_gI M 16 i 0 < 400 := q
      rw [hd] at q
      exact absurd (nI_lt hd4 (by decide)) q
def sp_X3_takeOver : cb_Sp := fun q r M K => match r with
  | [.inr (.inr (some (t, u)))] => cb_ck (Nat.beq t 25) (∃ n, (u = 0 ∧ cb_gI M 25 0 2 = nI n ∧ n ≤ 8) ∧ K none (cb_cp (cb_sI M 16 q 0 (cb_gI M 25 0 3)) 28 0 0 17 q 0 n))
  | _ => False
def pt_X3_takeOver : cb_PT := cb_m 16 1 sp_X3_takeOver
theorem rc_X3_takeOver : cb_rc cb_tb RX3 pt_X3_takeOver := cb_m_rc rfl rfl
def md_X3_takeOver : cb_D := (RX3, cX3_takeOver, 2, none, (0, 0, 1, 60), [
  (0, .aload_n 0, 1, 0, 0, 0, 0),
  (1, .aload_n 1, 1, 0, 1, 0, 0),
  (2, .getfield 75, 3, 0, 7, 3, 232),
  (5, .putfield 9, 3, 0, 3, 0, 168),
  (8, .aload_n 1, 1, 0, 1, 0, 0),
  (9, .getfield 78, 3, 0, 7, 6, 241),
  (12, .iconst 0, 1, 0, 0, 0, 0),
  (13, .aload_n 0, 1, 0, 0, 0, 0),
  (14, .getfield 15, 3, 0, 3, 1, 172),
  (17, .iconst 0, 1, 0, 0, 0, 0),
  (18, .aload_n 1, 1, 0, 1, 0, 0),
  (19, .getfield 79, 3, 0, 7, 2, 230),
  (22, .invokestatic 47, 3, 0, 0, 0, 0),
  (25, .return_, 1, 0, 0, 0, 0)],
  [(1, 47, 5, 0, 0, pt_cp)], [])
set_option maxRecDepth 100000 in
theorem vd_X3_takeOver : md_X3_takeOver.cd.all (cb_vE md_X3_takeOver) = true := by decide +kernel
theorem wd_X3_takeOver : cb_wd yX3_takeOver md_X3_takeOver := ⟨cb_tw (i := 911) (by decide +kernel), cb_tw (i := 4) (by decide +kernel), by decide, by decide⟩
theorem cs_X3_takeOver : ∀ X, cb_Bs md_X3_takeOver X → ∀ g ∈ md_X3_takeOver.ga, cb_CS cb_tb md_X3_takeOver X g := fun X B => List.forall_mem_cons.mpr ⟨cb_csCp B (cb_tw (i := 530) (by decide +kernel)) ⟨by decide, by decide⟩, fun _ h => nomatch h⟩
theorem ok_X3_takeOver : cb_MOK cb_tb yX3_takeOver md_X3_takeOver pt_X3_takeOver := by
  refine cb_okm ⟨plainFor_of_name (by decide), rfl⟩ (by decide) cs_X3_takeOver (by decide) (fun X n0 f i r M hr ha h => ?_)
  match r, hr, h with
  | [.inr (.inr (some (t, u)))], hr, h =>
    obtain ⟨ht, n, ⟨hu, hn, hn8⟩, hK⟩ := cb_ck.to h
    have ht := Nat.eq_of_beq_eq_true ht
    subst ht hu
    have al : ∀ t, cb_nth cb_cnt t 1 = 0 → cb_aS n0 t i = true := fun t ht => by
      have : cb_aS n0 16 i = true := ha
      unfold cb_aS at *
      rw [ht]
      exact this
    have ec : (cb_gI M 25 0 2).toNatClampNeg = n := by rw [hn]; exact nI_clamp (by omega)
    refine cb_run cb_tb_ok vd_X3_takeOver (cuts := []) 90 ?_
    refine cb_av.of ha (cb_av.of ha (cb_av.of (al 17 rfl) (And.intro ⟨by decide, by decide, ?_, ?_, ?_⟩ (And.intro rfl ?_))))
    · show ¬ cb_gI M 25 0 2 < 0
      rw [hn]
      exact nI_pos (by omega)
    · show 0 + (cb_gI M 25 0 2).toNatClampNeg ≤ 8
      rw [ec]
      omega
    · show 0 + (cb_gI M 25 0 2).toNatClampNeg ≤ 8
      rw [ec]
      omega
    · refine cb_eqN (M' := cb_cp (cb_sI M 16 i 0 (cb_gI M 25 0 3)) 28 0 0 17 i 0 (cb_gI M 25 0 2).toNatClampNeg) hK ?_
      rw [ec]
def sp_X3_goBackTo : cb_Sp := fun q r M K => match r with
  | [.inl e, .inl c] => ∃ ed d n, (e = nI ed ∧ ed < 2 ^ 31 ∧ cb_gI M 16 q 0 = nI d ∧ d ≤ 400 ∧ c = nI n ∧ n ≤ 8) ∧ (d ≤ ed → K none M) ∧ (ed < d → K none (cb_cp (cb_sI M 16 q 0 (nI ed)) 23 q (ed * 8) 17 q 0 n))
  | _ => False
def pt_X3_goBackTo : cb_PT := cb_m 16 2 sp_X3_goBackTo
theorem rc_X3_goBackTo : cb_rc cb_tb RX3 pt_X3_goBackTo := cb_m_rc rfl rfl
def md_X3_goBackTo : cb_D := (RX3, cX3_goBackTo, 3, none, (0, 0, 1, 60), [
  (0, .iload_n 1, 1, 0, 1, 0, 0),
  (1, .ifCond .lt 18, 3, 0, 19, 0, 0),
  (4, .iload_n 1, 1, 0, 1, 0, 0),
  (5, .aload_n 0, 1, 0, 0, 0, 0),
  (6, .getfield 9, 3, 0, 3, 0, 168),
  (9, .if_icmp .ge 10, 3, 0, 19, 0, 0),
  (12, .iload_n 1, 1, 0, 1, 0, 0),
  (13, .sipush 400, 3, 400, 0, 0, 0),
  (16, .if_icmp .lt 4, 3, 0, 20, 0, 0),
  (19, .return_, 1, 0, 0, 0, 0),
  (20, .aload_n 0, 1, 0, 0, 0, 0),
  (21, .iload_n 1, 1, 0, 1, 0, 0),
  (22, .putfield 9, 3, 0, 3, 0, 168),
  (25, .aload_n 0, 1, 0, 0, 0, 0),
  (26, .getfield 34, 3, 0, 3, 7, 193),
  (29, .iload_n 1, 1, 0, 1, 0, 0),
  (30, .bipush 8, 2, 8, 0, 0, 0),
  (32, .imul, 1, 0, 0, 0, 0),
  (33, .aload_n 0, 1, 0, 0, 0, 0),
  (34, .getfield 15, 3, 0, 3, 1, 172),
  (37, .iconst 0, 1, 0, 0, 0, 0),
  (38, .iload_n 2, 1, 0, 2, 0, 0),
  (39, .invokestatic 47, 3, 0, 0, 0, 0),
  (42, .return_, 1, 0, 0, 0, 0)],
  [(1, 47, 5, 0, 0, pt_cp)], [])
set_option maxRecDepth 100000 in
theorem vd_X3_goBackTo : md_X3_goBackTo.cd.all (cb_vE md_X3_goBackTo) = true := by decide +kernel
theorem wd_X3_goBackTo : cb_wd yX3_goBackTo md_X3_goBackTo := ⟨cb_tw (i := 922) (by decide +kernel), cb_tw (i := 4) (by decide +kernel), by decide, by decide⟩
theorem cs_X3_goBackTo : ∀ X, cb_Bs md_X3_goBackTo X → ∀ g ∈ md_X3_goBackTo.ga, cb_CS cb_tb md_X3_goBackTo X g := fun X B => List.forall_mem_cons.mpr ⟨cb_csCp B (cb_tw (i := 530) (by decide +kernel)) ⟨by decide, by decide⟩, fun _ h => nomatch h⟩
theorem ok_X3_goBackTo : cb_MOK cb_tb yX3_goBackTo md_X3_goBackTo pt_X3_goBackTo := by
  refine cb_okm ⟨plainFor_of_name (by decide), rfl⟩ (by decide) cs_X3_goBackTo (by decide) (fun X n0 f i r M hr ha h => ?_)
  match r, hr, h with
  | [.inl e, .inl c], hr, h =>
    obtain ⟨ed, d, n, ⟨he, hed, hd, hd4, hc, hn8⟩, hA, hB⟩ := h
    have al : ∀ t, cb_nth cb_cnt t 1 = 0 → cb_aS n0 t i = true := fun t ht => by
      have : cb_aS n0 16 i = true := ha
      unfold cb_aS at *
      rw [ht]
      exact this
    refine cb_run cb_tb_ok vd_X3_goBackTo (cuts := []) 90 ?_
    refine And.intro (fun q => ?_) (fun _ => cb_av.of ha (And.intro (fun q => ?_) (fun q => And.intro (fun _ => ?_) (fun q2 => ?_))))
    · have q : e < 0 := q
      rw [he] at q
      exact absurd q (nI_pos hed)
    · have q : cb_gI M 16 i 0 ≤ e := q
      rw [hd, he] at q
      exact And.intro rfl (hA ((nI_leI (by omega) hed).mp q))
    · have q : ¬ cb_gI M 16 i 0 ≤ e := q
      rw [hd, he] at q
      have hlt : ed < d := Nat.not_le.mp (fun w => q (nI_le w hed))
      have e8 : e * 8 = nI (ed * 8) := by
        rw [he, show (8 : Int32) = nI 8 from rfl]
        exact (Int32.ofNat_mul _ _).symm
      have ec : c.toNatClampNeg = n := by rw [hc]; exact nI_clamp (by omega)
      have e9 : (e * 8).toNatClampNeg = ed * 8 := by rw [e8]; exact nI_clamp (by omega)
      refine cb_av.of ha (cb_av.of ha (cb_av.of ha (cb_av.of (al 23 rfl) (cb_av.of (al 17 rfl) (And.intro ⟨?_, by decide, ?_, ?_, ?_⟩ (And.intro rfl ?_))))))
      · show ¬ e * 8 < 0
        rw [e8]
        exact nI_pos (by omega)
      · rw [hc]
        exact nI_pos (by omega)
      · show (e * 8).toNatClampNeg + c.toNatClampNeg ≤ 3200
        rw [e9, ec]
        omega
      · rw [ec]
        show 0 + n ≤ 8
        omega
      · refine cb_eqN (M' := cb_cp (cb_sI M 16 i 0 e) 23 i (e * 8).toNatClampNeg 17 i 0 c.toNatClampNeg) (hB hlt) ?_
        rw [e9, ec, he]
    · have q : ¬ cb_gI M 16 i 0 ≤ e := q
      rw [hd, he] at q
      have hlt : ed < d := Nat.not_le.mp (fun w => q (nI_le w hed))
      have q2 : ¬ e < 400 := q2
      rw [he] at q2
      exact absurd (nI_lt (a := ed) (b := 400) (by omega) (by decide)) q2
def mo_swap (M : cb_M) (q i h : Nat) : cb_M := cb_sI (cb_sI (cb_sI (cb_sI M 18 q i (cb_gI M 20 q h)) 19 q i (cb_gI M 21 q h)) 20 q h (cb_gI M 18 q i)) 21 q h (cb_gI M 19 q i)
def sp_X3_changePlaces : cb_Sp := fun q r M K => match r with
  | [.inl x, .inl y] => ∃ a h, (x = nI a ∧ a < 8 ∧ y = nI h ∧ h < 6) ∧ K none (mo_swap M q a h)
  | _ => False
def pt_X3_changePlaces : cb_PT := cb_m 16 2 sp_X3_changePlaces
theorem rc_X3_changePlaces : cb_rc cb_tb RX3 pt_X3_changePlaces := cb_m_rc rfl rfl
def md_X3_changePlaces : cb_D := (RX3, cX3_changePlaces, 5, none, (0, 0, 0, 0), [
  (0, .aload_n 0, 1, 0, 0, 0, 0),
  (1, .getfield 19, 3, 0, 3, 2, 176),
  (4, .iload_n 1, 1, 0, 1, 0, 0),
  (5, .iaload, 1, 0, 0, 0, 0),
  (6, .istore_n 3, 1, 0, 3, 0, 0),
  (7, .aload_n 0, 1, 0, 0, 0, 0),
  (8, .getfield 22, 3, 0, 3, 3, 180),
  (11, .iload_n 1, 1, 0, 1, 0, 0),
  (12, .iaload, 1, 0, 0, 0, 0),
  (13, .istore 4, 2, 0, 4, 0, 0),
  (15, .aload_n 0, 1, 0, 0, 0, 0),
  (16, .getfield 19, 3, 0, 3, 2, 176),
  (19, .iload_n 1, 1, 0, 1, 0, 0),
  (20, .aload_n 0, 1, 0, 0, 0, 0),
  (21, .getfield 25, 3, 0, 3, 4, 184),
  (24, .iload_n 2, 1, 0, 2, 0, 0),
  (25, .iaload, 1, 0, 0, 0, 0),
  (26, .iastore, 1, 0, 0, 0, 0),
  (27, .aload_n 0, 1, 0, 0, 0, 0),
  (28, .getfield 22, 3, 0, 3, 3, 180),
  (31, .iload_n 1, 1, 0, 1, 0, 0),
  (32, .aload_n 0, 1, 0, 0, 0, 0),
  (33, .getfield 28, 3, 0, 3, 5, 187),
  (36, .iload_n 2, 1, 0, 2, 0, 0),
  (37, .iaload, 1, 0, 0, 0, 0),
  (38, .iastore, 1, 0, 0, 0, 0),
  (39, .aload_n 0, 1, 0, 0, 0, 0),
  (40, .getfield 25, 3, 0, 3, 4, 184),
  (43, .iload_n 2, 1, 0, 2, 0, 0),
  (44, .iload_n 3, 1, 0, 3, 0, 0),
  (45, .iastore, 1, 0, 0, 0, 0),
  (46, .aload_n 0, 1, 0, 0, 0, 0),
  (47, .getfield 28, 3, 0, 3, 5, 187),
  (50, .iload_n 2, 1, 0, 2, 0, 0),
  (51, .iload 4, 2, 0, 4, 0, 0),
  (53, .iastore, 1, 0, 0, 0, 0),
  (54, .return_, 1, 0, 0, 0, 0)],
  [], [])
set_option maxRecDepth 100000 in
theorem vd_X3_changePlaces : md_X3_changePlaces.cd.all (cb_vE md_X3_changePlaces) = true := by decide +kernel
theorem wd_X3_changePlaces : cb_wd yX3_changePlaces md_X3_changePlaces := ⟨cb_tw (i := 955) (by decide +kernel), cb_tw (i := 4) (by decide +kernel), by decide, by decide⟩
theorem cs_X3_changePlaces : ∀ X, cb_Bs md_X3_changePlaces X → ∀ g ∈ md_X3_changePlaces.ga, cb_CS cb_tb md_X3_changePlaces X g := fun X B => fun _ h => nomatch h
theorem ok_X3_changePlaces : cb_MOK cb_tb yX3_changePlaces md_X3_changePlaces pt_X3_changePlaces := by
  refine cb_okm ⟨plainFor_of_name (by decide), rfl⟩ (by decide) cs_X3_changePlaces (by decide) (fun X n0 f i r M hr ha h => ?_)
  match r, hr, h with
  | [.inl x, .inl y], hr, h =>
    obtain ⟨a, hk, ⟨hx, ha8, hy, hh6⟩, h⟩ := h
    have hxi : vp_in x 8 := by rw [hx]; exact vp_in_nI ha8 (by decide)
    have hyi : vp_in y 6 := by rw [hy]; exact vp_in_nI hh6 (by decide)
    have hxc : x.toNatClampNeg = a := by rw [hx]; exact nI_clamp (by omega)
    have hyc : y.toNatClampNeg = hk := by rw [hy]; exact nI_clamp (by omega)
    have al : ∀ t, cb_nth cb_cnt t 1 = 0 → cb_aS n0 t i = true := fun t ht => by
      have : cb_aS n0 16 i = true := ha
      unfold cb_aS at *
      rw [ht]
      exact this
    refine cb_run cb_tb_ok vd_X3_changePlaces (cuts := []) 90 ?_
    refine cb_av.of ha (cb_av.of (al 18 rfl) (And.intro hxi (cb_av.of ha (cb_av.of (al 19 rfl) (And.intro hxi ?_)))))
    refine cb_av.of ha (cb_av.of ha (cb_av.of (al 20 rfl) (And.intro hyi (cb_av.of (al 18 rfl) (And.intro hxi ?_)))))
    refine cb_av.of ha (cb_av.of ha (cb_av.of (al 21 rfl) (And.intro hyi (cb_av.of (al 19 rfl) (And.intro hxi ?_)))))
    refine cb_av.of ha (cb_av.of (al 20 rfl) (And.intro hyi (cb_av.of ha (cb_av.of (al 21 rfl) (And.intro hyi (And.intro rfl ?_))))))
    refine cb_eqN (M' := mo_swap M i x.toNatClampNeg y.toNatClampNeg) h ?_
    rw [hxc, hyc]
/-! the plan -/
def pl_clear (M : cb_M) (P : Nat) : cb_M := cb_fl (cb_fl (cb_fl (cb_sI (cb_sI (cb_sI (cb_sI (cb_sI M 3 P 0 0) 3 P 1 0) 3 P 2 0) 3 P 3 0) 3 P 4 50) 11 P 8 8) 14 P 0 64) 15 P 0 400
def sp_X4_clearAll : cb_Sp := fun P r M K => match r with
  | [] => K none (pl_clear M P)
  | _ => False
def pt_X4_clearAll : cb_PT := cb_m 3 0 sp_X4_clearAll
theorem rc_X4_clearAll : cb_rc cb_tb RX4 pt_X4_clearAll := cb_m_rc rfl rfl
def md_X4_clearAll : cb_D := (RX4, cX4_clearAll, 1, none, (0, 0, 1, 23), [
  (0, .aload_n 0, 1, 0, 0, 0, 0),
  (1, .iconst 0, 1, 0, 0, 0, 0),
  (2, .putfield 9, 3, 0, 4, 0, 66),
  (5, .aload_n 0, 1, 0, 0, 0, 0),
  (6, .iconst 0, 1, 0, 0, 0, 0),
  (7, .putfield 15, 3, 0, 4, 1, 70),
  (10, .aload_n 0, 1, 0, 0, 0, 0),
  (11, .iconst 0, 1, 0, 0, 0, 0),
  (12, .putfield 18, 3, 0, 4, 2, 74),
  (15, .aload_n 0, 1, 0, 0, 0, 0),
  (16, .iconst 0, 1, 0, 0, 0, 0),
  (17, .putfield 21, 3, 0, 4, 3, 78),
  (20, .aload_n 0, 1, 0, 0, 0, 0),
  (21, .bipush 50, 2, 50, 0, 0, 0),
  (23, .putfield 24, 3, 0, 4, 4, 82),
  (26, .aload_n 0, 1, 0, 0, 0, 0),
  (27, .getfield 49, 3, 0, 4, 12, 113),
  (30, .bipush 8, 2, 8, 0, 0, 0),
  (32, .invokestatic 64, 3, 0, 0, 0, 0),
  (35, .aload_n 0, 1, 0, 0, 0, 0),
  (36, .getfield 58, 3, 0, 4, 15, 121),
  (39, .iconst 0, 1, 0, 0, 0, 0),
  (40, .invokestatic 64, 3, 0, 0, 0, 0),
  (43, .aload_n 0, 1, 0, 0, 0, 0),
  (44, .getfield 61, 3, 0, 4, 16, 124),
  (47, .iconst 0, 1, 0, 0, 0, 0),
  (48, .invokestatic 64, 3, 0, 0, 0, 0),
  (51, .return_, 1, 0, 0, 0, 0)],
  [(1, 64, 2, 0, 0, pt_J7_fill_53178)], [])
set_option maxRecDepth 100000 in
theorem vd_X4_clearAll : md_X4_clearAll.cd.all (cb_vE md_X4_clearAll) = true := by decide +kernel
theorem wd_X4_clearAll : cb_wd yX4_clearAll md_X4_clearAll := ⟨cb_tw (i := 625) (by decide +kernel), cb_tw (i := 3) (by decide +kernel), by decide, by decide⟩
theorem cs_X4_clearAll : ∀ X, cb_Bs md_X4_clearAll X → ∀ g ∈ md_X4_clearAll.ga, cb_CS cb_tb md_X4_clearAll X g := fun X B => List.forall_mem_cons.mpr ⟨cb_csS B ok_J7_fill_53178 wd_J7_fill_53178 (cb_tw (i := 626) (by decide +kernel)) (cb_tw (i := 488) (by decide +kernel)) ⟨by decide, by decide⟩ (by decide +kernel), fun _ h => nomatch h⟩
theorem ok_X4_clearAll : cb_MOK cb_tb yX4_clearAll md_X4_clearAll pt_X4_clearAll := by
  refine cb_okm ⟨plainFor_of_name (by decide), rfl⟩ (by decide) cs_X4_clearAll (by decide) (fun X n0 f i r M hr ha h => ?_)
  match r, hr, h with
  | [], hr, h =>
    have hP := cb_a2 (T := 3) rfl ha
    refine cb_run cb_tb_ok vd_X4_clearAll (cuts := []) 90 ?_
    refine cb_av.of ha (cb_av.of ha (cb_av.of ha (cb_av.of ha (cb_av.of ha ?_))))
    refine cb_av.of ha (cb_av.of (cb_aPP hP rfl) (And.intro (show (8 : Nat) < 2 ^ 31 by decide) (cb_av.of ha (cb_av.of (cb_aPP hP rfl) (And.intro (show (64 : Nat) < 2 ^ 31 by decide) (cb_av.of ha (cb_av.of (cb_aPP hP rfl) (And.intro (show (400 : Nat) < 2 ^ 31 by decide) (And.intro rfl h)))))))))
def wr_tk (bd pl : wm_F) (n : Nat) (b at_ : Int32) : Bool := (List.range n).any fun i => decide (bd i = b) && decide (pl i = at_)
def sp_X4_isTaken : cb_Sp := fun P r M K => match r with
  | [.inl b, .inl q] => ∃ n h, (cb_gI M 3 P 1 = nI n ∧ n ≤ 8 ∧ cb_gI M 3 P 2 = nI h ∧ h ≤ 6) ∧ K (some (cb_i (cb_z (wr_tk (cb_gI M 5 P) (cb_gI M 6 P) n b q || wr_tk (cb_gI M 12 P) (cb_gI M 13 P) h b q)))) M
  | _ => False
def pt_X4_isTaken : cb_PT := cb_m 3 2 sp_X4_isTaken
theorem rc_X4_isTaken : cb_rc cb_tb RX4 pt_X4_isTaken := cb_m_rc rfl rfl
def md_X4_isTaken : cb_D := (RX4, cX4_isTaken, 4, (some .boolean), (0, 0, 0, 0), [
  (0, .iconst 0, 1, 0, 0, 0, 0),
  (1, .istore_n 3, 1, 0, 3, 0, 0),
  (2, .iload_n 3, 1, 0, 3, 0, 0),
  (3, .aload_n 0, 1, 0, 0, 0, 0),
  (4, .getfield 15, 3, 0, 4, 1, 70),
  (7, .if_icmp .ge 31, 3, 0, 38, 0, 0),
  (10, .aload_n 0, 1, 0, 0, 0, 0),
  (11, .getfield 31, 3, 0, 4, 6, 88),
  (14, .iload_n 3, 1, 0, 3, 0, 0),
  (15, .iaload, 1, 0, 0, 0, 0),
  (16, .iload_n 1, 1, 0, 1, 0, 0),
  (17, .if_icmp .ne 15, 3, 0, 32, 0, 0),
  (20, .aload_n 0, 1, 0, 0, 0, 0),
  (21, .getfield 34, 3, 0, 4, 7, 91),
  (24, .iload_n 3, 1, 0, 3, 0, 0),
  (25, .iaload, 1, 0, 0, 0, 0),
  (26, .iload_n 2, 1, 0, 2, 0, 0),
  (27, .if_icmp .ne 5, 3, 0, 32, 0, 0),
  (30, .iconst 1, 1, 1, 0, 0, 0),
  (31, .ireturn, 1, 0, 0, 0, 0),
  (32, .iinc 3 1, 3, 1, 3, 0, 0),
  (35, .goto (-33), 3, 0, 2, 0, 0),
  (38, .iconst 0, 1, 0, 0, 0, 0),
  (39, .istore_n 3, 1, 0, 3, 0, 0),
  (40, .iload_n 3, 1, 0, 3, 0, 0),
  (41, .aload_n 0, 1, 0, 0, 0, 0),
  (42, .getfield 18, 3, 0, 4, 2, 74),
  (45, .if_icmp .ge 31, 3, 0, 76, 0, 0),
  (48, .aload_n 0, 1, 0, 0, 0, 0),
  (49, .getfield 52, 3, 0, 4, 13, 115),
  (52, .iload_n 3, 1, 0, 3, 0, 0),
  (53, .iaload, 1, 0, 0, 0, 0),
  (54, .iload_n 1, 1, 0, 1, 0, 0),
  (55, .if_icmp .ne 15, 3, 0, 70, 0, 0),
  (58, .aload_n 0, 1, 0, 0, 0, 0),
  (59, .getfield 55, 3, 0, 4, 14, 118),
  (62, .iload_n 3, 1, 0, 3, 0, 0),
  (63, .iaload, 1, 0, 0, 0, 0),
  (64, .iload_n 2, 1, 0, 2, 0, 0),
  (65, .if_icmp .ne 5, 3, 0, 70, 0, 0),
  (68, .iconst 1, 1, 1, 0, 0, 0),
  (69, .ireturn, 1, 0, 0, 0, 0),
  (70, .iinc 3 1, 3, 1, 3, 0, 0),
  (73, .goto (-33), 3, 0, 40, 0, 0),
  (76, .iconst 0, 1, 0, 0, 0, 0),
  (77, .ireturn, 1, 0, 0, 0, 0)],
  [], [])
set_option maxRecDepth 100000 in
theorem vd_X4_isTaken : md_X4_isTaken.cd.all (cb_vE md_X4_isTaken) = true := by decide +kernel
theorem wd_X4_isTaken : cb_wd yX4_isTaken md_X4_isTaken := ⟨cb_tw (i := 739) (by decide +kernel), cb_tw (i := 3) (by decide +kernel), by decide, by decide⟩
theorem cs_X4_isTaken : ∀ X, cb_Bs md_X4_isTaken X → ∀ g ∈ md_X4_isTaken.ga, cb_CS cb_tb md_X4_isTaken X g := fun X B => fun _ h => nomatch h
theorem ok_X4_isTaken : cb_MOK cb_tb yX4_isTaken md_X4_isTaken pt_X4_isTaken := by
  refine cb_okm ⟨plainFor_of_name (by decide), rfl⟩ (by decide) cs_X4_isTaken (by decide) (fun X n0 f i r M hr ha h => ?_)
  match r, hr, h with
  | [.inl b, .inl q], hr, h =>
    obtain ⟨n, hh, ⟨hn, hn8, hhk, hh6⟩, h⟩ := h
    have hP := cb_a2 (T := 3) rfl ha
    have second : ∀ j, j ≤ hh → ∀ x : Int32, x = nI j → wr_tk (cb_gI M 5 i) (cb_gI M 6 i) n b q = false → wr_tk (cb_gI M 12 i) (cb_gI M 13 i) j b q = false → cb_Gd cb_tb md_X4_isTaken X 40 [some (cb_r 3 i), some (cb_i (b)), some (cb_i (q)), some (cb_i (x))] [] (cb_aS n0, f) M 0 0 := by
      refine cb_up (fun j => ∀ x : Int32, x = nI j → wr_tk (cb_gI M 5 i) (cb_gI M 6 i) n b q = false → wr_tk (cb_gI M 12 i) (cb_gI M 13 i) j b q = false → cb_Gd cb_tb md_X4_isTaken X 40 [some (cb_r 3 i), some (cb_i (b)), some (cb_i (q)), some (cb_i (x))] [] (cb_aS n0, f) M 0 0) ?_ ?_
      · intro x hx hz1 hz
        refine cb_run cb_tb_ok vd_X4_isTaken (cuts := [2, 40]) 90 ?_
        refine cb_av.of ha (cb_lout hx hhk (And.intro cb_rt0 (cb_z0 (K := fun v M' => X.K (.inl v) (cb_aS n0, f) M') h ?_)))
        rw [hz1, hz]
        rfl
      · intro j hj ih x hx hz1 hz
        have hxi : vp_in x 6 := by rw [hx]; exact cb_in8 hj hh6 (by decide)
        have hxc : x.toNatClampNeg = j := by rw [hx]; exact nI_clamp (by omega)
        refine cb_run cb_tb_ok vd_X4_isTaken (cuts := [2, 40]) 90 ?_
        refine cb_av.of ha (cb_lin hx hhk hj (by omega) (cb_av.of ha (cb_av.of (cb_aPP hP rfl) (And.intro hxi (cb_ifne (fun q1 => ?_) (fun q1 => cb_av.of ha (cb_av.of (cb_aPP hP rfl) (And.intro hxi (cb_ifne (fun q2 => ?_) (fun q2 => ?_))))))))))
        · rw [hxc] at q1
          refine ih _ (by rw [hx, nI_1]) hz1 ?_
          unfold wr_tk at *
          rw [cb_any_succ, hz, decide_eq_false q1]
          rfl
        · rw [hxc] at q2
          refine ih _ (by rw [hx, nI_1]) hz1 ?_
          unfold wr_tk at *
          rw [cb_any_succ, hz, decide_eq_false q2]
          simp
        · rw [hxc] at q1 q2
          refine And.intro cb_rt1 (cb_z1 (K := fun v M' => X.K (.inl v) (cb_aS n0, f) M') h ?_)
          have : wr_tk (cb_gI M 12 i) (cb_gI M 13 i) hh b q = true := cb_any_hit hj (by rw [decide_eq_true q1, decide_eq_true q2]; rfl)
          rw [this]
          simp
    have first : ∀ j, j ≤ n → ∀ x : Int32, x = nI j → wr_tk (cb_gI M 5 i) (cb_gI M 6 i) j b q = false → cb_Gd cb_tb md_X4_isTaken X 2 [some (cb_r 3 i), some (cb_i (b)), some (cb_i (q)), some (cb_i (x))] [] (cb_aS n0, f) M 0 0 := by
      refine cb_up (fun j => ∀ x : Int32, x = nI j → wr_tk (cb_gI M 5 i) (cb_gI M 6 i) j b q = false → cb_Gd cb_tb md_X4_isTaken X 2 [some (cb_r 3 i), some (cb_i (b)), some (cb_i (q)), some (cb_i (x))] [] (cb_aS n0, f) M 0 0) ?_ ?_
      · intro x hx hz
        refine cb_run cb_tb_ok vd_X4_isTaken (cuts := [2, 40]) 90 ?_
        exact cb_av.of ha (cb_lout hx hn (second 0 (Nat.zero_le _) _ rfl hz rfl))
      · intro j hj ih x hx hz
        have hxi : vp_in x 8 := by rw [hx]; exact cb_in8 hj hn8 (by decide)
        have hxc : x.toNatClampNeg = j := by rw [hx]; exact nI_clamp (by omega)
        refine cb_run cb_tb_ok vd_X4_isTaken (cuts := [2, 40]) 90 ?_
        refine cb_av.of ha (cb_lin hx hn hj (by omega) (cb_av.of ha (cb_av.of (cb_aPP hP rfl) (And.intro hxi (cb_ifne (fun q1 => ?_) (fun q1 => cb_av.of ha (cb_av.of (cb_aPP hP rfl) (And.intro hxi (cb_ifne (fun q2 => ?_) (fun q2 => ?_))))))))))
        · rw [hxc] at q1
          refine ih _ (by rw [hx, nI_1]) ?_
          unfold wr_tk at *
          rw [cb_any_succ, hz, decide_eq_false q1]
          rfl
        · rw [hxc] at q2
          refine ih _ (by rw [hx, nI_1]) ?_
          unfold wr_tk at *
          rw [cb_any_succ, hz, decide_eq_false q2]
          simp
        · rw [hxc] at q1 q2
          refine And.intro cb_rt1 (cb_z1 (K := fun v M' => X.K (.inl v) (cb_aS n0, f) M') h ?_)
          have : wr_tk (cb_gI M 5 i) (cb_gI M 6 i) n b q = true := cb_any_hit hj (by rw [decide_eq_true q1, decide_eq_true q2]; rfl)
          rw [this]
          rfl
    exact cb_run cb_tb_ok vd_X4_isTaken (cuts := [2, 40]) 40 (first 0 (Nat.zero_le _) _ rfl rfl)
