/-! ===== the moment's phases; begin ===== -/
def wm_pof (fp of : wm_F) (i : Nat) : Int32 := wm_fmod (fp i + of i) 1000
def sp_phaseOf : cb_Sp := fun q r M K => match r with
  | [.inr (.inr (some (t, P))), .inl x] => cb_ck (Nat.beq t 3) ((P < 2 ∧ vp_in x 8) ∧ K (some (cb_i (wm_pof (cb_gI M 10 P) (cb_gI M 17 q) x.toNatClampNeg))) M)
  | _ => False
def pt_X3_phaseOf : cb_PT := cb_m 16 2 sp_phaseOf
theorem rc_X3_phaseOf : cb_rc cb_tb RX3 pt_X3_phaseOf := cb_m_rc rfl rfl
def md_X3_phaseOf : cb_D := (RX3, cX3_phaseOf, 3, (some .int), (0, 0, 1, 22), [
  (0, .aload_n 1, 1, 0, 1, 0, 0),
  (1, .getfield 62, 3, 0, 4, 11, 111),
  (4, .iload_n 2, 1, 0, 2, 0, 0),
  (5, .iaload, 1, 0, 0, 0, 0),
  (6, .aload_n 0, 1, 0, 0, 0, 0),
  (7, .getfield 15, 3, 0, 3, 1, 172),
  (10, .iload_n 2, 1, 0, 2, 0, 0),
  (11, .iaload, 1, 0, 0, 0, 0),
  (12, .iadd, 1, 0, 0, 0, 0),
  (13, .sipush 1000, 3, 1000, 0, 0, 0),
  (16, .invokestatic 65, 3, 0, 0, 0, 0),
  (19, .ireturn, 1, 0, 0, 0, 0)],
  [(1, 65, 2, 0, 0, pt_J9_floorMod_7cf53)], [])
set_option maxRecDepth 100000 in
theorem vd_X3_phaseOf : md_X3_phaseOf.cd.all (cb_vE md_X3_phaseOf) = true := by decide +kernel
theorem wd_X3_phaseOf : cb_wd yX3_phaseOf md_X3_phaseOf := ⟨cb_tw (i := 460) (by decide +kernel), cb_tw (i := 4) (by decide +kernel), by decide, by decide⟩
theorem cs_X3_phaseOf : ∀ X, cb_Bs md_X3_phaseOf X → ∀ g ∈ md_X3_phaseOf.ga, cb_CS cb_tb md_X3_phaseOf X g := fun X B => List.forall_mem_cons.mpr ⟨cb_csS B ok_J9_floorMod_7cf53 wd_J9_floorMod_7cf53 (cb_tw (i := 461) (by decide +kernel)) (cb_tw (i := 462) (by decide +kernel)) ⟨by decide, by decide⟩ (by decide +kernel), fun _ h => nomatch h⟩
theorem ok_X3_phaseOf : cb_MOK cb_tb yX3_phaseOf md_X3_phaseOf pt_X3_phaseOf := by
  refine cb_okm ⟨plainFor_of_name (by decide), rfl⟩ (by decide) cs_X3_phaseOf (by decide) (fun X n0 f q r M hr ha h => ?_)
  match r, hr, h with
  | [.inr (.inr (some (t, P))), .inl x], hr, h =>
    obtain ⟨ht, ⟨hP, hx⟩, hK⟩ := h.to
    have ht := Nat.eq_of_beq_eq_true ht
    subst ht
    refine cb_run cb_tb_ok vd_X3_phaseOf (cuts := []) 40 ?_
    refine cb_av.of (cb_aPP hP rfl) (cb_av.of (cb_aPP hP rfl) (And.intro hx (cb_av.of ha (cb_av.of (show cb_aS n0 17 q = true from ha) (And.intro hx (And.intro (show ¬ (1000 : Int32) = 0 by decide) (And.intro trivial (cb_eqK hK rfl))))))))
def sp_apartFrom3 : cb_Sp := fun q r M K => match r with
  | [.inr (.inr (some (t, P))), .inl x, .inl y] => cb_ck (Nat.beq t 3) ((P < 2 ∧ vp_in x 8 ∧ vp_in y 8) ∧ K (some (cb_i (wm_ap (wm_pof (cb_gI M 10 P) (cb_gI M 17 q) x.toNatClampNeg) (wm_pof (cb_gI M 10 P) (cb_gI M 17 q) y.toNatClampNeg)))) M)
  | _ => False
def pt_X3_apartFrom : cb_PT := cb_m 16 3 sp_apartFrom3
theorem rc_X3_apartFrom : cb_rc cb_tb RX3 pt_X3_apartFrom := cb_m_rc rfl rfl
def md_X3_apartFrom : cb_D := (RX3, cX3_apartFrom, 4, (some .int), (0, 0, 2, 44), [
  (0, .aload_n 0, 1, 0, 0, 0, 0),
  (1, .aload_n 1, 1, 0, 1, 0, 0),
  (2, .iload_n 2, 1, 0, 2, 0, 0),
  (3, .invokevirtual 68, 3, 0, 0, 0, 0),
  (6, .aload_n 0, 1, 0, 0, 0, 0),
  (7, .aload_n 1, 1, 0, 1, 0, 0),
  (8, .iload_n 3, 1, 0, 3, 0, 0),
  (9, .invokevirtual 68, 3, 0, 0, 0, 0),
  (12, .invokestatic 72, 3, 0, 1, 0, 0),
  (15, .ireturn, 1, 0, 0, 0, 0)],
  [(0, 68, 3, 0, 0, pt_X3_phaseOf), (1, 72, 2, 0, 0, pt_X9_apartBy)], [])
set_option maxRecDepth 100000 in
theorem vd_X3_apartFrom : md_X3_apartFrom.cd.all (cb_vE md_X3_apartFrom) = true := by decide +kernel
theorem wd_X3_apartFrom : cb_wd yX3_apartFrom md_X3_apartFrom := ⟨cb_tw (i := 978) (by decide +kernel), cb_tw (i := 4) (by decide +kernel), by decide, by decide⟩
theorem cs_X3_apartFrom : ∀ X, cb_Bs md_X3_apartFrom X → ∀ g ∈ md_X3_apartFrom.ga, cb_CS cb_tb md_X3_apartFrom X g := fun X B => List.forall_mem_cons.mpr ⟨cb_csV B ok_X3_phaseOf wd_X3_phaseOf (cb_tw (i := 979) (by decide +kernel)) (cb_tw (i := 458) (by decide +kernel)) (cb_tw (i := 459) (by decide +kernel)) rc_X3_phaseOf ⟨by decide, by decide⟩ (by decide +kernel), List.forall_mem_cons.mpr ⟨cb_csN (host := "WallClocks") B ok_X9_apartBy nt_X9_apartBy wd_X9_apartBy (cb_tw (i := 980) (by decide +kernel)) (cb_tw (i := 499) (by decide +kernel)) ⟨by decide, by decide⟩ (by decide +kernel), fun _ h => nomatch h⟩⟩
theorem ok_X3_apartFrom : cb_MOK cb_tb yX3_apartFrom md_X3_apartFrom pt_X3_apartFrom := by
  refine cb_okm ⟨plainFor_of_name (by decide), rfl⟩ (by decide) cs_X3_apartFrom (by decide) (fun X n0 f q r M hr ha h => ?_)
  match r, hr, h with
  | [.inr (.inr (some (t, P))), .inl x, .inl y], hr, h =>
    obtain ⟨ht, ⟨hP, hx, hy⟩, hK⟩ := h.to
    have ht := Nat.eq_of_beq_eq_true ht
    subst ht
    refine cb_run cb_tb_ok vd_X3_apartFrom (cuts := []) 40 ?_
    refine And.intro (cb_on ha) (And.intro ⟨hP, hx⟩ (And.intro (cb_on ha) (And.intro ⟨hP, hy⟩ (And.intro trivial (And.intro trivial (cb_eqK hK rfl))))))
/-- where a trial begins -/
def wb_s (M : cb_M) (P n : Nat) : wm_S := (cb_gI M 16 0 0, wn_tr n (wm_pof (cb_gI M 10 P) (cb_gI M 17 0)), wn_tr n (cb_gI M 17 0))
def sp_begin : cb_Sp := fun _ r M K => match r with
  | [] => ∃ P n, (wk_T M P n ∧ cb_gR M 25 0 1 = some 0) ∧ ∀ M', cb_fr fr_t M M' → wt_s M' n = wb_s M P n → wk_Ph M' n → K none M'
  | _ => False
def pt_X7_begin : cb_PT := cb_m 25 0 sp_begin
theorem rc_X7_begin : cb_rc cb_tb RX7 pt_X7_begin := cb_m_rc rfl rfl
def md_X7_begin : cb_D := (RX7, cX7_begin, 2, none, (0, 0, 2, 44), [
  (0, .aload_n 0, 1, 0, 0, 0, 0),
  (1, .aload_n 0, 1, 0, 0, 0, 0),
  (2, .getfield 66, 3, 0, 7, 1, 222),
  (5, .getfield 95, 3, 0, 3, 0, 169),
  (8, .putfield 15, 3, 0, 7, 3, 231),
  (11, .iconst 0, 1, 0, 0, 0, 0),
  (12, .istore_n 1, 1, 0, 1, 0, 0),
  (13, .iload_n 1, 1, 0, 1, 0, 0),
  (14, .aload_n 0, 1, 0, 0, 0, 0),
  (15, .getfield 9, 3, 0, 7, 2, 226),
  (18, .if_icmp .ge 42, 3, 0, 60, 0, 0),
  (21, .aload_n 0, 1, 0, 0, 0, 0),
  (22, .getfield 25, 3, 0, 7, 6, 239),
  (25, .iload_n 1, 1, 0, 1, 0, 0),
  (26, .aload_n 0, 1, 0, 0, 0, 0),
  (27, .getfield 66, 3, 0, 7, 1, 222),
  (30, .getfield 96, 3, 0, 3, 1, 173),
  (33, .iload_n 1, 1, 0, 1, 0, 0),
  (34, .iaload, 1, 0, 0, 0, 0),
  (35, .iastore, 1, 0, 0, 0, 0),
  (36, .aload_n 0, 1, 0, 0, 0, 0),
  (37, .getfield 22, 3, 0, 7, 5, 236),
  (40, .iload_n 1, 1, 0, 1, 0, 0),
  (41, .aload_n 0, 1, 0, 0, 0, 0),
  (42, .getfield 66, 3, 0, 7, 1, 222),
  (45, .aload_n 0, 1, 0, 0, 0, 0),
  (46, .getfield 62, 3, 0, 7, 0, 218),
  (49, .iload_n 1, 1, 0, 1, 0, 0),
  (50, .invokevirtual 97, 3, 0, 0, 0, 0),
  (53, .iastore, 1, 0, 0, 0, 0),
  (54, .iinc 1 1, 3, 1, 1, 0, 0),
  (57, .goto (-44), 3, 0, 13, 0, 0),
  (60, .return_, 1, 0, 0, 0, 0)],
  [(0, 97, 3, 0, 0, pt_X3_phaseOf)], [])
set_option maxRecDepth 100000 in
theorem vd_X7_begin : md_X7_begin.cd.all (cb_vE md_X7_begin) = true := by decide +kernel
theorem wd_X7_begin : cb_wd yX7_begin md_X7_begin := ⟨cb_tw (i := 456) (by decide +kernel), cb_tw (i := 5) (by decide +kernel), by decide, by decide⟩
theorem cs_X7_begin : ∀ X, cb_Bs md_X7_begin X → ∀ g ∈ md_X7_begin.ga, cb_CS cb_tb md_X7_begin X g := fun X B => List.forall_mem_cons.mpr ⟨cb_csV B ok_X3_phaseOf wd_X3_phaseOf (cb_tw (i := 457) (by decide +kernel)) (cb_tw (i := 458) (by decide +kernel)) (cb_tw (i := 459) (by decide +kernel)) rc_X3_phaseOf ⟨by decide, by decide⟩ (by decide +kernel), fun _ h => nomatch h⟩
theorem ok_X7_begin : cb_MOK cb_tb yX7_begin md_X7_begin pt_X7_begin := by
  refine cb_okm ⟨plainFor_of_name (by decide), rfl⟩ (by decide) cs_X7_begin (by decide) (fun X n0 f i r M hr ha h => ?_)
  have h0 := cb_a1 (T := 25) rfl ha
  subst h0
  match r, hr, h with
  | [], hr, h =>
    obtain ⟨P, n, ⟨⟨hP, hP2, hn, hn8⟩, hq⟩, h⟩ := h
    have loop : ∀ j, j ≤ n → ∀ (x : Int32) (M' : cb_M), x = nI j → cb_fr fr_t M M' → cb_gI M' 25 0 3 = cb_gI M 16 0 0 → (∀ i, i < j → cb_gI M' 27 0 i = wm_pof (cb_gI M 10 P) (cb_gI M 17 0) i ∧ cb_gI M' 28 0 i = cb_gI M 17 0 i) → cb_Gd cb_tb md_X7_begin X 13 [some (cb_r 25 0), some (cb_i x)] [] (cb_aS n0, f) M' 0 0 := by
      refine cb_up (fun j => ∀ (x : Int32) (M' : cb_M), x = nI j → cb_fr fr_t M M' → cb_gI M' 25 0 3 = cb_gI M 16 0 0 → (∀ i, i < j → cb_gI M' 27 0 i = wm_pof (cb_gI M 10 P) (cb_gI M 17 0) i ∧ cb_gI M' 28 0 i = cb_gI M 17 0 i) → cb_Gd cb_tb md_X7_begin X 13 [some (cb_r 25 0), some (cb_i x)] [] (cb_aS n0, f) M' 0 0) ?_ ?_
      · intro x M' hx hF hd hs
        refine cb_run cb_tb_ok vd_X7_begin (cuts := [13]) 60 ?_
        refine cb_lout hx ((hF.1 25 0 2 rfl).trans hn) (And.intro rfl (h M' hF ?_ (fun i hi => ?_)))
        · exact Prod.ext hd (Prod.ext (wn_tr_ext fun i hi => (hs i hi).1) (wn_tr_ext fun i hi => (hs i hi).2))
        · rw [(hs i hi).1]
          exact wm_fmod_ph _
      · intro j hj ih x M' hx hF hd hs
        have hx8 : vp_in x 8 := by rw [hx]; exact cb_in8 hj hn8 (by decide)
        have hxc : x.toNatClampNeg = j := by rw [hx]; exact nI_clamp (by omega)
        have hP' := (hF.ref 25 0 0).trans hP
        have hq' := (hF.ref 25 0 1).trans hq
        refine cb_run cb_tb_ok vd_X7_begin (cuts := [13]) 60 ?_
        refine cb_lin hx ((hF.1 25 0 2 rfl).trans hn) hj (by omega) (Exists.intro (some 0) (And.intro hq' (And.intro hx8 (And.intro hx8 (Exists.intro (some 0) (And.intro hq' (Exists.intro (some P) (And.intro hP' (And.intro (cb_on rfl) (And.intro ⟨hP2, hx8⟩ (And.intro hx8 ?_)))))))))))
        refine ih _ _ (by rw [hx, nI_1]) ((hF.set _ rfl).set _ rfl) hd (fun i hi => ⟨?_, ?_⟩)
        · rw [cb_gI_sI, hxc]
          by_cases e : i = j
          · subst e
            rw [if_pos ⟨rfl, rfl, rfl⟩]
            show wm_pof (cb_gI M' 10 P) (cb_gI M' 17 0) i = _
            rw [hF.fn 10 P (fun _ => rfl), hF.fn 17 0 (fun _ => rfl)]
          · rw [if_neg (fun w => e w.2.2)]
            exact (hs i (by omega)).1
        · show cb_gI (cb_sI M' 28 0 x.toNatClampNeg (cb_gI M' 17 0 x.toNatClampNeg)) 28 0 i = _
          rw [cb_gI_sI, hxc]
          by_cases e : i = j
          · subst e
            rw [if_pos ⟨rfl, rfl, rfl⟩, hF.fn 17 0 (fun _ => rfl)]
          · rw [if_neg (fun w => e w.2.2)]
            exact (hs i (by omega)).2
    refine cb_run cb_tb_ok vd_X7_begin (cuts := [13]) 60 (Exists.intro (some 0) (And.intro hq ?_))
    exact loop 0 (Nat.zero_le _) _ _ rfl ((cb_fr.refl M).set _ rfl) rfl (fun i hi => absurd hi (by omega))
/-! keepPair, keepUp -/
def wk_B (M : cb_M) (n : Nat) : Prop := ∀ i, i < n → vp_in (cb_gI M 29 0 i) 4 ∧ vp_in (cb_gI M 30 0 i) 20
theorem wm_near_all : ∀ i, i < 20 → ∀ j, j < 20 → (1 : Int32) ≤ 1 + wm_abs (nI i - nI j) := by decide +kernel
theorem wm_near {x y : Int32} (hx : vp_in x 20) (hy : vp_in y 20) : 1 ≤ 1 + wm_abs (x - y) := by
  obtain ⟨i, hi, rfl, -⟩ := cb_idx hx (by decide)
  obtain ⟨j, hj, rfl, -⟩ := cb_idx hy (by decide)
  exact wm_near_all i hi j hj
def sp_keepPair : cb_Sp := fun _ r M K => match r with
  | [.inl x, .inl y] => ∃ P n m i j, (wk_T M P n ∧ wk_B M n ∧ x = nI i ∧ y = nI j ∧ i < n ∧ j < n ∧ cb_gI M 25 0 13 = nI m ∧ m < 28) ∧ (wk_h M P n j i = 0 ∧ wk_h M P n i j = 0 → K none M) ∧ (¬ (wk_h M P n j i = 0 ∧ wk_h M P n i j = 0) → K none (cb_sI (cb_sI (cb_sI (cb_sI (cb_sI M 33 0 m (nI i)) 34 0 m (nI j)) 35 0 m (wk_h M P n i j)) 36 0 m (wk_h M P n j i)) 25 0 13 (nI (m + 1))))
  | _ => False
def pt_X7_keepPair : cb_PT := cb_m 25 2 sp_keepPair
theorem rc_X7_keepPair : cb_rc cb_tb RX7 pt_X7_keepPair := cb_m_rc rfl rfl
def md_X7_keepPair : cb_D := (RX7, cX7_keepPair, 5, none, (0, 0, 2, 46), [
  (0, .aload_n 0, 1, 0, 0, 0, 0),
  (1, .iload_n 1, 1, 0, 1, 0, 0),
  (2, .iload_n 2, 1, 0, 2, 0, 0),
  (3, .invokevirtual 114, 3, 0, 0, 0, 0),
  (6, .istore_n 3, 1, 0, 3, 0, 0),
  (7, .aload_n 0, 1, 0, 0, 0, 0),
  (8, .iload_n 2, 1, 0, 2, 0, 0),
  (9, .iload_n 1, 1, 0, 1, 0, 0),
  (10, .invokevirtual 114, 3, 0, 0, 0, 0),
  (13, .istore 4, 2, 0, 4, 0, 0),
  (15, .aload_n 0, 1, 0, 0, 0, 0),
  (16, .getfield 47, 3, 0, 7, 13, 251),
  (19, .bipush 28, 2, 28, 0, 0, 0),
  (21, .if_icmp .ge 12, 3, 0, 33, 0, 0),
  (24, .iload 4, 2, 0, 4, 0, 0),
  (26, .ifCond .ne 8, 3, 0, 34, 0, 0),
  (29, .iload_n 3, 1, 0, 3, 0, 0),
  (30, .ifCond .ne 4, 3, 0, 34, 0, 0),
  (33, .return_, 1, 0, 0, 0, 0),
  (34, .aload_n 0, 1, 0, 0, 0, 0),
  (35, .getfield 50, 3, 0, 7, 14, 252),
  (38, .aload_n 0, 1, 0, 0, 0, 0),
  (39, .getfield 47, 3, 0, 7, 13, 251),
  (42, .iload_n 1, 1, 0, 1, 0, 0),
  (43, .iastore, 1, 0, 0, 0, 0),
  (44, .aload_n 0, 1, 0, 0, 0, 0),
  (45, .getfield 53, 3, 0, 7, 15, 253),
  (48, .aload_n 0, 1, 0, 0, 0, 0),
  (49, .getfield 47, 3, 0, 7, 13, 251),
  (52, .iload_n 2, 1, 0, 2, 0, 0),
  (53, .iastore, 1, 0, 0, 0, 0),
  (54, .aload_n 0, 1, 0, 0, 0, 0),
  (55, .getfield 56, 3, 0, 7, 16, 254),
  (58, .aload_n 0, 1, 0, 0, 0, 0),
  (59, .getfield 47, 3, 0, 7, 13, 251),
  (62, .iload_n 3, 1, 0, 3, 0, 0),
  (63, .iastore, 1, 0, 0, 0, 0),
  (64, .aload_n 0, 1, 0, 0, 0, 0),
  (65, .getfield 59, 3, 0, 7, 17, 255),
  (68, .aload_n 0, 1, 0, 0, 0, 0),
  (69, .getfield 47, 3, 0, 7, 13, 251),
  (72, .iload 4, 2, 0, 4, 0, 0),
  (74, .iastore, 1, 0, 0, 0, 0),
  (75, .aload_n 0, 1, 0, 0, 0, 0),
  (76, .dup, 1, 0, 0, 0, 0),
  (77, .getfield 47, 3, 0, 7, 13, 251),
  (80, .iconst 1, 1, 1, 0, 0, 0),
  (81, .iadd, 1, 0, 0, 0, 0),
  (82, .putfield 47, 3, 0, 7, 13, 251),
  (85, .return_, 1, 0, 0, 0, 0)],
  [(0, 114, 3, 0, 0, pt_X7_hearingOf)], [])
set_option maxRecDepth 100000 in
theorem vd_X7_keepPair : md_X7_keepPair.cd.all (cb_vE md_X7_keepPair) = true := by decide +kernel
theorem wd_X7_keepPair : cb_wd yX7_keepPair md_X7_keepPair := ⟨cb_tw (i := 445) (by decide +kernel), cb_tw (i := 5) (by decide +kernel), by decide, by decide⟩
theorem cs_X7_keepPair : ∀ X, cb_Bs md_X7_keepPair X → ∀ g ∈ md_X7_keepPair.ga, cb_CS cb_tb md_X7_keepPair X g := fun X B => List.forall_mem_cons.mpr ⟨cb_csV B ok_X7_hearingOf wd_X7_hearingOf (cb_tw (i := 446) (by decide +kernel)) (cb_tw (i := 447) (by decide +kernel)) (cb_tw (i := 448) (by decide +kernel)) rc_X7_hearingOf ⟨by decide, by decide⟩ (by decide +kernel), fun _ h => nomatch h⟩
theorem ok_X7_keepPair : cb_MOK cb_tb yX7_keepPair md_X7_keepPair pt_X7_keepPair := by
  refine cb_okm ⟨plainFor_of_name (by decide), rfl⟩ (by decide) cs_X7_keepPair (by decide) (fun X n0 f i r M hr ha h => ?_)
  have h0 := cb_a1 (T := 25) rfl ha
  subst h0
  match r, hr, h with
  | [.inl x, .inl y], hr, h =>
    obtain ⟨P, n, m, i, j, ⟨⟨hP, hP2, hn, hn8⟩, hB, rfl, rfl, hi, hj, hm, hm28⟩, hA, hN⟩ := h
    have hx8 : vp_in (nI i) 8 := cb_in8 hi hn8 (by decide)
    have hy8 : vp_in (nI j) 8 := cb_in8 hj hn8 (by decide)
    have ei : (nI i).toNatClampNeg = i := nI_clamp (by omega)
    have ej : (nI j).toNatClampNeg = j := nI_clamp (by omega)
    have em : (nI m).toNatClampNeg = m := nI_clamp (by omega)
    have hm8 : vp_in (nI m) 28 := vp_in_nI hm28 (by decide)
    have hmm : vp_in (cb_gI M 25 0 13) 28 := by rw [hm]; exact hm8
    have emm : (cb_gI M 25 0 13).toNatClampNeg = m := by rw [hm]; exact em
    refine cb_run cb_tb_ok vd_X7_keepPair (cuts := []) 80 ?_
    refine And.intro (cb_on rfl) ⟨P, ⟨hP, hP2, hx8, hy8, by rw [ei]; exact (hB i hi).1, by rw [ei, ej]; exact wm_near (hB i hi).2 (hB j hj).2⟩, ?_⟩
    refine And.intro (cb_on rfl) ⟨P, ⟨hP, hP2, hy8, hx8, by rw [ej]; exact (hB j hj).1, by rw [ei, ej]; exact wm_near (hB j hj).2 (hB i hi).2⟩, ?_⟩
    have e1 : wm_hear (wk_c M P 0) (nI i).toNatClampNeg (nI j).toNatClampNeg = wk_h M P n i j := by rw [ei, ej]; rfl
    have e2 : wm_hear (wk_c M P 0) (nI j).toNatClampNeg (nI i).toNatClampNeg = wk_h M P n j i := by rw [ei, ej]; rfl
    have fin : ¬ (wk_h M P n j i = 0 ∧ wk_h M P n i j = 0) → X.K (.inl none) (cb_aS n0, f) (cb_sI (cb_sI (cb_sI (cb_sI (cb_sI M 33 0 (cb_gI M 25 0 13).toNatClampNeg (nI i)) 34 0 (cb_gI M 25 0 13).toNatClampNeg (nI j)) 35 0 (cb_gI M 25 0 13).toNatClampNeg (wm_hear (wk_c M P 0) (nI i).toNatClampNeg (nI j).toNatClampNeg)) 36 0 (cb_gI M 25 0 13).toNatClampNeg (wm_hear (wk_c M P 0) (nI j).toNatClampNeg (nI i).toNatClampNeg)) 25 0 13 (cb_gI M 25 0 13 + 1)) := by
      intro q
      rw [emm, e1, e2, hm, nI_1]
      exact hN q
    refine And.intro (fun q => ?_) (fun _ => And.intro (fun q1 => ?_) (fun q1 => And.intro (fun q2 => ?_) (fun q2 => ?_)))
    · have q : (28 : Int32) ≤ cb_gI M 25 0 13 := q
      rw [hm] at q
      exact absurd q (nI_ge hm28 (by decide))
    · exact And.intro hmm (And.intro hmm (And.intro hmm (And.intro hmm (And.intro rfl (fin (fun w => q1 (e2.trans w.1)))))))
    · exact And.intro hmm (And.intro hmm (And.intro hmm (And.intro hmm (And.intro rfl (fin (fun w => q2 (e1.trans w.2)))))))
    · exact And.intro rfl (hA ⟨e2.symm.trans (Classical.not_not.mp q1), e1.symm.trans (Classical.not_not.mp q2)⟩)
