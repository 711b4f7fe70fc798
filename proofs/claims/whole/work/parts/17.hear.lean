/-! ===== who hears whom ===== -/
theorem cb_ix8 {x y : Int32} {n m k : Nat} (hx : vp_in x n) (hy : vp_in y k) (hm : (n - 1) * k + k ≤ m) (hn : 0 < n) (hM : m < 2 ^ 31) : vp_in (x * nI k + y) m ∧ (x * nI k + y).toNatClampNeg = x.toNatClampNeg * k + y.toNatClampNeg := by
  have hk : k ≤ m := by omega
  have hn1 : n < 2 ^ 31 ∨ k = 0 := by
    rcases Nat.eq_zero_or_pos k with h | h
    · exact Or.inr h
    · refine Or.inl ?_
      have : n - 1 ≤ (n - 1) * k := Nat.le_mul_of_pos_right _ h
      omega
  rcases hn1 with hn1 | hn1
  · obtain ⟨i, hi, rfl⟩ := vp_in_of hx hn1
    obtain ⟨j, hj, rfl⟩ := vp_in_of hy (by omega)
    have h1 : i * k ≤ (n - 1) * k := Nat.mul_le_mul_right k (by omega)
    rw [pk_mul, nI_add]
    have h2 : i * k + j < m := by omega
    rw [nI_clamp (by omega), nI_clamp (by omega), nI_clamp (by omega)]
    exact ⟨vp_in_nI h2 hM, rfl⟩
  · subst hn1
    exact absurd (vp_in_iff.mp hy).2 (by have := (vp_in_iff.mp hy).1; omega)
theorem wm_hear_0 {c : wm_C} {i j : Nat} (h : c.kd i = 2 ∨ c.kd i = 1 ∨ c.kd j = 2) : wm_hear c i j = 0 := if_pos h
theorem wm_hear_1 {c : wm_C} {i j : Nat} (h : ¬ (c.kd i = 2 ∨ c.kd i = 1 ∨ c.kd j = 2)) (h2 : ¬ c.bd i = c.bd j) : wm_hear c i j = c.hr i j := by
  unfold wm_hear
  rw [if_neg h, if_pos h2]
theorem wm_hear_2 {c : wm_C} {i j : Nat} (h : ¬ (c.kd i = 2 ∨ c.kd i = 1 ∨ c.kd j = 2)) (h2 : c.bd i = c.bd j) {w : Int32} (hw : w = if c.kd j = 4 then 2 * c.wt j else c.wt j) : wm_hear c i j = w * (10 - c.th (c.bd i).toNatClampNeg) / (1 + wm_abs (c.pl i - c.pl j)) + c.hr i j := by
  unfold wm_hear
  rw [if_neg h, if_neg (fun q => q h2), hw]
def sp_hearingOf : cb_Sp := fun _ r M K => match r with
  | [.inl x, .inl y] => ∃ P, (cb_gR M 25 0 0 = some P ∧ P < 2 ∧ vp_in x 8 ∧ vp_in y 8 ∧ vp_in (cb_gI M 29 0 x.toNatClampNeg) 4 ∧ 1 ≤ 1 + wm_abs (cb_gI M 30 0 x.toNatClampNeg - cb_gI M 30 0 y.toNatClampNeg)) ∧ K (some (cb_i (wm_hear (wk_c M P 0) x.toNatClampNeg y.toNatClampNeg))) M
  | _ => False
def pt_X7_hearingOf : cb_PT := cb_m 25 2 sp_hearingOf
theorem rc_X7_hearingOf : cb_rc cb_tb RX7 pt_X7_hearingOf := cb_m_rc rfl rfl
def md_X7_hearingOf : cb_D := (RX7, cX7_hearingOf, 7, (some .int), (0, 0, 1, 20), [
  (0, .aload_n 0, 1, 0, 0, 0, 0),
  (1, .getfield 62, 3, 0, 7, 0, 218),
  (4, .getfield 117, 3, 0, 4, 10, 109),
  (7, .iload_n 1, 1, 0, 1, 0, 0),
  (8, .iaload, 1, 0, 0, 0, 0),
  (9, .istore_n 3, 1, 0, 3, 0, 0),
  (10, .iload_n 3, 1, 0, 3, 0, 0),
  (11, .iconst 2, 1, 2, 0, 0, 0),
  (12, .if_icmp .eq 21, 3, 0, 33, 0, 0),
  (15, .iload_n 3, 1, 0, 3, 0, 0),
  (16, .iconst 1, 1, 1, 0, 0, 0),
  (17, .if_icmp .eq 16, 3, 0, 33, 0, 0),
  (20, .aload_n 0, 1, 0, 0, 0, 0),
  (21, .getfield 62, 3, 0, 7, 0, 218),
  (24, .getfield 117, 3, 0, 4, 10, 109),
  (27, .iload_n 2, 1, 0, 2, 0, 0),
  (28, .iaload, 1, 0, 0, 0, 0),
  (29, .iconst 2, 1, 2, 0, 0, 0),
  (30, .if_icmp .ne 5, 3, 0, 35, 0, 0),
  (33, .iconst 0, 1, 0, 0, 0, 0),
  (34, .ireturn, 1, 0, 0, 0, 0),
  (35, .aload_n 0, 1, 0, 0, 0, 0),
  (36, .getfield 62, 3, 0, 7, 0, 218),
  (39, .getfield 120, 3, 0, 4, 15, 122),
  (42, .iload_n 1, 1, 0, 1, 0, 0),
  (43, .bipush 8, 2, 8, 0, 0, 0),
  (45, .imul, 1, 0, 0, 0, 0),
  (46, .iload_n 2, 1, 0, 2, 0, 0),
  (47, .iadd, 1, 0, 0, 0, 0),
  (48, .iaload, 1, 0, 0, 0, 0),
  (49, .istore 4, 2, 0, 4, 0, 0),
  (51, .aload_n 0, 1, 0, 0, 0, 0),
  (52, .getfield 28, 3, 0, 7, 7, 244),
  (55, .iload_n 1, 1, 0, 1, 0, 0),
  (56, .iaload, 1, 0, 0, 0, 0),
  (57, .aload_n 0, 1, 0, 0, 0, 0),
  (58, .getfield 28, 3, 0, 7, 7, 244),
  (61, .iload_n 2, 1, 0, 2, 0, 0),
  (62, .iaload, 1, 0, 0, 0, 0),
  (63, .if_icmp .eq 6, 3, 0, 69, 0, 0),
  (66, .iload 4, 2, 0, 4, 0, 0),
  (68, .ireturn, 1, 0, 0, 0, 0),
  (69, .aload_n 0, 1, 0, 0, 0, 0),
  (70, .getfield 62, 3, 0, 7, 0, 218),
  (73, .getfield 117, 3, 0, 4, 10, 109),
  (76, .iload_n 2, 1, 0, 2, 0, 0),
  (77, .iaload, 1, 0, 0, 0, 0),
  (78, .iconst 4, 1, 4, 0, 0, 0),
  (79, .if_icmp .ne 17, 3, 0, 96, 0, 0),
  (82, .iconst 2, 1, 2, 0, 0, 0),
  (83, .aload_n 0, 1, 0, 0, 0, 0),
  (84, .getfield 62, 3, 0, 7, 0, 218),
  (87, .getfield 123, 3, 0, 4, 9, 104),
  (90, .iload_n 2, 1, 0, 2, 0, 0),
  (91, .iaload, 1, 0, 0, 0, 0),
  (92, .imul, 1, 0, 0, 0, 0),
  (93, .goto 12, 3, 0, 105, 0, 0),
  (96, .aload_n 0, 1, 0, 0, 0, 0),
  (97, .getfield 62, 3, 0, 7, 0, 218),
  (100, .getfield 123, 3, 0, 4, 9, 104),
  (103, .iload_n 2, 1, 0, 2, 0, 0),
  (104, .iaload, 1, 0, 0, 0, 0),
  (105, .istore 5, 2, 0, 5, 0, 0),
  (107, .iconst 1, 1, 1, 0, 0, 0),
  (108, .aload_n 0, 1, 0, 0, 0, 0),
  (109, .getfield 31, 3, 0, 7, 8, 246),
  (112, .iload_n 1, 1, 0, 1, 0, 0),
  (113, .iaload, 1, 0, 0, 0, 0),
  (114, .aload_n 0, 1, 0, 0, 0, 0),
  (115, .getfield 31, 3, 0, 7, 8, 246),
  (118, .iload_n 2, 1, 0, 2, 0, 0),
  (119, .iaload, 1, 0, 0, 0, 0),
  (120, .isub, 1, 0, 0, 0, 0),
  (121, .invokestatic 126, 3, 0, 0, 0, 0),
  (124, .iadd, 1, 0, 0, 0, 0),
  (125, .istore 6, 2, 0, 6, 0, 0),
  (127, .iload 6, 2, 0, 6, 0, 0),
  (129, .iconst 1, 1, 1, 0, 0, 0),
  (130, .if_icmp .ge 8, 3, 0, 138, 0, 0),
  (133, .iload 4, 2, 0, 4, 0, 0),
  (135, .goto 29, 3, 0, 164, 0, 0),
  (138, .iload 5, 2, 0, 5, 0, 0),
  (140, .bipush 10, 2, 10, 0, 0, 0),
  (142, .aload_n 0, 1, 0, 0, 0, 0),
  (143, .getfield 62, 3, 0, 7, 0, 218),
  (146, .getfield 130, 3, 0, 4, 5, 87),
  (149, .aload_n 0, 1, 0, 0, 0, 0),
  (150, .getfield 28, 3, 0, 7, 7, 244),
  (153, .iload_n 1, 1, 0, 1, 0, 0),
  (154, .iaload, 1, 0, 0, 0, 0),
  (155, .iaload, 1, 0, 0, 0, 0),
  (156, .isub, 1, 0, 0, 0, 0),
  (157, .imul, 1, 0, 0, 0, 0),
  (158, .iload 6, 2, 0, 6, 0, 0),
  (160, .idiv, 1, 0, 0, 0, 0),
  (161, .iload 4, 2, 0, 4, 0, 0),
  (163, .iadd, 1, 0, 0, 0, 0),
  (164, .ireturn, 1, 0, 0, 0, 0)],
  [(1, 126, 1, 0, 0, pt_J9_abs_0f7a4)], [])
set_option maxRecDepth 100000 in
theorem vd_X7_hearingOf : md_X7_hearingOf.cd.all (cb_vE md_X7_hearingOf) = true := by decide +kernel
theorem wd_X7_hearingOf : cb_wd yX7_hearingOf md_X7_hearingOf := ⟨cb_tw (i := 449) (by decide +kernel), cb_tw (i := 5) (by decide +kernel), by decide, by decide⟩
theorem cs_X7_hearingOf : ∀ X, cb_Bs md_X7_hearingOf X → ∀ g ∈ md_X7_hearingOf.ga, cb_CS cb_tb md_X7_hearingOf X g := fun X B => List.forall_mem_cons.mpr ⟨cb_csS B ok_J9_abs_0f7a4 wd_J9_abs_0f7a4 (cb_tw (i := 450) (by decide +kernel)) (cb_tw (i := 451) (by decide +kernel)) ⟨by decide, by decide⟩ (by decide +kernel), fun _ h => nomatch h⟩
theorem ok_X7_hearingOf : cb_MOK cb_tb yX7_hearingOf md_X7_hearingOf pt_X7_hearingOf := by
  refine cb_okm ⟨plainFor_of_name (by decide), rfl⟩ (by decide) cs_X7_hearingOf (by decide) (fun X n f i r M hr ha h => ?_)
  have h0 := cb_a1 (T := 25) rfl ha
  subst h0
  match r, hr, h with
  | [.inl x, .inl y], hr, h =>
    obtain ⟨P, ⟨hP, hP2, hx, hy, hb, hf⟩, h⟩ := h
    have aP : ∀ t, cb_nth cb_cnt t 1 = 3 → cb_aS n t P = true := fun t ht => cb_aP hP2 ht
    obtain ⟨hxy, exy⟩ := cb_ix8 (n := 8) (k := 8) (m := 64) hx hy (by decide) (by decide) (by decide)
    have hf0 : ¬ (1 + wm_abs (cb_gI M 30 0 x.toNatClampNeg - cb_gI M 30 0 y.toNatClampNeg)) = 0 := fun q => by rw [q] at hf; exact absurd hf (by decide)
    have j105 : ∀ (w kx : Int32), ¬ (cb_gI M 9 P x.toNatClampNeg = 2 ∨ cb_gI M 9 P x.toNatClampNeg = 1 ∨ cb_gI M 9 P y.toNatClampNeg = 2) → cb_gI M 29 0 x.toNatClampNeg = cb_gI M 29 0 y.toNatClampNeg → w = (if cb_gI M 9 P y.toNatClampNeg = 4 then 2 * cb_gI M 8 P y.toNatClampNeg else cb_gI M 8 P y.toNatClampNeg) →
        cb_Gd cb_tb md_X7_hearingOf X 105 [some (cb_r 25 0), some (cb_i x), some (cb_i y), some (cb_i kx), some (cb_i (cb_gI M 14 P (x.toNatClampNeg * 8 + y.toNatClampNeg))), none, none] [cb_i w] (cb_aS n, f) M 0 0 := by
      intro w kx c1 c2 hw
      refine cb_run cb_tb_ok vd_X7_hearingOf (cuts := []) 60 ?_
      refine And.intro hx (And.intro hy (And.intro trivial (And.intro (fun h1 => ?_) (fun h1 => absurd hf h1))))
      refine Exists.intro (some P) (And.intro hP (cb_av.of (aP 3 rfl) (And.intro hx (cb_av.of (aP 4 rfl) (And.intro hb (And.intro hf0 (And.intro trivial (cb_eqK h (wm_hear_2 (c := wk_c M P 0) c1 c2 hw).symm))))))))
    refine cb_run cb_tb_ok vd_X7_hearingOf (cuts := [105]) 80 ?_
    refine Exists.intro (some P) (And.intro hP (cb_av.of (aP 3 rfl) (cb_av.of (aP 9 rfl) (And.intro hx (And.intro (fun h1 => ?_) (fun h1 => And.intro (fun h2 => ?_) (fun h2 => ?_)))))))
    · exact And.intro trivial (cb_eqK h (wm_hear_0 (c := wk_c M P 0) (Or.inl h1)).symm)
    · exact And.intro trivial (cb_eqK h (wm_hear_0 (c := wk_c M P 0) (Or.inr (Or.inl h2))).symm)
    refine Exists.intro (some P) (And.intro hP (cb_av.of (aP 3 rfl) (cb_av.of (aP 9 rfl) (And.intro hy (And.intro (fun h3 => ?_) (fun h3 => ?_))))))
    · have c1 : ¬ (cb_gI M 9 P x.toNatClampNeg = 2 ∨ cb_gI M 9 P x.toNatClampNeg = 1 ∨ cb_gI M 9 P y.toNatClampNeg = 2) := fun q => q.elim h1 fun q => q.elim h2 h3
      refine Exists.intro (some P) (And.intro hP (cb_av.of (aP 3 rfl) (cb_av.of (aP 14 rfl) (And.intro hxy (And.intro hx (And.intro hy (And.intro (fun h4 => ?_) (fun h4 => ?_))))))))
      · refine Exists.intro (some P) (And.intro hP (cb_av.of (aP 3 rfl) (cb_av.of (aP 9 rfl) (And.intro hy (And.intro (fun h5 => ?_) (fun h5 => ?_))))))
        · refine Exists.intro (some P) (And.intro hP (cb_av.of (aP 3 rfl) (cb_av.of (aP 8 rfl) (And.intro hy ?_))))
          have := j105 (cb_gI M 8 P y.toNatClampNeg) (cb_gI M 9 P x.toNatClampNeg) c1 h4 (by rw [if_neg h5])
          rw [← exy] at this
          exact this
        · refine Exists.intro (some P) (And.intro hP (cb_av.of (aP 3 rfl) (cb_av.of (aP 8 rfl) (And.intro hy ?_))))
          have := j105 (2 * cb_gI M 8 P y.toNatClampNeg) (cb_gI M 9 P x.toNatClampNeg) c1 h4 (by rw [if_pos (Classical.not_not.mp h5)])
          rw [← exy] at this
          exact this
      · refine And.intro trivial (cb_eqK h ?_)
        rw [wm_hear_1 (c := wk_c M P 0) c1 h4]
        show cb_gI M 14 P (x * nI 8 + y).toNatClampNeg = cb_gI M 14 P (x.toNatClampNeg * 8 + y.toNatClampNeg)
        rw [exy]
    · exact And.intro trivial (cb_eqK h (wm_hear_0 (c := wk_c M P 0) (Or.inr (Or.inr (Classical.not_not.mp h3)))).symm)
