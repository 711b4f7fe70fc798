/-! ===== the reference: days ===== -/
def mk_h (M : cb_M) : wm_C := (0, cb_gI M 68 0, cb_gI M 64 0, cb_gI M 65 0, cb_gI M 67 0, cb_gI M 51 0, cb_gI M 55 0, cb_gI M 66 0, fun i j => cb_gI M 63 i j)
def mk_c (M : cb_M) (n : Nat) : wn_C := (n, wn_tr n (cb_gI M 68 0), wn_tr n (cb_gI M 64 0), wn_tr n (cb_gI M 67 0), wn_tr n (cb_gI M 55 0), wn_tr n (cb_gI M 66 0), fun i j => if i < n ∧ j < n then wm_hear (mk_h M) i j else 0)
def mk_u (M : cb_M) (n : Nat) : wm_U := (fun i => decide (i < n) && cb_bit (cb_gI M 46 0 41) i, decide (¬ cb_gI M 46 0 45 = 0))
def mk_s (M : cb_M) (n : Nat) : wm_S := (cb_gI M 46 0 42, wn_tr n (cb_gI M 80 0), wn_tr n (cb_gI M 81 0))
def mk_b (M : cb_M) (n : Nat) : wm_S := (cb_gI M 46 0 33, wn_tr n (cb_gI M 69 0), wn_tr n (cb_gI M 70 0))
def mk_G (M : cb_M) (n : Nat) : Prop := cb_gI M 49 0 1 = nI n ∧ n ≤ 8 ∧ ∀ i, i < n → vp_in (cb_gI M 64 0 i) 4 ∧ vp_in (cb_gI M 65 0 i) 20 ∧ 1 ≤ 100 * cb_gI M 67 0 i ∧ ∃ k, 1 ≤ k ∧ k ≤ 30 ∧ cb_gI M 55 0 i = nI k
def mk_P (M : cb_M) (n : Nat) : Prop := ∀ i, i < n → wm_ph (cb_gI M 80 0 i)
theorem mk_rem {d k : Nat} (hd : d < 2 ^ 31) (h1 : 1 ≤ k) (h2 : k ≤ 30) : (nI k ≤ 8 ∨ cb_rem (nI d) (nI k) < 8) ↔ cb_rem (nI d) (nI k) < 8 := by
  have hk : (nI k).toInt = (k : Int) := nI_toInt (by omega)
  have hr := cb_rem_int (nI d) (y := nI k) (by rw [hk]; omega)
  rw [nI_toInt hd, hk] at hr
  constructor
  · rintro (h | h)
    · have h : k ≤ 8 := (nI_leI (b := 8) (by omega) (by decide)).mp h
      rw [Int32.lt_iff_toInt_lt, hr]
      have := Int.tmod_lt_of_pos (d : Int) (show (0 : Int) < k by omega)
      have e8 : (8 : Int32).toInt = 8 := rfl
      omega
    · exact h
  · exact Or.inr
theorem mk_run {M : cb_M} {n i d : Nat} (hG : mk_G M n) (hi : i < n) (hd : d < 2 ^ 31) : wn_run (mk_c M n) (mk_u M n) (nI d) i = (cb_bit (cb_gI M 46 0 41) i && (decide (¬ cb_gI M 46 0 45 = 0) || decide (cb_rem (nI d) (cb_gI M 55 0 i) < 8))) := by
  obtain ⟨k, k1, k2, ek⟩ := (hG.2.2 i hi).2.2.2
  unfold wn_run
  show ((decide (i < n) && cb_bit (cb_gI M 46 0 41) i) && (decide (¬ cb_gI M 46 0 45 = 0) || decide (wn_tr n (cb_gI M 55 0) i ≤ 8 ∨ cb_rem (nI d) (wn_tr n (cb_gI M 55 0) i) < 8))) = _
  rw [decide_eq_true hi, Bool.true_and, wn_tr_lt hi, ek]
  congr 2
  exact decide_eq_decide.mpr (mk_rem hd k1 k2)
theorem mk_k0 {M : cb_M} {n i : Nat} (hG : mk_G M n) (hi : i < n) : ¬ cb_gI M 55 0 i = 0 := by
  obtain ⟨k, k1, k2, ek⟩ := (hG.2.2 i hi).2.2.2
  rw [ek]
  exact nI_ne0 (by omega) (by omega)
def sp_X10_isStopped : cb_Sp := fun _ r M K => match r with
  | [.inl x] => ∃ n i d, (mk_G M n ∧ x = nI i ∧ i < n ∧ cb_gI M 46 0 42 = nI d ∧ d < 2 ^ 31) ∧ K (some (cb_i (cb_z (wn_stp (mk_c M n) (mk_u M n) (mk_s M n).1 (mk_s M n).2.1 i)))) M
  | _ => False
def pt_X10_isStopped : cb_PT := cb_m 46 1 sp_X10_isStopped
theorem rc_X10_isStopped : cb_rc cb_tb RX10 pt_X10_isStopped := cb_m_rc rfl rfl
def md_X10_isStopped : cb_D := (RX10, cX10_isStopped, 3, (some .boolean), (0, 0, 1, 22), [
  (0, .iconst 0, 1, 0, 0, 0, 0),
  (1, .istore_n 2, 1, 0, 2, 0, 0),
  (2, .iload_n 2, 1, 0, 2, 0, 0),
  (3, .aload_n 0, 1, 0, 0, 0, 0),
  (4, .getfield 20, 3, 0, 10, 10, 1338),
  (7, .iconst 1, 1, 1, 0, 0, 0),
  (8, .iaload, 1, 0, 0, 0, 0),
  (9, .if_icmp .ge 72, 3, 0, 81, 0, 0),
  (12, .iload_n 2, 1, 0, 2, 0, 0),
  (13, .iload_n 1, 1, 0, 1, 0, 0),
  (14, .if_icmp .eq 61, 3, 0, 75, 0, 0),
  (17, .aload_n 0, 1, 0, 0, 0, 0),
  (18, .iload_n 2, 1, 0, 2, 0, 0),
  (19, .invokevirtual 220, 3, 0, 0, 0, 0),
  (22, .ifCond .eq 53, 3, 0, 75, 0, 0),
  (25, .aload_n 0, 1, 0, 0, 0, 0),
  (26, .getfield 67, 3, 0, 10, 25, 1353),
  (29, .iload_n 2, 1, 0, 2, 0, 0),
  (30, .iaload, 1, 0, 0, 0, 0),
  (31, .iconst 3, 1, 3, 0, 0, 0),
  (32, .if_icmp .ne 43, 3, 0, 75, 0, 0),
  (35, .aload_n 0, 1, 0, 0, 0, 0),
  (36, .getfield 55, 3, 0, 10, 21, 1349),
  (39, .iload_n 2, 1, 0, 2, 0, 0),
  (40, .iaload, 1, 0, 0, 0, 0),
  (41, .aload_n 0, 1, 0, 0, 0, 0),
  (42, .getfield 55, 3, 0, 10, 21, 1349),
  (45, .iload_n 1, 1, 0, 1, 0, 0),
  (46, .iaload, 1, 0, 0, 0, 0),
  (47, .if_icmp .ne 28, 3, 0, 75, 0, 0),
  (50, .aload_n 0, 1, 0, 0, 0, 0),
  (51, .iload_n 2, 1, 0, 2, 0, 0),
  (52, .aload_n 0, 1, 0, 0, 0, 0),
  (53, .getfield 223, 3, 0, 10, 42, 1370),
  (56, .invokevirtual 226, 3, 0, 1, 0, 0),
  (59, .ifCond .eq 16, 3, 0, 75, 0, 0),
  (62, .aload_n 0, 1, 0, 0, 0, 0),
  (63, .getfield 94, 3, 0, 10, 37, 1365),
  (66, .iload_n 2, 1, 0, 2, 0, 0),
  (67, .iaload, 1, 0, 0, 0, 0),
  (68, .bipush 50, 2, 50, 0, 0, 0),
  (70, .if_icmp .ge 5, 3, 0, 75, 0, 0),
  (73, .iconst 1, 1, 1, 0, 0, 0),
  (74, .ireturn, 1, 0, 0, 0, 0),
  (75, .iinc 2 1, 3, 1, 2, 0, 0),
  (78, .goto (-76), 3, 0, 2, 0, 0),
  (81, .iconst 0, 1, 0, 0, 0, 0),
  (82, .ireturn, 1, 0, 0, 0, 0)],
  [(0, 220, 2, 0, 0, pt_X10_hangsNow), (0, 226, 3, 0, 0, pt_X10_runs)], [])
set_option maxRecDepth 100000 in
theorem vd_X10_isStopped : md_X10_isStopped.cd.all (cb_vE md_X10_isStopped) = true := by decide +kernel
theorem wd_X10_isStopped : cb_wd yX10_isStopped md_X10_isStopped := ⟨cb_tw (i := 1596) (by decide +kernel), cb_tw (i := 11) (by decide +kernel), by decide, by decide⟩
theorem cs_X10_isStopped : ∀ X, cb_Bs md_X10_isStopped X → ∀ g ∈ md_X10_isStopped.ga, cb_CS cb_tb md_X10_isStopped X g := fun X B => List.forall_mem_cons.mpr ⟨cb_csV B ok_X10_hangsNow wd_X10_hangsNow (cb_tw (i := 1597) (by decide +kernel)) (cb_tw (i := 1599) (by decide +kernel)) (cb_tp (i := 62) (by decide +kernel)) rc_X10_hangsNow ⟨by decide, by decide⟩ (by decide +kernel), List.forall_mem_cons.mpr ⟨cb_csV B ok_X10_runs wd_X10_runs (cb_tw (i := 1589) (by decide +kernel)) (cb_tw (i := 1591) (by decide +kernel)) (cb_tp (i := 60) (by decide +kernel)) rc_X10_runs ⟨by decide, by decide⟩ (by decide +kernel), fun _ h => nomatch h⟩⟩
theorem ok_X10_isStopped : cb_MOK cb_tb yX10_isStopped md_X10_isStopped pt_X10_isStopped := by
  refine cb_okm ⟨plainFor_of_name (by decide), rfl⟩ (by decide) cs_X10_isStopped (by decide) (fun X n0 f i r M hr ha h => ?_)
  have h0 := cb_a1 (T := 46) rfl ha
  subst h0
  match r, hr, h with
  | [.inl x], hr, h =>
    obtain ⟨n, i, d, ⟨hG, rfl, hi, hday, hd⟩, h⟩ := h
    obtain ⟨hn, hn8, hv⟩ := id hG
    have hic : (nI i).toNatClampNeg = i := nI_clamp (by omega)
    have hi8 : vp_in (nI i) 8 := cb_in8 hi hn8 (by decide)
    obtain ⟨g, hg⟩ : ∃ g : Nat → Bool, g = fun j => decide (j ≠ i) && (decide ((mk_c M n).kd j = 3) && (decide ((mk_c M n).bd j = (mk_c M n).bd i) && (wn_run (mk_c M n) (mk_u M n) (mk_s M n).1 j && decide ((mk_s M n).2.1 j < 50)))) := ⟨_, rfl⟩
    have h : X.K (.inl (some (cb_i (cb_z ((List.range n).any g))))) (cb_aS n0, f) M := by rw [hg]; exact h
    have gv : ∀ j, j < n → g j = (decide (j ≠ i) && (decide (cb_gI M 68 0 j = 3) && (decide (cb_gI M 64 0 j = cb_gI M 64 0 i) && ((cb_bit (cb_gI M 46 0 41) j && (decide (¬ cb_gI M 46 0 45 = 0) || decide (cb_rem (cb_gI M 46 0 42) (cb_gI M 55 0 j) < 8))) && decide (cb_gI M 80 0 j < 50))))) := fun j hj => by
      rw [hg]
      show (decide (j ≠ i) && (decide (wn_tr n (cb_gI M 68 0) j = 3) && (decide (wn_tr n (cb_gI M 64 0) j = wn_tr n (cb_gI M 64 0) i) && (wn_run (mk_c M n) (mk_u M n) (cb_gI M 46 0 42) j && decide (wn_tr n (cb_gI M 80 0) j < 50))))) = _
      rw [wn_tr_lt hj, wn_tr_lt hj, wn_tr_lt hi, wn_tr_lt hj, hday, mk_run hG hj hd]
    have loop : ∀ j, j ≤ n → ∀ y : Int32, y = nI j → (List.range j).any g = false → cb_Gd cb_tb md_X10_isStopped X 2 [some (cb_r 46 0), some (cb_i (nI i)), some (cb_i (y))] [] (cb_aS n0, f) M 0 0 := by
      refine cb_up (fun j => ∀ y : Int32, y = nI j → (List.range j).any g = false → cb_Gd cb_tb md_X10_isStopped X 2 [some (cb_r 46 0), some (cb_i (nI i)), some (cb_i (y))] [] (cb_aS n0, f) M 0 0) ?_ ?_
      · intro y hy hz
        refine cb_run cb_tb_ok vd_X10_isStopped (cuts := [2, 75]) 90 ?_
        refine And.intro (mi_v 1 (by decide)) (cb_lout hy hn (And.intro cb_rt0 ?_))
        rw [hz] at h
        exact h
      · intro j hj ih y hy hz
        subst hy
        have hjc : (nI j).toNatClampNeg = j := nI_clamp (by omega)
        have hj8 : vp_in (nI j) 8 := cb_in8 hj hn8 (by decide)
        have nx : g j = false → cb_Gd cb_tb md_X10_isStopped X 75 [some (cb_r 46 0), some (cb_i (nI i)), some (cb_i (nI j))] [] (cb_aS n0, f) M 0 0 := fun q => by
          refine cb_run cb_tb_ok vd_X10_isStopped (cuts := [2]) 90 ?_
          exact ih _ (nI_1 j) (by rw [cb_any_succ, hz, q]; rfl)
        refine cb_run cb_tb_ok vd_X10_isStopped (cuts := [2, 75]) 90 ?_
        refine And.intro (mi_v 1 (by decide)) (cb_lin rfl hn hj (by omega) (And.intro (fun q => nx ?_) (fun q => And.intro (cb_on rfl) ⟨j, ⟨rfl, by omega⟩, cb_ifz (fun q1 => nx ?_) (fun q1 => And.intro hj8 (cb_ifne (fun q2 => nx ?_) (fun q2 => And.intro hj8 (And.intro hi8 (cb_ifne (fun q3 => nx ?_) (fun q3 => And.intro (cb_on rfl) ⟨j, ⟨rfl, by omega, mk_k0 hG hj⟩, cb_ifz (fun q4 => nx ?_) (fun q4 => And.intro hj8 (cb_ifge (fun q5 => nx ?_) (fun q5 => And.intro cb_rt1 ?_)))⟩))))))⟩)))
        · have q : j = i := (nI_eq (by omega) (by omega)).mp q
          rw [gv j hj, decide_eq_false (fun w => w q)]
          rfl
        · rw [gv j hj, q1]
          simp
        · rw [hjc] at q2
          rw [gv j hj, decide_eq_false q2]
          simp
        · rw [hjc, hic] at q3
          rw [gv j hj, decide_eq_false q3]
          simp
        · rw [gv j hj, q4]
          simp
        · have q5 : 50 ≤ cb_gI M 80 0 (nI j).toNatClampNeg := q5
          rw [hjc] at q5
          rw [gv j hj, decide_eq_false (Int32.not_lt.mpr q5)]
          simp
        · have q5 : cb_gI M 80 0 (nI j).toNatClampNeg < 50 := q5
          rw [hjc] at q5 q2 q3
          rw [hic] at q3
          have q : ¬ nI j = nI i := q
          have q : ¬ j = i := fun w => q (by rw [w])
          have : (List.range n).any g = true := cb_any_hit hj (by rw [gv j hj, decide_eq_true q, decide_eq_true q2, decide_eq_true q3, q1, q4, decide_eq_true q5]; rfl)
          rw [this] at h
          exact h
    exact cb_run cb_tb_ok vd_X10_isStopped (cuts := [2]) 40 (loop 0 (Nat.zero_le _) _ rfl rfl)
theorem mi_far_abs : ∀ a, a < 20 → ∀ b, b < 20 → mi_far (nI a) (nI b) = wm_abs (nI a - nI b) := by decide +kernel
def sp_X10_hearingOf : cb_Sp := fun _ r M K => match r with
  | [.inl x, .inl y] => ∃ n i j, (mk_G M n ∧ x = nI i ∧ i < n ∧ y = nI j ∧ j < n) ∧ K (some (cb_i (wm_hear (mk_h M) i j))) M
  | _ => False
def pt_X10_hearingOf : cb_PT := cb_m 46 2 sp_X10_hearingOf
theorem rc_X10_hearingOf : cb_rc cb_tb RX10 pt_X10_hearingOf := cb_m_rc rfl rfl
def md_X10_hearingOf : cb_D := (RX10, cX10_hearingOf, 4, (some .int), (0, 0, 1, 21), [
  (0, .aload_n 0, 1, 0, 0, 0, 0),
  (1, .getfield 67, 3, 0, 10, 25, 1353),
  (4, .iload_n 1, 1, 0, 1, 0, 0),
  (5, .iaload, 1, 0, 0, 0, 0),
  (6, .iconst 1, 1, 1, 0, 0, 0),
  (7, .if_icmp .eq 23, 3, 0, 30, 0, 0),
  (10, .aload_n 0, 1, 0, 0, 0, 0),
  (11, .getfield 67, 3, 0, 10, 25, 1353),
  (14, .iload_n 1, 1, 0, 1, 0, 0),
  (15, .iaload, 1, 0, 0, 0, 0),
  (16, .iconst 2, 1, 2, 0, 0, 0),
  (17, .if_icmp .eq 13, 3, 0, 30, 0, 0),
  (20, .aload_n 0, 1, 0, 0, 0, 0),
  (21, .getfield 67, 3, 0, 10, 25, 1353),
  (24, .iload_n 2, 1, 0, 2, 0, 0),
  (25, .iaload, 1, 0, 0, 0, 0),
  (26, .iconst 2, 1, 2, 0, 0, 0),
  (27, .if_icmp .ne 5, 3, 0, 32, 0, 0),
  (30, .iconst 0, 1, 0, 0, 0, 0),
  (31, .ireturn, 1, 0, 0, 0, 0),
  (32, .aload_n 0, 1, 0, 0, 0, 0),
  (33, .getfield 55, 3, 0, 10, 21, 1349),
  (36, .iload_n 1, 1, 0, 1, 0, 0),
  (37, .iaload, 1, 0, 0, 0, 0),
  (38, .aload_n 0, 1, 0, 0, 0, 0),
  (39, .getfield 55, 3, 0, 10, 21, 1349),
  (42, .iload_n 2, 1, 0, 2, 0, 0),
  (43, .iaload, 1, 0, 0, 0, 0),
  (44, .if_icmp .eq 7, 3, 0, 51, 0, 0),
  (47, .iconst 0, 1, 0, 0, 0, 0),
  (48, .goto 58, 3, 0, 106, 0, 0),
  (51, .aload_n 0, 1, 0, 0, 0, 0),
  (52, .getfield 67, 3, 0, 10, 25, 1353),
  (55, .iload_n 2, 1, 0, 2, 0, 0),
  (56, .iaload, 1, 0, 0, 0, 0),
  (57, .iconst 4, 1, 4, 0, 0, 0),
  (58, .if_icmp .ne 7, 3, 0, 65, 0, 0),
  (61, .iconst 2, 1, 2, 0, 0, 0),
  (62, .goto 4, 3, 0, 66, 0, 0),
  (65, .iconst 1, 1, 1, 0, 0, 0),
  (66, .aload_n 0, 1, 0, 0, 0, 0),
  (67, .getfield 64, 3, 0, 10, 24, 1352),
  (70, .iload_n 2, 1, 0, 2, 0, 0),
  (71, .iaload, 1, 0, 0, 0, 0),
  (72, .imul, 1, 0, 0, 0, 0),
  (73, .bipush 10, 2, 10, 0, 0, 0),
  (75, .aload_n 0, 1, 0, 0, 0, 0),
  (76, .getfield 26, 3, 0, 10, 12, 1340),
  (79, .aload_n 0, 1, 0, 0, 0, 0),
  (80, .getfield 55, 3, 0, 10, 21, 1349),
  (83, .iload_n 1, 1, 0, 1, 0, 0),
  (84, .iaload, 1, 0, 0, 0, 0),
  (85, .iaload, 1, 0, 0, 0, 0),
  (86, .isub, 1, 0, 0, 0, 0),
  (87, .imul, 1, 0, 0, 0, 0),
  (88, .iconst 1, 1, 1, 0, 0, 0),
  (89, .aload_n 0, 1, 0, 0, 0, 0),
  (90, .getfield 58, 3, 0, 10, 22, 1350),
  (93, .iload_n 1, 1, 0, 1, 0, 0),
  (94, .iaload, 1, 0, 0, 0, 0),
  (95, .aload_n 0, 1, 0, 0, 0, 0),
  (96, .getfield 58, 3, 0, 10, 22, 1350),
  (99, .iload_n 2, 1, 0, 2, 0, 0),
  (100, .iaload, 1, 0, 0, 0, 0),
  (101, .invokestatic 229, 3, 0, 0, 0, 0),
  (104, .iadd, 1, 0, 0, 0, 0),
  (105, .idiv, 1, 0, 0, 0, 0),
  (106, .istore_n 3, 1, 0, 3, 0, 0),
  (107, .iload_n 3, 1, 0, 3, 0, 0),
  (108, .aload_n 0, 1, 0, 0, 0, 0),
  (109, .getfield 52, 3, 0, 10, 20, 1348),
  (112, .iload_n 1, 1, 0, 1, 0, 0),
  (113, .aaload, 1, 0, 0, 0, 0),
  (114, .iload_n 2, 1, 0, 2, 0, 0),
  (115, .iaload, 1, 0, 0, 0, 0),
  (116, .iadd, 1, 0, 0, 0, 0),
  (117, .ireturn, 1, 0, 0, 0, 0)],
  [(1, 229, 2, 0, 0, pt_X10_far)], [])
set_option maxRecDepth 100000 in
theorem vd_X10_hearingOf : md_X10_hearingOf.cd.all (cb_vE md_X10_hearingOf) = true := by decide +kernel
theorem wd_X10_hearingOf : cb_wd yX10_hearingOf md_X10_hearingOf := ⟨cb_tw (i := 1612) (by decide +kernel), cb_tw (i := 11) (by decide +kernel), by decide, by decide⟩
theorem cs_X10_hearingOf : ∀ X, cb_Bs md_X10_hearingOf X → ∀ g ∈ md_X10_hearingOf.ga, cb_CS cb_tb md_X10_hearingOf X g := fun X B => List.forall_mem_cons.mpr ⟨cb_csS B ok_X10_far wd_X10_far (cb_tw (i := 1613) (by decide +kernel)) (cb_tw (i := 1614) (by decide +kernel)) ⟨by decide, by decide⟩ (by decide +kernel), fun _ h => nomatch h⟩
theorem ok_X10_hearingOf : cb_MOK cb_tb yX10_hearingOf md_X10_hearingOf pt_X10_hearingOf := by
  refine cb_okm ⟨plainFor_of_name (by decide), rfl⟩ (by decide) cs_X10_hearingOf (by decide) (fun X n0 f i r M hr ha h => ?_)
  have h0 := cb_a1 (T := 46) rfl ha
  subst h0
  match r, hr, h with
  | [.inl x, .inl y], hr, h =>
    obtain ⟨n, i, j, ⟨hG, rfl, hi, rfl, hj⟩, h⟩ := h
    obtain ⟨hn, hn8, hv⟩ := id hG
    have hic : (nI i).toNatClampNeg = i := nI_clamp (by omega)
    have hi8 : vp_in (nI i) 8 := cb_in8 hi hn8 (by decide)
    have hjc : (nI j).toNatClampNeg = j := nI_clamp (by omega)
    have hj8 : vp_in (nI j) 8 := cb_in8 hj hn8 (by decide)
    have h : X.K (.inl (some (cb_i (if cb_gI M 68 0 i = 2 ∨ cb_gI M 68 0 i = 1 ∨ cb_gI M 68 0 j = 2 then 0 else if ¬ cb_gI M 64 0 i = cb_gI M 64 0 j then cb_gI M 63 i j else (if cb_gI M 68 0 j = 4 then 2 * cb_gI M 67 0 j else cb_gI M 67 0 j) * (10 - cb_gI M 51 0 (cb_gI M 64 0 i).toNatClampNeg) / (1 + wm_abs (cb_gI M 65 0 i - cb_gI M 65 0 j)) + cb_gI M 63 i j)))) (cb_aS n0, f) M := h
    have ai : cb_aS n0 63 i = true := by
      show Nat.blt i 8 = true
      exact Nat.blt_eq.mpr (by omega)
    have zero : (cb_gI M 68 0 i = 2 ∨ cb_gI M 68 0 i = 1 ∨ cb_gI M 68 0 j = 2) → X.K (.inl (some (cb_i 0))) (cb_aS n0, f) M := fun w => by
      rw [if_pos w] at h
      exact h
    have efar : mi_far (cb_gI M 65 0 i) (cb_gI M 65 0 j) = wm_abs (cb_gI M 65 0 i - cb_gI M 65 0 j) := by
      obtain ⟨a, ha, ea, -⟩ := cb_idx (hv i hi).2.1 (by decide)
      obtain ⟨b, hb, eb, -⟩ := cb_idx (hv j hj).2.1 (by decide)
      rw [ea, eb]
      exact mi_far_abs a ha b hb
    have hne : ¬ 1 + mi_far (cb_gI M 65 0 i) (cb_gI M 65 0 j) = 0 := by
      rw [efar]
      have := wm_near (hv i hi).2.1 (hv j hj).2.1
      intro w
      rw [w] at this
      exact absurd this (by decide)
    have tail : ∀ v : Int32, X.K (.inl (some (cb_i (v + cb_gI M 63 i j)))) (cb_aS n0, f) M → cb_Gd cb_tb md_X10_hearingOf X 106 [some (cb_r 46 0), some (cb_i (nI i)), some (cb_i (nI j)), none] [] (cb_aS n0, f) M 0 0 → True := fun _ _ _ => trivial
    refine cb_run cb_tb_ok vd_X10_hearingOf (cuts := [30, 66]) 90 ?_
    refine And.intro hi8 (And.intro (fun q => ?_) (fun q => And.intro hi8 (And.intro (fun q1 => ?_) (fun q1 => And.intro hj8 (cb_ifne (fun q2 => And.intro hi8 (And.intro hj8 (And.intro (fun q3 => ?_) (fun q3 => ?_)))) (fun q2 => ?_))))))
    · have q : cb_gI M 68 0 (nI i).toNatClampNeg = 1 := q
      rw [hic] at q
      refine cb_run cb_tb_ok vd_X10_hearingOf (cuts := []) 90 ?_
      exact And.intro trivial (zero (Or.inr (Or.inl q)))
    · have q1 : cb_gI M 68 0 (nI i).toNatClampNeg = 2 := q1
      rw [hic] at q1
      refine cb_run cb_tb_ok vd_X10_hearingOf (cuts := []) 90 ?_
      exact And.intro trivial (zero (Or.inl q1))
    · have q : ¬ cb_gI M 68 0 (nI i).toNatClampNeg = 1 := q
      have q1 : ¬ cb_gI M 68 0 (nI i).toNatClampNeg = 2 := q1
      have q3 : cb_gI M 64 0 (nI i).toNatClampNeg = cb_gI M 64 0 (nI j).toNatClampNeg := q3
      rw [hic] at q q1
      rw [hjc] at q2
      rw [hic, hjc] at q3
      rw [if_neg (fun w => w.elim q1 (fun w => w.elim q q2)), if_neg (fun w => w q3)] at h
      have go : ∀ m : Int32, m * cb_gI M 67 0 j = (if cb_gI M 68 0 j = 4 then 2 * cb_gI M 67 0 j else cb_gI M 67 0 j) → cb_Gd cb_tb md_X10_hearingOf X 66 [some (cb_r 46 0), some (cb_i (nI i)), some (cb_i (nI j)), none] [cb_i m] (cb_aS n0, f) M 0 0 := by
        intro m hm
        rw [← hm] at h
        refine cb_run cb_tb_ok vd_X10_hearingOf (cuts := []) 90 ?_
        refine And.intro hj8 (And.intro hi8 (And.intro ?_ (And.intro hi8 (And.intro hj8 (And.intro trivial (And.intro ?_ (And.intro hi8 (cb_av.of ?_ (And.intro hj8 (And.intro trivial ?_))))))))))
        · rw [hic]
          exact (hv i hi).1
        · rw [hic, hjc]
          exact hne
        · rw [hic]
          exact ai
        · refine cb_eqK h ?_
          show m * cb_gI M 67 0 (nI j).toNatClampNeg * (10 - cb_gI M 51 0 (cb_gI M 64 0 (nI i).toNatClampNeg).toNatClampNeg) / (1 + mi_far (cb_gI M 65 0 (nI i).toNatClampNeg) (cb_gI M 65 0 (nI j).toNatClampNeg)) + cb_gI M 63 (nI i).toNatClampNeg (nI j).toNatClampNeg = _
          rw [hic, hjc, efar]
      refine And.intro hj8 (cb_ifne (fun q4 => ?_) (fun q4 => ?_))
      · rw [hjc] at q4
        exact go 1 (by rw [if_neg q4, Int32.one_mul])
      · rw [hjc] at q4
        exact go 2 (by rw [if_pos q4])
    · have q : ¬ cb_gI M 68 0 (nI i).toNatClampNeg = 1 := q
      have q1 : ¬ cb_gI M 68 0 (nI i).toNatClampNeg = 2 := q1
      have q3 : ¬ cb_gI M 64 0 (nI i).toNatClampNeg = cb_gI M 64 0 (nI j).toNatClampNeg := q3
      rw [hic] at q q1
      rw [hjc] at q2
      rw [hic, hjc] at q3
      rw [if_neg (fun w => w.elim q1 (fun w => w.elim q q2)), if_pos q3] at h
      refine And.intro hi8 (cb_av.of (by rw [hic]; exact ai) (And.intro hj8 (And.intro trivial (cb_eqK h ?_))))
      show 0 + cb_gI M 63 (nI i).toNatClampNeg (nI j).toNatClampNeg = _
      rw [hic, hjc, Int32.zero_add]
    · rw [hjc] at q2
      refine cb_run cb_tb_ok vd_X10_hearingOf (cuts := []) 90 ?_
      exact And.intro trivial (zero (Or.inr (Or.inr q2)))
/-- what pulls on i, by those that go -/
def mk_pl (M : cb_M) (n : Nat) (g : Nat → Bool) (i : Nat) : Int32 := wn_cut (wm_sum (fun j => if ¬ j = i ∧ g j = true then (mk_c M n).he i j * wn_T (mk_s M n).2.1 i j else 0) n) ((mk_c M n).wt i)
def sp_X10_pullOn : cb_Sp := fun _ r M K => match r with
  | [.inl x] => ∃ n i g, (mk_G M n ∧ mk_P M n ∧ x = nI i ∧ i < n ∧ ∀ j, j < n → cb_gI M 83 0 j = cb_z (g j)) ∧ K (some (cb_i (mk_pl M n g i))) M
  | _ => False
theorem mk_cut {x : Int32} : (x ≤ 200 → ¬ -200 ≤ x → wm_max (-200) (wm_min 200 x) = -200) ∧ (x ≤ 200 → -200 ≤ x → wm_max (-200) (wm_min 200 x) = x) ∧ (¬ x ≤ 200 → wm_max (-200) (wm_min 200 x) = 200) := by
  unfold wm_max wm_min
  have e : (200 : Int32).toInt = 200 := rfl
  have e2 : (-200 : Int32).toInt = -200 := rfl
  refine ⟨fun h1 h2 => ?_, fun h1 h2 => ?_, fun h1 => ?_⟩
  · rw [Int32.le_iff_toInt_le] at h1 h2
    rw [if_pos (show x < 200 by rw [Int32.lt_iff_toInt_lt]; omega), if_neg (show ¬ -200 < x by rw [Int32.lt_iff_toInt_lt]; omega)]
  · by_cases q : x < 200
    · rw [if_pos q]
      by_cases q2 : -200 < x
      · rw [if_pos q2]
      · rw [if_neg q2]
        exact (Int32.le_antisymm (Int32.not_lt.mp q2) h2).symm
    · rw [if_neg q, if_pos (by decide)]
      exact (Int32.le_antisymm h1 (Int32.not_lt.mp q)).symm
  · rw [Int32.le_iff_toInt_le] at h1
    rw [if_neg (show ¬ x < 200 by rw [Int32.lt_iff_toInt_lt]; omega), if_pos (by decide)]
def pt_X10_pullOn : cb_PT := cb_m 46 1 sp_X10_pullOn
theorem rc_X10_pullOn : cb_rc cb_tb RX10 pt_X10_pullOn := cb_m_rc rfl rfl
def md_X10_pullOn : cb_D := (RX10, cX10_pullOn, 5, (some .int), (0, 0, 2, 44), [
  (0, .iconst 0, 1, 0, 0, 0, 0),
  (1, .istore_n 2, 1, 0, 2, 0, 0),
  (2, .iconst 0, 1, 0, 0, 0, 0),
  (3, .istore_n 3, 1, 0, 3, 0, 0),
  (4, .iload_n 3, 1, 0, 3, 0, 0),
  (5, .aload_n 0, 1, 0, 0, 0, 0),
  (6, .getfield 20, 3, 0, 10, 10, 1338),
  (9, .iconst 1, 1, 1, 0, 0, 0),
  (10, .iaload, 1, 0, 0, 0, 0),
  (11, .if_icmp .ge 89, 3, 0, 100, 0, 0),
  (14, .iload_n 3, 1, 0, 3, 0, 0),
  (15, .iload_n 1, 1, 0, 1, 0, 0),
  (16, .if_icmp .eq 78, 3, 0, 94, 0, 0),
  (19, .aload_n 0, 1, 0, 0, 0, 0),
  (20, .getfield 103, 3, 0, 10, 40, 1368),
  (23, .iload_n 3, 1, 0, 3, 0, 0),
  (24, .baload, 1, 0, 0, 0, 0),
  (25, .ifCond .ne 6, 3, 0, 31, 0, 0),
  (28, .goto 66, 3, 0, 94, 0, 0),
  (31, .aload_n 0, 1, 0, 0, 0, 0),
  (32, .getfield 94, 3, 0, 10, 37, 1365),
  (35, .iload_n 1, 1, 0, 1, 0, 0),
  (36, .iaload, 1, 0, 0, 0, 0),
  (37, .aload_n 0, 1, 0, 0, 0, 0),
  (38, .getfield 94, 3, 0, 10, 37, 1365),
  (41, .iload_n 3, 1, 0, 3, 0, 0),
  (42, .iaload, 1, 0, 0, 0, 0),
  (43, .invokestatic 236, 3, 0, 0, 0, 0),
  (46, .istore 4, 2, 0, 4, 0, 0),
  (48, .iload_n 2, 1, 0, 2, 0, 0),
  (49, .aload_n 0, 1, 0, 0, 0, 0),
  (50, .iload_n 1, 1, 0, 1, 0, 0),
  (51, .iload_n 3, 1, 0, 3, 0, 0),
  (52, .invokevirtual 239, 3, 0, 1, 0, 0),
  (55, .iload 4, 2, 0, 4, 0, 0),
  (57, .sipush 250, 3, 250, 0, 0, 0),
  (60, .if_icmp .le 12, 3, 0, 72, 0, 0),
  (63, .iload 4, 2, 0, 4, 0, 0),
  (65, .sipush 500, 3, 500, 0, 0, 0),
  (68, .isub, 1, 0, 0, 0, 0),
  (69, .goto 22, 3, 0, 91, 0, 0),
  (72, .iload 4, 2, 0, 4, 0, 0),
  (74, .sipush (-250), 3, (-250), 0, 0, 0),
  (77, .if_icmp .ge 12, 3, 0, 89, 0, 0),
  (80, .iload 4, 2, 0, 4, 0, 0),
  (82, .sipush 500, 3, 500, 0, 0, 0),
  (85, .iadd, 1, 0, 0, 0, 0),
  (86, .goto 5, 3, 0, 91, 0, 0),
  (89, .iload 4, 2, 0, 4, 0, 0),
  (91, .imul, 1, 0, 0, 0, 0),
  (92, .iadd, 1, 0, 0, 0, 0),
  (93, .istore_n 2, 1, 0, 2, 0, 0),
  (94, .iinc 3 1, 3, 1, 3, 0, 0),
  (97, .goto (-93), 3, 0, 4, 0, 0),
  (100, .iload_n 2, 1, 0, 2, 0, 0),
  (101, .bipush 100, 2, 100, 0, 0, 0),
  (103, .aload_n 0, 1, 0, 0, 0, 0),
  (104, .getfield 64, 3, 0, 10, 24, 1352),
  (107, .iload_n 1, 1, 0, 1, 0, 0),
  (108, .iaload, 1, 0, 0, 0, 0),
  (109, .imul, 1, 0, 0, 0, 0),
  (110, .idiv, 1, 0, 0, 0, 0),
  (111, .istore_n 3, 1, 0, 3, 0, 0),
  (112, .iload_n 3, 1, 0, 3, 0, 0),
  (113, .sipush 200, 3, 200, 0, 0, 0),
  (116, .if_icmp .le 9, 3, 0, 125, 0, 0),
  (119, .sipush 200, 3, 200, 0, 0, 0),
  (122, .goto 17, 3, 0, 139, 0, 0),
  (125, .iload_n 3, 1, 0, 3, 0, 0),
  (126, .sipush (-200), 3, (-200), 0, 0, 0),
  (129, .if_icmp .ge 9, 3, 0, 138, 0, 0),
  (132, .sipush (-200), 3, (-200), 0, 0, 0),
  (135, .goto 4, 3, 0, 139, 0, 0),
  (138, .iload_n 3, 1, 0, 3, 0, 0),
  (139, .ireturn, 1, 0, 0, 0, 0)],
  [(1, 236, 2, 0, 0, pt_X10_apartBy), (0, 239, 3, 0, 0, pt_X10_hearingOf)], [])
set_option maxRecDepth 100000 in
theorem vd_X10_pullOn : md_X10_pullOn.cd.all (cb_vE md_X10_pullOn) = true := by decide +kernel
theorem wd_X10_pullOn : cb_wd yX10_pullOn md_X10_pullOn := ⟨cb_tw (i := 1637) (by decide +kernel), cb_tw (i := 11) (by decide +kernel), by decide, by decide⟩
theorem cs_X10_pullOn : ∀ X, cb_Bs md_X10_pullOn X → ∀ g ∈ md_X10_pullOn.ga, cb_CS cb_tb md_X10_pullOn X g := fun X B => List.forall_mem_cons.mpr ⟨cb_csS B ok_X10_apartBy wd_X10_apartBy (cb_tw (i := 1620) (by decide +kernel)) (cb_tw (i := 1621) (by decide +kernel)) ⟨by decide, by decide⟩ (by decide +kernel), List.forall_mem_cons.mpr ⟨cb_csV B ok_X10_hearingOf wd_X10_hearingOf (cb_tw (i := 1609) (by decide +kernel)) (cb_tw (i := 1611) (by decide +kernel)) (cb_tp (i := 64) (by decide +kernel)) rc_X10_hearingOf ⟨by decide, by decide⟩ (by decide +kernel), fun _ h => nomatch h⟩⟩
theorem ok_X10_pullOn : cb_MOK cb_tb yX10_pullOn md_X10_pullOn pt_X10_pullOn := by
  refine cb_okm ⟨plainFor_of_name (by decide), rfl⟩ (by decide) cs_X10_pullOn (by decide) (fun X n0 f i r M hr ha h => ?_)
  have h0 := cb_a1 (T := 46) rfl ha
  subst h0
  match r, hr, h with
  | [.inl x], hr, h =>
    obtain ⟨n, i, g, ⟨hG, hp, rfl, hi, hg⟩, h⟩ := h
    obtain ⟨hn, hn8, hv⟩ := id hG
    have hic : (nI i).toNatClampNeg = i := nI_clamp (by omega)
    have hi8 : vp_in (nI i) 8 := cb_in8 hi hn8 (by decide)
    obtain ⟨t, ht⟩ : ∃ t : Nat → Int32, t = fun j => if ¬ j = i ∧ g j = true then (mk_c M n).he i j * wn_T (mk_s M n).2.1 i j else 0 := ⟨_, rfl⟩
    have h : X.K (.inl (some (cb_i (wm_max (-200) (wm_min 200 (wm_sum t n / (100 * cb_gI M 67 0 i))))))) (cb_aS n0, f) M := by
      have e : mk_pl M n g i = wm_max (-200) (wm_min 200 (wm_sum t n / (100 * cb_gI M 67 0 i))) := by
        unfold mk_pl wn_cut
        rw [ht, show (mk_c M n).wt i = cb_gI M 67 0 i from wn_tr_lt hi]
      rw [← e]
      exact h
    have w0 : ¬ 100 * cb_gI M 67 0 i = 0 := fun w => by
      have := (hv i hi).2.2.1
      rw [w] at this
      exact absurd this (by decide)
    have loop : ∀ j, j ≤ n → ∀ (y s : Int32) (v : Option cb_V), y = nI j → s = wm_sum t j → cb_Gd cb_tb md_X10_pullOn X 4 [some (cb_r 46 0), some (cb_i (nI i)), some (cb_i (s)), some (cb_i (y)), v] [] (cb_aS n0, f) M 0 0 := by
      refine cb_up (fun j => ∀ (y s : Int32) (v : Option cb_V), y = nI j → s = wm_sum t j → cb_Gd cb_tb md_X10_pullOn X 4 [some (cb_r 46 0), some (cb_i (nI i)), some (cb_i (s)), some (cb_i (y)), v] [] (cb_aS n0, f) M 0 0) ?_ ?_
      · intro y s v hy hs
        refine cb_run cb_tb_ok vd_X10_pullOn (cuts := [4, 94]) 90 ?_
        refine And.intro (mi_v 1 (by decide)) (cb_lout hy hn (And.intro hi8 (And.intro ?_ ?_)))
        · rw [hic]
          exact w0
        · rw [hic, hs]
          obtain ⟨m1, m2, m3⟩ := mk_cut (x := wm_sum t n / (100 * cb_gI M 67 0 i))
          refine And.intro (fun q => cb_ifge (fun q1 => ?_) (fun q1 => ?_)) (fun q => ?_)
          · exact And.intro trivial (cb_eqK h (m2 q q1).symm)
          · exact And.intro trivial (cb_eqK h (m1 q (Int32.not_le.mpr q1)).symm)
          · exact And.intro trivial (cb_eqK h (m3 q).symm)
      · intro j hj ih y s v hy hs
        subst hy
        have hjc : (nI j).toNatClampNeg = j := nI_clamp (by omega)
        have hj8 : vp_in (nI j) 8 := cb_in8 hj hn8 (by decide)
        have nx : ∀ s' v', s' = wm_sum t (j + 1) → cb_Gd cb_tb md_X10_pullOn X 94 [some (cb_r 46 0), some (cb_i (nI i)), some (cb_i (s')), some (cb_i (nI j)), v'] [] (cb_aS n0, f) M 0 0 := fun s' v' hs' => by
          refine cb_run cb_tb_ok vd_X10_pullOn (cuts := [4]) 90 ?_
          exact ih _ _ _ (nI_1 j) hs'
        have skip : t j = 0 → s = wm_sum t (j + 1) := fun q => by
          rw [wm_sum, q, Int32.add_zero]
          exact hs
        refine cb_run cb_tb_ok vd_X10_pullOn (cuts := [4, 94]) 90 ?_
        refine And.intro (mi_v 1 (by decide)) (cb_lin rfl hn hj (by omega) (And.intro (fun q => ?_) (fun q => And.intro hj8 ?_)))
        · have q : j = i := (nI_eq (by omega) (by omega)).mp q
          refine nx _ _ (skip ?_)
          rw [ht]
          exact if_neg (fun w => w.1 q)
        · have q : ¬ nI j = nI i := q
          have q : ¬ j = i := fun w => q (by rw [w])
          show (¬ cb_gI M 83 0 (nI j).toNatClampNeg = 0 → _) ∧ (¬ ¬ cb_gI M 83 0 (nI j).toNatClampNeg = 0 → _)
          rw [hjc, hg j hj]
          refine cb_ifne (fun q1 => ?_) (fun q1 => ?_)
          · have q1 : g j = true := by
              cases z : g j with
              | true => rfl
              | false => rw [z] at q1; exact absurd rfl q1
            have et : t j = wm_hear (mk_h M) i j * wm_ten (wm_ap (cb_gI M 80 0 i) (cb_gI M 80 0 j)) := by
              rw [ht]
              show (if ¬ j = i ∧ g j = true then (if i < n ∧ j < n then wm_hear (mk_h M) i j else 0) * wm_ten (wm_ap (wn_tr n (cb_gI M 80 0) i) (wn_tr n (cb_gI M 80 0) j)) else 0) = _
              rw [if_pos ⟨q, q1⟩, if_pos ⟨hi, hj⟩, wn_tr_lt hi, wn_tr_lt hj]
            refine And.intro hi8 (And.intro hj8 (And.intro ?_ ?_))
            · rw [hic, hjc]
              exact ⟨hp i hi, hp j hj⟩
            · rw [hic, hjc]
              refine And.intro (cb_on rfl) ⟨n, i, j, ⟨hG, rfl, hi, rfl, hj⟩, ?_⟩
              unfold wm_ten at et
              refine And.intro (fun q2 => cb_ifge (fun q3 => ?_) (fun q3 => ?_)) (fun q2 => ?_)
              · have q2 : wm_ap (cb_gI M 80 0 i) (cb_gI M 80 0 j) ≤ 250 := q2
                rw [if_neg (Int32.not_lt.mpr q2), if_neg (Int32.not_lt.mpr q3)] at et
                refine nx _ _ ?_
                rw [wm_sum, et, ← hs]
              · have q2 : wm_ap (cb_gI M 80 0 i) (cb_gI M 80 0 j) ≤ 250 := q2
                rw [if_neg (Int32.not_lt.mpr q2), if_pos q3] at et
                refine nx _ _ ?_
                rw [wm_sum, et, ← hs]
              · have q2 : ¬ wm_ap (cb_gI M 80 0 i) (cb_gI M 80 0 j) ≤ 250 := q2
                rw [if_pos (Int32.not_le.mp q2)] at et
                refine nx _ _ ?_
                rw [wm_sum, et, ← hs]
          · have q1 : ¬ g j = true := fun w => by rw [w] at q1; exact absurd q1 (by decide)
            refine nx _ _ (skip ?_)
            rw [ht]
            exact if_neg (fun w => q1 w.2)
    exact cb_run cb_tb_ok vd_X10_pullOn (cuts := [4]) 40 (loop 0 (Nat.zero_le _) _ _ _ rfl rfl)
