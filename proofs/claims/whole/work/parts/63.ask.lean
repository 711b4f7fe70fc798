/-! ===== the reference: own, wanted, infected, leader ===== -/
theorem wO_off {o : Int32} (h : ¬ (o < -99999 ∨ 99999 < o)) : wO_b (2 ^ 29) o := by
  have e : (99999 : Int32).toInt = 99999 := rfl
  have e2 : (-99999 : Int32).toInt = -99999 := rfl
  have h1 : ¬ o < -99999 := fun w => h (Or.inl w)
  have h2 : ¬ 99999 < o := fun w => h (Or.inr w)
  rw [Int32.lt_iff_toInt_lt, e2] at h1
  rw [Int32.lt_iff_toInt_lt, e] at h2
  unfold wO_b
  omega
theorem wq_agr_n {p : Nat → Bool} : ∀ {j : Nat}, j ≤ 201 → ∃ c, c ≤ j ∧ (wq_agr p j).1 = nI c ∧ ((wq_agr p j).1 = 0 ↔ (wq_agr p j).2.1 = -2147483648)
  | 0, _ => ⟨0, Nat.le_refl _, rfl, ⟨fun _ => rfl, fun _ => rfl⟩⟩
  | j + 1, h => by
    obtain ⟨c, hc, e1, e2⟩ := wq_agr_n (p := p) (j := j) (by omega)
    rw [wq_agr]
    by_cases q : p j = true
    · rw [if_pos q]
      refine ⟨c + 1, by omega, by rw [← nI_1, ← e1], ?_⟩
      show (wq_agr p j).1 + 1 = 0 ↔ (if (wq_agr p j).1 = 0 then nI j - 100 else (wq_agr p j).2.1) = -2147483648
      have n1 : ¬ (wq_agr p j).1 + 1 = 0 := by rw [e1, nI_1]; exact nI_ne0 (by omega) (by omega)
      have n2 : ¬ (if (wq_agr p j).1 = 0 then nI j - 100 else (wq_agr p j).2.1) = -2147483648 := by
        split
        · have : ∀ j, j < 201 → ¬ nI j - 100 = -2147483648 := by decide +kernel
          exact this j (by omega)
        · rename_i z
          exact fun w => z (e2.mpr w)
      exact ⟨fun w => absurd w n1, fun w => absurd w n2⟩
    · rw [if_neg q]
      exact ⟨c, by omega, e1, e2⟩
def sp_X10_own : cb_Sp := fun _ r M K => match r with
  | [.inl x, .inl off, .inl d, .inl N, .inl what] => ∃ n h nb, (mi_I M n h nb ∧ wO (mv M n h nb)) ∧ wg_c n x (mT 1 M K) fun i => wg_i (-99999) 99999 off (mT 2 M K) (wg_i 0 999 d (mT 2 M K) (wg_r 1 100 N (mT 2 M K) fun k => wg_i 0 2 what (mT 2 M K) (mR (wq_pick3 what (wq_agr (vq_agp (mv M n h nb) i k off d) 201)) M K)))
  | _ => False
def pt_X10_own : cb_PT := cb_m 46 5 sp_X10_own
theorem rc_X10_own : cb_rc cb_tb RX10 pt_X10_own := cb_m_rc rfl rfl
def md_X10_own : cb_D := (RX10, cX10_own, 10, (some .int), (0, 0, 7, 158), [
  (0, .aload_n 0, 1, 0, 0, 0, 0),
  (1, .iconst 0, 1, 0, 0, 0, 0),
  (2, .putfield 126, 3, 0, 10, 0, 1328),
  (5, .aload_n 0, 1, 0, 0, 0, 0),
  (6, .aload_n 0, 1, 0, 0, 0, 0),
  (7, .iload_n 1, 1, 0, 1, 0, 0),
  (8, .invokevirtual 267, 3, 0, 0, 0, 0),
  (11, .ifCond .ne 7, 3, 0, 18, 0, 0),
  (14, .iconst 1, 1, 1, 0, 0, 0),
  (15, .goto 4, 3, 0, 19, 0, 0),
  (18, .iconst 0, 1, 0, 0, 0, 0),
  (19, .iconst 1, 1, 1, 0, 0, 0),
  (20, .invokevirtual 200, 3, 0, 1, 0, 0),
  (23, .ifCond .ne 52, 3, 0, 75, 0, 0),
  (26, .aload_n 0, 1, 0, 0, 0, 0),
  (27, .iload_n 2, 1, 0, 2, 0, 0),
  (28, .invokestatic 338, 3, 0, 2, 0, 0),
  (31, .ifCond .eq 32, 3, 0, 63, 0, 0),
  (34, .iload_n 3, 1, 0, 3, 0, 0),
  (35, .iconst 0, 1, 0, 0, 0, 0),
  (36, .sipush 999, 3, 999, 0, 0, 0),
  (39, .invokestatic 160, 3, 0, 3, 0, 0),
  (42, .ifCond .eq 21, 3, 0, 63, 0, 0),
  (45, .iload 4, 2, 0, 4, 0, 0),
  (47, .invokestatic 295, 3, 0, 4, 0, 0),
  (50, .ifCond .eq 13, 3, 0, 63, 0, 0),
  (53, .iload 5, 2, 0, 5, 0, 0),
  (55, .iconst 0, 1, 0, 0, 0, 0),
  (56, .iconst 2, 1, 2, 0, 0, 0),
  (57, .invokestatic 160, 3, 0, 3, 0, 0),
  (60, .ifCond .ne 7, 3, 0, 67, 0, 0),
  (63, .iconst 1, 1, 1, 0, 0, 0),
  (64, .goto 4, 3, 0, 68, 0, 0),
  (67, .iconst 0, 1, 0, 0, 0, 0),
  (68, .iconst 2, 1, 2, 0, 0, 0),
  (69, .invokevirtual 200, 3, 0, 1, 0, 0),
  (72, .ifCond .eq 5, 3, 0, 77, 0, 0),
  (75, .iconst 0, 1, 0, 0, 0, 0),
  (76, .ireturn, 1, 0, 0, 0, 0),
  (77, .iconst 0, 1, 0, 0, 0, 0),
  (78, .istore 6, 2, 0, 6, 0, 0),
  (80, .ldc 125, 2, (-2147483648), 0, 0, 1327),
  (82, .istore 7, 2, 0, 7, 0, 0),
  (84, .ldc 125, 2, (-2147483648), 0, 0, 1327),
  (86, .istore 8, 2, 0, 8, 0, 0),
  (88, .aload_n 0, 1, 0, 0, 0, 0),
  (89, .iload_n 1, 1, 0, 1, 0, 0),
  (90, .iload 4, 2, 0, 4, 0, 0),
  (92, .invokevirtual 341, 3, 0, 5, 0, 0),
  (95, .iconst 0, 1, 0, 0, 0, 0),
  (96, .istore 9, 2, 0, 9, 0, 0),
  (98, .iload 9, 2, 0, 9, 0, 0),
  (100, .sipush 201, 3, 201, 0, 0, 0),
  (103, .if_icmp .ge 56, 3, 0, 159, 0, 0),
  (106, .aload_n 0, 1, 0, 0, 0, 0),
  (107, .getfield 116, 3, 0, 10, 51, 1379),
  (110, .iload 9, 2, 0, 9, 0, 0),
  (112, .iaload, 1, 0, 0, 0, 0),
  (113, .iload_n 2, 1, 0, 2, 0, 0),
  (114, .invokestatic 229, 3, 0, 6, 0, 0),
  (117, .iload_n 3, 1, 0, 3, 0, 0),
  (118, .if_icmp .le 6, 3, 0, 124, 0, 0),
  (121, .goto 32, 3, 0, 153, 0, 0),
  (124, .iinc 6 1, 3, 1, 6, 0, 0),
  (127, .iload 7, 2, 0, 7, 0, 0),
  (129, .ldc 125, 2, (-2147483648), 0, 0, 1327),
  (131, .if_icmp .ne 11, 3, 0, 142, 0, 0),
  (134, .iload 9, 2, 0, 9, 0, 0),
  (136, .bipush 100, 2, 100, 0, 0, 0),
  (138, .isub, 1, 0, 0, 0, 0),
  (139, .goto 5, 3, 0, 144, 0, 0),
  (142, .iload 7, 2, 0, 7, 0, 0),
  (144, .istore 7, 2, 0, 7, 0, 0),
  (146, .iload 9, 2, 0, 9, 0, 0),
  (148, .bipush 100, 2, 100, 0, 0, 0),
  (150, .isub, 1, 0, 0, 0, 0),
  (151, .istore 8, 2, 0, 8, 0, 0),
  (153, .iinc 9 1, 3, 1, 9, 0, 0),
  (156, .goto (-58), 3, 0, 98, 0, 0),
  (159, .iload 5, 2, 0, 5, 0, 0),
  (161, .ifCond .ne 8, 3, 0, 169, 0, 0),
  (164, .iload 6, 2, 0, 6, 0, 0),
  (166, .goto 16, 3, 0, 182, 0, 0),
  (169, .iload 5, 2, 0, 5, 0, 0),
  (171, .iconst 1, 1, 1, 0, 0, 0),
  (172, .if_icmp .ne 8, 3, 0, 180, 0, 0),
  (175, .iload 7, 2, 0, 7, 0, 0),
  (177, .goto 5, 3, 0, 182, 0, 0),
  (180, .iload 8, 2, 0, 8, 0, 0),
  (182, .ireturn, 1, 0, 0, 0, 0)],
  [(0, 267, 2, 0, 0, pt_X10_isClock), (0, 200, 3, 0, 0, pt_X10_bad), (1, 338, 1, 0, 0, pt_X10_isOff), (1, 160, 3, 0, 0, pt_X10_in), (1, 295, 1, 0, 0, pt_X10_areDays), (0, 341, 3, 0, 0, pt_X10_laysRates), (1, 229, 2, 0, 0, pt_X10_far)], [])
set_option maxRecDepth 100000 in
theorem vd_X10_own : md_X10_own.cd.all (cb_vE md_X10_own) = true := by decide +kernel
theorem wd_X10_own : cb_wd yX10_own md_X10_own := ⟨cb_tw (i := 1775) (by decide +kernel), cb_tw (i := 11) (by decide +kernel), by decide, by decide⟩
theorem cs_X10_own : ∀ X, cb_Bs md_X10_own X → ∀ g ∈ md_X10_own.ga, cb_CS cb_tb md_X10_own X g := fun X B => List.forall_mem_cons.mpr ⟨cb_csV B ok_X10_isClock wd_X10_isClock (cb_tw (i := 1581) (by decide +kernel)) (cb_tw (i := 1583) (by decide +kernel)) (cb_tp (i := 58) (by decide +kernel)) rc_X10_isClock ⟨by decide, by decide⟩ (by decide +kernel), List.forall_mem_cons.mpr ⟨cb_csV B ok_X10_bad wd_X10_bad (cb_tw (i := 1507) (by decide +kernel)) (cb_tw (i := 1509) (by decide +kernel)) (cb_tp (i := 45) (by decide +kernel)) rc_X10_bad ⟨by decide, by decide⟩ (by decide +kernel), List.forall_mem_cons.mpr ⟨cb_csS B ok_X10_isOff wd_X10_isOff (cb_tw (i := 1776) (by decide +kernel)) (cb_tw (i := 1777) (by decide +kernel)) ⟨by decide, by decide⟩ (by decide +kernel), List.forall_mem_cons.mpr ⟨cb_csS B ok_X10_in wd_X10_in (cb_tw (i := 1504) (by decide +kernel)) (cb_tw (i := 1505) (by decide +kernel)) ⟨by decide, by decide⟩ (by decide +kernel), List.forall_mem_cons.mpr ⟨cb_csS B ok_X10_areDays wd_X10_areDays (cb_tw (i := 1702) (by decide +kernel)) (cb_tw (i := 1703) (by decide +kernel)) ⟨by decide, by decide⟩ (by decide +kernel), List.forall_mem_cons.mpr ⟨cb_csV B ok_X10_laysRates wd_X10_laysRates (cb_tw (i := 1781) (by decide +kernel)) (cb_tw (i := 1783) (by decide +kernel)) (cb_tp (i := 83) (by decide +kernel)) rc_X10_laysRates ⟨by decide, by decide⟩ (by decide +kernel), List.forall_mem_cons.mpr ⟨cb_csS B ok_X10_far wd_X10_far (cb_tw (i := 1613) (by decide +kernel)) (cb_tw (i := 1614) (by decide +kernel)) ⟨by decide, by decide⟩ (by decide +kernel), fun _ h => nomatch h⟩⟩⟩⟩⟩⟩⟩
theorem ok_X10_own : cb_MOK cb_tb yX10_own md_X10_own pt_X10_own := by
  refine cb_okm ⟨plainFor_of_name (by decide), rfl⟩ (by decide) cs_X10_own (by decide) (fun X n0 f i r M hr ha h => ?_)
  have h0 := cb_a1 (T := 46) rfl ha
  subst h0
  match r, hr, h with
  | [.inl x, .inl off, .inl dd, .inl N, .inl what], hr, h =>
    obtain ⟨n, hh, nb, ⟨hI, hO⟩, h⟩ := h
    obtain ⟨hn1, hn8, -⟩ := id hI.1
    refine cb_run cb_tb_ok vd_X10_own (cuts := [98]) 90 ?_
    refine And.intro (cb_on rfl) ⟨n, ⟨hn1, hn8⟩, cb_ifnz (fun q => And.intro (cb_on rfl) (bad_f rfl (by decide) (nz_f ?_))) (fun q => And.intro (cb_on rfl) (bad_t rfl (by decide) (nz_t (And.intro trivial (h.1 (mi_c_f (by omega) q) _ (mx2 M 1) rfl)))))⟩
    obtain ⟨i, hi, hx⟩ := wg_yes (by omega) ((mi_c_iff (by omega)).mp q)
    have h := h.2 i hi hx
    refine And.intro trivial (cb_ifz (fun q => And.intro (cb_on rfl) (bad_t rfl (by decide) (ez_t (And.intro trivial (h.1 (mi_in_f q) _ (mx2 M 2) rfl))))) (fun q => ?_))
    have h := h.2 (mi_in_t q)
    refine cb_ifz (fun q => And.intro (cb_on rfl) (bad_t rfl (by decide) (ez_t (And.intro trivial (h.1 (mi_in_f q) _ (mx2 M 2) rfl))))) (fun q => ?_)
    have h := h.2 (mi_in_t q)
    refine And.intro trivial (cb_ifz (fun q => And.intro (cb_on rfl) (bad_t rfl (by decide) (ez_t (And.intro trivial (h.1 (mi_in_f q) _ (mx2 M 2) rfl))))) (fun q => ?_))
    obtain ⟨k, k1, k2, ke⟩ := mi_in_yes (lo := 1) (hi := 100) (by decide) (by decide) q
    have h := h.2 k k1 k2 ke
    refine cb_ifnz (fun q => And.intro (cb_on rfl) (bad_f rfl (by decide) (ez_f ?_))) (fun q => And.intro (cb_on rfl) (bad_t rfl (by decide) (ez_t (And.intro trivial (h.1 (mi_in_f q) _ (mx2 M 2) rfl)))))
    have h := h.2 (mi_in_t q)
    obtain ⟨V, hV⟩ : ∃ V, V = mv M n hh nb := ⟨_, rfl⟩
    have hVn : V.n = n := by rw [hV]; rfl
    rw [← hV] at h hO
    have hoff : wO_b (2 ^ 29) off := wO_off (mi_in_t (by assumption))
    refine And.intro (cb_on rfl) ⟨n, hh, nb, i, k, ⟨mi_I_X (mx1 M) hI, hx, hi, ke, by omega⟩, fun M1 hF1 h01 hz1 => ?_⟩
    rw [mv_X (mx1 M), ← hV] at hz1
    have hX1 := (mx1 M).trans hF1
    obtain ⟨p, hp⟩ : ∃ p, p = vq_agp V i k off dd := ⟨_, rfl⟩
    rw [← hp] at h
    have hpv : ∀ j, j < 201 → p j = decide (mi_far (cb_gI M1 86 0 j) off ≤ dd) := fun j hj => by
      rw [hp, hz1 j hj, mi_far_b (vq_rt_b hO (by omega) hj (by omega)) hoff]
      rfl
    have loop : ∀ j, j ≤ 201 → ∀ (y a b c : Int32), y = nI j → (a, b, c) = wq_agr p j → cb_Gd cb_tb md_X10_own X 98 [some (cb_r 46 0), some (cb_i (x)), some (cb_i (off)), some (cb_i (dd)), some (cb_i (N)), some (cb_i (what)), some (cb_i (a)), some (cb_i (b)), some (cb_i (c)), some (cb_i (y))] [] (cb_aS n0, f) M1 0 0 := by
      refine cb_up (fun j => ∀ (y a b c : Int32), y = nI j → (a, b, c) = wq_agr p j → cb_Gd cb_tb md_X10_own X 98 [some (cb_r 46 0), some (cb_i (x)), some (cb_i (off)), some (cb_i (dd)), some (cb_i (N)), some (cb_i (what)), some (cb_i (a)), some (cb_i (b)), some (cb_i (c)), some (cb_i (y))] [] (cb_aS n0, f) M1 0 0) ?_ ?_
      · intro y a b c hy hz
        refine cb_run cb_tb_ok vd_X10_own (cuts := [98]) 90 ?_
        have h := h M1 hX1 h01
        rw [← hz] at h
        unfold wq_pick3 at h
        refine cb_lout (N := 201) hy rfl (cb_ifne (fun q => cb_ifne (fun q1 => And.intro trivial ?_) (fun q1 => And.intro trivial ?_)) (fun q => And.intro trivial ?_))
        · rw [if_neg q, if_neg q1] at h
          exact h
        · rw [if_neg q, if_pos q1] at h
          exact h
        · rw [if_pos q] at h
          exact h
      · intro j hj ih y a b c hy hz
        subst hy
        have hjc : (nI j).toNatClampNeg = j := nI_clamp (by omega)
        have hj8 : vp_in (nI j) 201 := vp_in_nI hj (by decide)
        obtain ⟨cc, -, e1, e2⟩ := wq_agr_n (p := p) (Nat.le_of_lt hj)
        rw [← hz] at e1 e2
        refine cb_run cb_tb_ok vd_X10_own (cuts := [98]) 90 ?_
        refine cb_lin (N := 201) (n := 201) rfl rfl hj (by decide) (And.intro hj8 (And.intro trivial ?_))
        show (mi_far (cb_gI M1 86 0 (nI j).toNatClampNeg) off ≤ dd → _) ∧ (¬ mi_far (cb_gI M1 86 0 (nI j).toNatClampNeg) off ≤ dd → _)
        rw [hjc]
        refine And.intro (fun q => cb_ifne (fun q1 => ih _ _ _ _ (nI_1 j) ?_) (fun q1 => ih _ _ _ _ (nI_1 j) ?_)) (fun q => ih _ _ _ _ (nI_1 j) ?_)
        · rw [wq_agr, if_pos (by rw [hpv j hj, decide_eq_true q]), ← hz]
          show _ = (a + 1, (if a = 0 then nI j - 100 else b), nI j - 100)
          rw [if_neg (fun w => q1 (e2.mp w))]
        · rw [wq_agr, if_pos (by rw [hpv j hj, decide_eq_true q]), ← hz]
          show _ = (a + 1, (if a = 0 then nI j - 100 else b), nI j - 100)
          rw [if_pos (e2.mpr q1)]
        · rw [wq_agr, if_neg (by rw [hpv j hj, decide_eq_false q]; decide), ← hz]
    exact loop 0 (Nat.zero_le _) _ _ _ _ rfl rfl
theorem wq_near_s {g : Nat → Int32} (hg : ∀ j, j < 201 → g j < 1000000000) : ∀ {j : Nat}, 1 ≤ j → j ≤ 201 → ∃ b, b < j ∧ (wq_near g j).1 = nI b - 100 ∧ (wq_near g j).2 = g b
  | 0, h, _ => absurd h (by omega)
  | 1, _, h => by
    refine ⟨0, by omega, ?_, ?_⟩
    · rw [wq_near, wq_near, if_pos (hg 0 (by omega))]
    · rw [wq_near, wq_near, if_pos (hg 0 (by omega))]
  | j + 2, _, h => by
    obtain ⟨b, hb, e1, e2⟩ := wq_near_s hg (j := j + 1) (by omega) (by omega)
    rw [wq_near]
    by_cases q : g (j + 1) < (wq_near g (j + 1)).2
    · rw [if_pos q]
      exact ⟨j + 1, by omega, rfl, rfl⟩
    · rw [if_neg q]
      exact ⟨b, by omega, e1, e2⟩
theorem wq_near_1 {g : Nat → Int32} (hg : ∀ j, j < 201 → g j < 1000000000) {j b : Nat} (hj : 1 ≤ j) (hj2 : j < 201) (e1 : (wq_near g j).1 = nI b - 100) (e2 : (wq_near g j).2 = g b) : (g j < g b → (wq_near g (j + 1)).1 = nI j - 100 ∧ (wq_near g (j + 1)).2 = g j) ∧ (¬ g j < g b → (wq_near g (j + 1)).1 = nI b - 100 ∧ (wq_near g (j + 1)).2 = g b) := by
  rw [wq_near, e2]
  refine ⟨fun q => by rw [if_pos q]; exact ⟨rfl, rfl⟩, fun q => by rw [if_neg q]; exact ⟨e1, e2⟩⟩
def sp_X10_wanted : cb_Sp := fun _ r M K => match r with
  | [.inl x, .inl off, .inl N, .inl what] => ∃ n h nb, (mi_I M n h nb ∧ wO (mv M n h nb)) ∧ wg_c n x (mT 1 M K) fun i => wg_i (-99999) 99999 off (mT 2 M K) (wg_r 1 100 N (mT 2 M K) fun k => wg_i 0 1 what (mT 2 M K) (mR (if what = 0 then (wq_near (vq_far (mv M n h nb) i k off) 201).1 else (wq_near (vq_far (mv M n h nb) i k off) 201).2) M K))
  | _ => False
theorem wm_abs_b {x y : Int32} (hx : wO_b (2 ^ 28) x) (hy : wO_b (2 ^ 28) y) : wm_abs (x - y) < 1000000000 := by
  unfold wO_b at *
  have e : (x - y).toInt = x.toInt - y.toInt := i32_sub (by omega) (by omega)
  have e9 : (1000000000 : Int32).toInt = 1000000000 := rfl
  rw [Int32.lt_iff_toInt_lt, e9]
  unfold wm_abs
  split
  · rw [e]
    omega
  · rw [i32_neg (by rw [e]; omega), e]
    omega
def pt_X10_wanted : cb_PT := cb_m 46 4 sp_X10_wanted
theorem rc_X10_wanted : cb_rc cb_tb RX10 pt_X10_wanted := cb_m_rc rfl rfl
def md_X10_wanted : cb_D := (RX10, cX10_wanted, 7, (some .int), (0, 0, 7, 158), [
  (0, .aload_n 0, 1, 0, 0, 0, 0),
  (1, .iconst 0, 1, 0, 0, 0, 0),
  (2, .putfield 126, 3, 0, 10, 0, 1328),
  (5, .aload_n 0, 1, 0, 0, 0, 0),
  (6, .aload_n 0, 1, 0, 0, 0, 0),
  (7, .iload_n 1, 1, 0, 1, 0, 0),
  (8, .invokevirtual 267, 3, 0, 0, 0, 0),
  (11, .ifCond .ne 7, 3, 0, 18, 0, 0),
  (14, .iconst 1, 1, 1, 0, 0, 0),
  (15, .goto 4, 3, 0, 19, 0, 0),
  (18, .iconst 0, 1, 0, 0, 0, 0),
  (19, .iconst 1, 1, 1, 0, 0, 0),
  (20, .invokevirtual 200, 3, 0, 1, 0, 0),
  (23, .ifCond .ne 40, 3, 0, 63, 0, 0),
  (26, .aload_n 0, 1, 0, 0, 0, 0),
  (27, .iload_n 2, 1, 0, 2, 0, 0),
  (28, .invokestatic 338, 3, 0, 2, 0, 0),
  (31, .ifCond .eq 20, 3, 0, 51, 0, 0),
  (34, .iload_n 3, 1, 0, 3, 0, 0),
  (35, .invokestatic 295, 3, 0, 3, 0, 0),
  (38, .ifCond .eq 13, 3, 0, 51, 0, 0),
  (41, .iload 4, 2, 0, 4, 0, 0),
  (43, .iconst 0, 1, 0, 0, 0, 0),
  (44, .iconst 1, 1, 1, 0, 0, 0),
  (45, .invokestatic 160, 3, 0, 4, 0, 0),
  (48, .ifCond .ne 7, 3, 0, 55, 0, 0),
  (51, .iconst 1, 1, 1, 0, 0, 0),
  (52, .goto 4, 3, 0, 56, 0, 0),
  (55, .iconst 0, 1, 0, 0, 0, 0),
  (56, .iconst 2, 1, 2, 0, 0, 0),
  (57, .invokevirtual 200, 3, 0, 1, 0, 0),
  (60, .ifCond .eq 5, 3, 0, 65, 0, 0),
  (63, .iconst 0, 1, 0, 0, 0, 0),
  (64, .ireturn, 1, 0, 0, 0, 0),
  (65, .aload_n 0, 1, 0, 0, 0, 0),
  (66, .iload_n 1, 1, 0, 1, 0, 0),
  (67, .iload_n 3, 1, 0, 3, 0, 0),
  (68, .invokevirtual 341, 3, 0, 5, 0, 0),
  (71, .iconst 0, 1, 0, 0, 0, 0),
  (72, .istore 5, 2, 0, 5, 0, 0),
  (74, .iconst 1, 1, 1, 0, 0, 0),
  (75, .istore 6, 2, 0, 6, 0, 0),
  (77, .iload 6, 2, 0, 6, 0, 0),
  (79, .sipush 201, 3, 201, 0, 0, 0),
  (82, .if_icmp .ge 43, 3, 0, 125, 0, 0),
  (85, .aload_n 0, 1, 0, 0, 0, 0),
  (86, .getfield 116, 3, 0, 10, 51, 1379),
  (89, .iload 6, 2, 0, 6, 0, 0),
  (91, .iaload, 1, 0, 0, 0, 0),
  (92, .iload_n 2, 1, 0, 2, 0, 0),
  (93, .invokestatic 229, 3, 0, 6, 0, 0),
  (96, .aload_n 0, 1, 0, 0, 0, 0),
  (97, .getfield 116, 3, 0, 10, 51, 1379),
  (100, .iload 5, 2, 0, 5, 0, 0),
  (102, .iaload, 1, 0, 0, 0, 0),
  (103, .iload_n 2, 1, 0, 2, 0, 0),
  (104, .invokestatic 229, 3, 0, 6, 0, 0),
  (107, .if_icmp .ge 8, 3, 0, 115, 0, 0),
  (110, .iload 6, 2, 0, 6, 0, 0),
  (112, .goto 5, 3, 0, 117, 0, 0),
  (115, .iload 5, 2, 0, 5, 0, 0),
  (117, .istore 5, 2, 0, 5, 0, 0),
  (119, .iinc 6 1, 3, 1, 6, 0, 0),
  (122, .goto (-45), 3, 0, 77, 0, 0),
  (125, .iload 4, 2, 0, 4, 0, 0),
  (127, .ifCond .ne 11, 3, 0, 138, 0, 0),
  (130, .iload 5, 2, 0, 5, 0, 0),
  (132, .bipush 100, 2, 100, 0, 0, 0),
  (134, .isub, 1, 0, 0, 0, 0),
  (135, .goto 14, 3, 0, 149, 0, 0),
  (138, .aload_n 0, 1, 0, 0, 0, 0),
  (139, .getfield 116, 3, 0, 10, 51, 1379),
  (142, .iload 5, 2, 0, 5, 0, 0),
  (144, .iaload, 1, 0, 0, 0, 0),
  (145, .iload_n 2, 1, 0, 2, 0, 0),
  (146, .invokestatic 229, 3, 0, 6, 0, 0),
  (149, .ireturn, 1, 0, 0, 0, 0)],
  [(0, 267, 2, 0, 0, pt_X10_isClock), (0, 200, 3, 0, 0, pt_X10_bad), (1, 338, 1, 0, 0, pt_X10_isOff), (1, 295, 1, 0, 0, pt_X10_areDays), (1, 160, 3, 0, 0, pt_X10_in), (0, 341, 3, 0, 0, pt_X10_laysRates), (1, 229, 2, 0, 0, pt_X10_far)], [])
set_option maxRecDepth 100000 in
theorem vd_X10_wanted : md_X10_wanted.cd.all (cb_vE md_X10_wanted) = true := by decide +kernel
theorem wd_X10_wanted : cb_wd yX10_wanted md_X10_wanted := ⟨cb_tw (i := 1807) (by decide +kernel), cb_tw (i := 11) (by decide +kernel), by decide, by decide⟩
theorem cs_X10_wanted : ∀ X, cb_Bs md_X10_wanted X → ∀ g ∈ md_X10_wanted.ga, cb_CS cb_tb md_X10_wanted X g := fun X B => List.forall_mem_cons.mpr ⟨cb_csV B ok_X10_isClock wd_X10_isClock (cb_tw (i := 1581) (by decide +kernel)) (cb_tw (i := 1583) (by decide +kernel)) (cb_tp (i := 58) (by decide +kernel)) rc_X10_isClock ⟨by decide, by decide⟩ (by decide +kernel), List.forall_mem_cons.mpr ⟨cb_csV B ok_X10_bad wd_X10_bad (cb_tw (i := 1507) (by decide +kernel)) (cb_tw (i := 1509) (by decide +kernel)) (cb_tp (i := 45) (by decide +kernel)) rc_X10_bad ⟨by decide, by decide⟩ (by decide +kernel), List.forall_mem_cons.mpr ⟨cb_csS B ok_X10_isOff wd_X10_isOff (cb_tw (i := 1776) (by decide +kernel)) (cb_tw (i := 1777) (by decide +kernel)) ⟨by decide, by decide⟩ (by decide +kernel), List.forall_mem_cons.mpr ⟨cb_csS B ok_X10_areDays wd_X10_areDays (cb_tw (i := 1702) (by decide +kernel)) (cb_tw (i := 1703) (by decide +kernel)) ⟨by decide, by decide⟩ (by decide +kernel), List.forall_mem_cons.mpr ⟨cb_csS B ok_X10_in wd_X10_in (cb_tw (i := 1504) (by decide +kernel)) (cb_tw (i := 1505) (by decide +kernel)) ⟨by decide, by decide⟩ (by decide +kernel), List.forall_mem_cons.mpr ⟨cb_csV B ok_X10_laysRates wd_X10_laysRates (cb_tw (i := 1781) (by decide +kernel)) (cb_tw (i := 1783) (by decide +kernel)) (cb_tp (i := 83) (by decide +kernel)) rc_X10_laysRates ⟨by decide, by decide⟩ (by decide +kernel), List.forall_mem_cons.mpr ⟨cb_csS B ok_X10_far wd_X10_far (cb_tw (i := 1613) (by decide +kernel)) (cb_tw (i := 1614) (by decide +kernel)) ⟨by decide, by decide⟩ (by decide +kernel), fun _ h => nomatch h⟩⟩⟩⟩⟩⟩⟩
theorem ok_X10_wanted : cb_MOK cb_tb yX10_wanted md_X10_wanted pt_X10_wanted := by
  refine cb_okm ⟨plainFor_of_name (by decide), rfl⟩ (by decide) cs_X10_wanted (by decide) (fun X n0 f i r M hr ha h => ?_)
  have h0 := cb_a1 (T := 46) rfl ha
  subst h0
  match r, hr, h with
  | [.inl x, .inl off, .inl N, .inl what], hr, h =>
    obtain ⟨n, hh, nb, ⟨hI, hO⟩, h⟩ := h
    obtain ⟨hn1, hn8, -⟩ := id hI.1
    refine cb_run cb_tb_ok vd_X10_wanted (cuts := [77]) 90 ?_
    refine And.intro (cb_on rfl) ⟨n, ⟨hn1, hn8⟩, cb_ifnz (fun q => And.intro (cb_on rfl) (bad_f rfl (by decide) (nz_f ?_))) (fun q => And.intro (cb_on rfl) (bad_t rfl (by decide) (nz_t (And.intro trivial (h.1 (mi_c_f (by omega) q) _ (mx2 M 1) rfl)))))⟩
    obtain ⟨i, hi, hx⟩ := wg_yes (by omega) ((mi_c_iff (by omega)).mp q)
    have h := h.2 i hi hx
    refine And.intro trivial (cb_ifz (fun q => And.intro (cb_on rfl) (bad_t rfl (by decide) (ez_t (And.intro trivial (h.1 (mi_in_f q) _ (mx2 M 2) rfl))))) (fun q => ?_))
    have h := h.2 (mi_in_t q)
    refine And.intro trivial (cb_ifz (fun q => And.intro (cb_on rfl) (bad_t rfl (by decide) (ez_t (And.intro trivial (h.1 (mi_in_f q) _ (mx2 M 2) rfl))))) (fun q => ?_))
    obtain ⟨k, k1, k2, ke⟩ := mi_in_yes (lo := 1) (hi := 100) (by decide) (by decide) q
    have h := h.2 k k1 k2 ke
    refine cb_ifnz (fun q => And.intro (cb_on rfl) (bad_f rfl (by decide) (ez_f ?_))) (fun q => And.intro (cb_on rfl) (bad_t rfl (by decide) (ez_t (And.intro trivial (h.1 (mi_in_f q) _ (mx2 M 2) rfl)))))
    have h := h.2 (mi_in_t q)
    obtain ⟨V, hV⟩ : ∃ V, V = mv M n hh nb := ⟨_, rfl⟩
    have hVn : V.n = n := by rw [hV]; rfl
    rw [← hV] at h hO
    have hoff : wO_b (2 ^ 29) off := wO_off (mi_in_t (by assumption))
    have hoff8 : wO_b (2 ^ 28) off := by
      have e : (99999 : Int32).toInt = 99999 := rfl
      have e2 : (-99999 : Int32).toInt = -99999 := rfl
      have hq : ¬ (off < -99999 ∨ 99999 < off) := mi_in_t (by assumption)
      have h1 : ¬ off < -99999 := fun w => hq (Or.inl w)
      have h2 : ¬ 99999 < off := fun w => hq (Or.inr w)
      rw [Int32.lt_iff_toInt_lt, e2] at h1
      rw [Int32.lt_iff_toInt_lt, e] at h2
      unfold wO_b
      omega
    refine And.intro (cb_on rfl) ⟨n, hh, nb, i, k, ⟨mi_I_X (mx1 M) hI, hx, hi, ke, by omega⟩, fun M1 hF1 h01 hz1 => ?_⟩
    rw [mv_X (mx1 M), ← hV] at hz1
    have hX1 := (mx1 M).trans hF1
    obtain ⟨g, hg⟩ : ∃ g, g = vq_far V i k off := ⟨_, rfl⟩
    rw [← hg] at h
    have hgv : ∀ j, j < 201 → mi_far (cb_gI M1 86 0 j) off = g j := fun j hj => by
      rw [hg, hz1 j hj, mi_far_b (vq_rt_b hO (by omega) hj (by omega)) hoff]
      rfl
    have hgl : ∀ j, j < 201 → g j < 1000000000 := fun j hj => by
      rw [hg]
      refine wm_abs_b ?_ hoff8
      refine wO_b_mono (wn_days_b (c := wn_rt (vc V) i (nI j - 100)) (dp := V.dp) (s := V.s) (i := i) (B := 140000) ?_ hO.2.2 (hO.1 i (by omega)) k (by omega)) (by omega)
      show wO_b 100 (if i = i then nI j - 100 else _)
      rw [if_pos rfl]
      exact wO_r hj
    have loop : ∀ j, j ≤ 201 → ∀ (y b : Int32) (c : Nat), y = nI j → 1 ≤ j → b = nI c → c < j → (wq_near g j).1 = nI c - 100 → (wq_near g j).2 = g c → cb_Gd cb_tb md_X10_wanted X 77 [some (cb_r 46 0), some (cb_i (x)), some (cb_i (off)), some (cb_i (N)), some (cb_i (what)), some (cb_i (b)), some (cb_i (y))] [] (cb_aS n0, f) M1 0 0 := by
      refine cb_up (fun j => ∀ (y b : Int32) (c : Nat), y = nI j → 1 ≤ j → b = nI c → c < j → (wq_near g j).1 = nI c - 100 → (wq_near g j).2 = g c → cb_Gd cb_tb md_X10_wanted X 77 [some (cb_r 46 0), some (cb_i (x)), some (cb_i (off)), some (cb_i (N)), some (cb_i (what)), some (cb_i (b)), some (cb_i (y))] [] (cb_aS n0, f) M1 0 0) ?_ ?_
      · intro y b c hy hj1 hb hc e1 e2
        have h := h M1 hX1 h01
        have hb8 : vp_in b 201 := by rw [hb]; exact vp_in_nI hc (by decide)
        have hbc : b.toNatClampNeg = c := by rw [hb]; exact nI_clamp (by omega)
        refine cb_run cb_tb_ok vd_X10_wanted (cuts := [77]) 90 ?_
        refine cb_lout (N := 201) hy rfl (cb_ifne (fun q => And.intro hb8 (And.intro trivial (And.intro trivial ?_))) (fun q => And.intro trivial ?_))
        · rw [if_neg q, e2] at h
          refine cb_eqK h ?_
          rw [hbc, hgv c hc]
        · rw [if_pos q, e1, ← hb] at h
          exact h
      · intro j hj ih y b c hy hj1 hb hc e1 e2
        subst hy
        have hjc : (nI j).toNatClampNeg = j := nI_clamp (by omega)
        have hj8 : vp_in (nI j) 201 := vp_in_nI hj (by decide)
        have hb8 : vp_in b 201 := by rw [hb]; exact vp_in_nI (by omega) (by decide)
        have hbc : b.toNatClampNeg = c := by rw [hb]; exact nI_clamp (by omega)
        obtain ⟨s1, s2⟩ := wq_near_1 hgl hj1 hj e1 e2
        refine cb_run cb_tb_ok vd_X10_wanted (cuts := [77]) 90 ?_
        refine cb_lin (N := 201) (n := 201) rfl rfl hj (by decide) (And.intro hj8 (And.intro trivial (And.intro hb8 (And.intro trivial ?_))))
        show (mi_far (cb_gI M1 86 0 b.toNatClampNeg) off ≤ mi_far (cb_gI M1 86 0 (nI j).toNatClampNeg) off → _) ∧ (¬ mi_far (cb_gI M1 86 0 b.toNatClampNeg) off ≤ mi_far (cb_gI M1 86 0 (nI j).toNatClampNeg) off → _)
        rw [hbc, hjc, hgv c (by omega), hgv j hj]
        refine cb_ifge (fun q => ?_) (fun q => ?_)
        · have := s2 (Int32.not_lt.mpr q)
          exact ih _ _ c (nI_1 j) (by omega) hb (by omega) this.1 this.2
        · have := s1 q
          exact ih _ _ j (nI_1 j) (by omega) rfl (by omega) this.1 this.2
    refine loop 1 (by omega) _ _ 0 rfl (Nat.le_refl _) rfl (by omega) ?_ ?_
    · rw [wq_near, wq_near, if_pos (hgl 0 (by omega))]
    · rw [wq_near, wq_near, if_pos (hgl 0 (by omega))]
