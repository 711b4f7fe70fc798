/-! ===== the reference: two alone ===== -/
theorem mu_pair {M : cb_M} {n i j : Nat} (hn : n ≤ 8) (hi : i < n) (hj : j < n) (h1 : cb_gI M 46 0 41 = wm_b1 i ||| wm_b1 j) (h2 : cb_gI M 46 0 45 = 1) : mk_u M n = wp_u n i j := by
  unfold mk_u wp_u
  rw [h1, h2]
  refine Prod.ext (funext fun a => ?_) (show decide (¬ (1 : Int32) = 0) = true by decide)
  show (decide (a < n) && cb_bit (wm_b1 i ||| wm_b1 j) a) = decide (a < n ∧ (a = i ∨ a = j))
  by_cases q : a < n
  · have b : ∀ i, i < 8 → ∀ j, j < 8 → cb_bit (wm_b1 i) j = decide (j = i) := by decide +kernel
    rw [cb_bit_or, b i (by omega) a (by omega), b j (by omega) a (by omega), decide_eq_true q, Bool.true_and]
    by_cases e1 : a = i
    · rw [decide_eq_true e1, decide_eq_true (show a < n ∧ (a = i ∨ a = j) from ⟨q, Or.inl e1⟩)]
      rfl
    · by_cases e2 : a = j
      · rw [decide_eq_true e2, decide_eq_true (show a < n ∧ (a = i ∨ a = j) from ⟨q, Or.inr e2⟩)]
        simp
      · rw [decide_eq_false e1, decide_eq_false e2, decide_eq_false (fun w => w.2.elim e1 e2)]
        rfl
  · rw [decide_eq_false q, decide_eq_false (fun w => q w.1)]
    rfl
def sp_X10_deltaOn : cb_Sp := fun _ r M K => match r with
  | [.inl x, .inl y, .inl delta, .inl N] => ∃ n h nb i j k, (mi_I M n h nb ∧ x = nI i ∧ i < n ∧ y = nI j ∧ j < n ∧ ¬ i = j ∧ N = nI k ∧ k ≤ 400) ∧ ∀ M', cb_fr fr_X M M' → cb_gI M' 46 0 0 = cb_gI M 46 0 0 → K (some (cb_i (wp_on (vc (mv M n h nb)) i j delta k))) M'
  | _ => False
def pt_X10_deltaOn : cb_PT := cb_m 46 4 sp_X10_deltaOn
theorem rc_X10_deltaOn : cb_rc cb_tb RX10 pt_X10_deltaOn := cb_m_rc rfl rfl
def md_X10_deltaOn : cb_D := (RX10, cX10_deltaOn, 6, (some .int), (0, 0, 5, 112), [
  (0, .aload_n 0, 1, 0, 0, 0, 0),
  (1, .iconst 1, 1, 1, 0, 0, 0),
  (2, .iload_n 1, 1, 0, 1, 0, 0),
  (3, .ishl, 1, 0, 0, 0, 0),
  (4, .iconst 1, 1, 1, 0, 0, 0),
  (5, .iload_n 2, 1, 0, 2, 0, 0),
  (6, .ishl, 1, 0, 0, 0, 0),
  (7, .ior, 1, 0, 0, 0, 0),
  (8, .putfield 107, 3, 0, 10, 41, 1369),
  (11, .aload_n 0, 1, 0, 0, 0, 0),
  (12, .iconst 1, 1, 1, 0, 0, 0),
  (13, .putfield 216, 3, 0, 10, 45, 1373),
  (16, .aload_n 0, 1, 0, 0, 0, 0),
  (17, .invokevirtual 261, 3, 0, 0, 0, 0),
  (20, .aload_n 0, 1, 0, 0, 0, 0),
  (21, .iconst 0, 1, 0, 0, 0, 0),
  (22, .putfield 223, 3, 0, 10, 42, 1370),
  (25, .aload_n 0, 1, 0, 0, 0, 0),
  (26, .getfield 94, 3, 0, 10, 37, 1365),
  (29, .iload_n 1, 1, 0, 1, 0, 0),
  (30, .sipush 500, 3, 500, 0, 0, 0),
  (33, .iastore, 1, 0, 0, 0, 0),
  (34, .aload_n 0, 1, 0, 0, 0, 0),
  (35, .getfield 94, 3, 0, 10, 37, 1365),
  (38, .iload_n 2, 1, 0, 2, 0, 0),
  (39, .sipush 500, 3, 500, 0, 0, 0),
  (42, .iload_n 3, 1, 0, 3, 0, 0),
  (43, .iadd, 1, 0, 0, 0, 0),
  (44, .sipush 1000, 3, 1000, 0, 0, 0),
  (47, .invokestatic 233, 3, 0, 1, 0, 0),
  (50, .iastore, 1, 0, 0, 0, 0),
  (51, .iconst 0, 1, 0, 0, 0, 0),
  (52, .istore 5, 2, 0, 5, 0, 0),
  (54, .iload 5, 2, 0, 5, 0, 0),
  (56, .iload 4, 2, 0, 4, 0, 0),
  (58, .if_icmp .ge 13, 3, 0, 71, 0, 0),
  (61, .aload_n 0, 1, 0, 0, 0, 0),
  (62, .invokevirtual 264, 3, 0, 2, 0, 0),
  (65, .iinc 5 1, 3, 1, 5, 0, 0),
  (68, .goto (-14), 3, 0, 54, 0, 0),
  (71, .aload_n 0, 1, 0, 0, 0, 0),
  (72, .iconst 0, 1, 0, 0, 0, 0),
  (73, .putfield 216, 3, 0, 10, 45, 1373),
  (76, .aload_n 0, 1, 0, 0, 0, 0),
  (77, .sipush 255, 3, 255, 0, 0, 0),
  (80, .putfield 107, 3, 0, 10, 41, 1369),
  (83, .aload_n 0, 1, 0, 0, 0, 0),
  (84, .getfield 94, 3, 0, 10, 37, 1365),
  (87, .iload_n 2, 1, 0, 2, 0, 0),
  (88, .iaload, 1, 0, 0, 0, 0),
  (89, .aload_n 0, 1, 0, 0, 0, 0),
  (90, .getfield 94, 3, 0, 10, 37, 1365),
  (93, .iload_n 1, 1, 0, 1, 0, 0),
  (94, .iaload, 1, 0, 0, 0, 0),
  (95, .isub, 1, 0, 0, 0, 0),
  (96, .sipush 1000, 3, 1000, 0, 0, 0),
  (99, .invokestatic 233, 3, 0, 1, 0, 0),
  (102, .ireturn, 1, 0, 0, 0, 0)],
  [(0, 261, 1, 0, 0, pt_X10_begins), (1, 233, 2, 0, 0, pt_X10_round), (0, 264, 1, 0, 0, pt_X10_dayGoes)], [])
set_option maxRecDepth 100000 in
theorem vd_X10_deltaOn : md_X10_deltaOn.cd.all (cb_vE md_X10_deltaOn) = true := by decide +kernel
theorem wd_X10_deltaOn : cb_wd yX10_deltaOn md_X10_deltaOn := ⟨cb_tw (i := 1835) (by decide +kernel), cb_tw (i := 11) (by decide +kernel), by decide, by decide⟩
theorem cs_X10_deltaOn : ∀ X, cb_Bs md_X10_deltaOn X → ∀ g ∈ md_X10_deltaOn.ga, cb_CS cb_tb md_X10_deltaOn X g := fun X B => List.forall_mem_cons.mpr ⟨cb_csV B ok_X10_begins wd_X10_begins (cb_tw (i := 1585) (by decide +kernel)) (cb_tw (i := 1587) (by decide +kernel)) (cb_tp (i := 59) (by decide +kernel)) rc_X10_begins ⟨by decide, by decide⟩ (by decide +kernel), List.forall_mem_cons.mpr ⟨cb_csS B ok_X10_round wd_X10_round (cb_tw (i := 1623) (by decide +kernel)) (cb_tw (i := 1624) (by decide +kernel)) ⟨by decide, by decide⟩ (by decide +kernel), List.forall_mem_cons.mpr ⟨cb_csV B ok_X10_dayGoes wd_X10_dayGoes (cb_tw (i := 1650) (by decide +kernel)) (cb_tw (i := 1652) (by decide +kernel)) (cb_tp (i := 69) (by decide +kernel)) rc_X10_dayGoes ⟨by decide, by decide⟩ (by decide +kernel), fun _ h => nomatch h⟩⟩⟩
theorem ok_X10_deltaOn : cb_MOK cb_tb yX10_deltaOn md_X10_deltaOn pt_X10_deltaOn := by
  refine cb_okm ⟨plainFor_of_name (by decide), rfl⟩ (by decide) cs_X10_deltaOn (by decide) (fun X n0 f i r M hr ha h => ?_)
  have h0 := cb_a1 (T := 46) rfl ha
  subst h0
  match r, hr, h with
  | [.inl x, .inl y, .inl delta, .inl N], hr, h =>
    obtain ⟨n, hh, nb, i, j, k, ⟨hI, hx, hi, hy, hj, hij, hN, hk⟩, h⟩ := h
    obtain ⟨hG, -, hp, -, -, -, hu, hw, hpr⟩ := id hI
    obtain ⟨hn1, hn8, -⟩ := id hG
    have hx8 : vp_in x 8 := by rw [hx]; exact cb_in8 hi hn8 (by decide)
    have hxc : x.toNatClampNeg = i := by rw [hx]; exact nI_clamp (by omega)
    have hy8 : vp_in y 8 := by rw [hy]; exact cb_in8 hj hn8 (by decide)
    have hyc : y.toNatClampNeg = j := by rw [hy]; exact nI_clamp (by omega)
    obtain ⟨M0, hM0⟩ : ∃ M0, M0 = cb_sI (cb_sI M 46 0 41 (wm_b1 i ||| wm_b1 j)) 46 0 45 1 := ⟨_, rfl⟩
    have c0 : mk_c M0 n = mk_c M n := by rw [hM0]; rfl
    have G0 : mk_G M0 n := by rw [hM0]; exact hG
    have u0 : mk_u M0 n = wp_u n i j := mu_pair hn8 hi hj (by rw [hM0]; rfl) (by rw [hM0]; rfl)
    have w0 : cb_gI M0 46 0 44 = 0 := by rw [hM0]; exact hw
    have r0 : cb_gI M0 46 0 45 = 1 := by rw [hM0]; rfl
    obtain ⟨q, hq⟩ : ∃ q, q = wm_fmod (500 + delta) 1000 := ⟨_, rfl⟩
    have hres : ∀ M3 : cb_M, cb_fr fr_X M0 M3 → cb_gI M3 46 0 0 = cb_gI M0 46 0 0 → ((mk_s M3 n).2.1 i, (mk_s M3 n).2.1 j) = wp_it (mk_c M n) i j 500 q k → X.K (.inl (some (cb_i (wm_fmod (cb_gI M3 80 0 j - cb_gI M3 80 0 i) 1000)))) (cb_aS n0, f) (cb_sI (cb_sI M3 46 0 45 0) 46 0 41 255) := by
      intro M3 hF3 h03 hs3
      rw [hM0] at hF3 h03
      have hF4 : cb_fr fr_X (cb_sI M 46 0 41 (wm_b1 i ||| wm_b1 j)) (cb_sI M3 46 0 45 0) := cb_fr.tmp hF3 hpr
      refine cb_eqK (h _ (cb_fr.tmp hF4 hu) h03) ?_
      unfold wp_on
      rw [← hq, ← mv_c hI, ← hs3]
      show _ = wm_fmod (wn_tr n (cb_gI M3 80 0) j - wn_tr n (cb_gI M3 80 0) i) 1000
      rw [wn_tr_lt hi, wn_tr_lt hj]
    have loop : ∀ l, l ≤ k → ∀ (z : Int32) (M2 : cb_M), z = nI l → cb_fr fr_n M0 M2 → mk_P M2 n → cb_gI M2 46 0 42 = nI l → ((mk_s M2 n).2.1 i, (mk_s M2 n).2.1 j) = wp_it (mk_c M n) i j 500 q l → cb_Gd cb_tb md_X10_deltaOn X 54 [some (cb_r 46 0), some (cb_i (x)), some (cb_i (y)), some (cb_i (delta)), some (cb_i (N)), some (cb_i (z))] [] (cb_aS n0, f) M2 0 0 := by
      refine cb_up (fun l => ∀ (z : Int32) (M2 : cb_M), z = nI l → cb_fr fr_n M0 M2 → mk_P M2 n → cb_gI M2 46 0 42 = nI l → ((mk_s M2 n).2.1 i, (mk_s M2 n).2.1 j) = wp_it (mk_c M n) i j 500 q l → cb_Gd cb_tb md_X10_deltaOn X 54 [some (cb_r 46 0), some (cb_i (x)), some (cb_i (y)), some (cb_i (delta)), some (cb_i (N)), some (cb_i (z))] [] (cb_aS n0, f) M2 0 0) ?_ ?_
      · intro z M2 hz hF hP h42 hs
        refine cb_run cb_tb_ok vd_X10_deltaOn (cuts := [54]) 90 ?_
        refine cb_lout hz hN (And.intro hy8 (And.intro hx8 (And.intro rfl (And.intro trivial ?_))))
        have := hres M2 (hF.mono fr_n_X) (hF.1 46 0 0 rfl) hs
        rw [← hxc, ← hyc] at this
        exact this
      · intro l hl ih z M2 hz hF hP h42 hs
        refine cb_run cb_tb_ok vd_X10_deltaOn (cuts := [54]) 90 ?_
        refine cb_lin hz hN hl (by omega) (And.intro (cb_on rfl) ⟨n, l, ⟨mk_G_n hF G0, hP, h42, by omega⟩, fun M3 hF3 hP3 hs3 hl3 => ?_⟩)
        have eD : mk_D M2 = 0 := by
          unfold mk_D
          rw [if_neg (by rw [hF.1 46 0 45 rfl, r0]; decide), if_pos ((hF.1 46 0 44 rfl).trans w0)]
          rfl
        rw [mk_c_n hF, mk_u_n hF, c0, u0, eD] at hs3
        refine ih _ M3 (by rw [hz, nI_1]) (hF.trans hF3) hP3 ?_ ?_
        · have : (mk_s M3 n).1 = (mk_s M2 n).1 + 1 := by rw [hs3]; rfl
          have : cb_gI M3 46 0 42 = cb_gI M2 46 0 42 + 1 := this
          rw [this, h42, nI_1]
        · rw [hs3]
          exact wp_it_step (c := mk_c M n) hij hs
    refine cb_run cb_tb_ok vd_X10_deltaOn (cuts := [54]) 90 ?_
    have eh : (1 : Int32) <<< (x &&& 31) ||| (1 : Int32) <<< (y &&& 31) = wm_b1 i ||| wm_b1 j := by rw [hx, hy]; rfl
    refine And.intro (cb_on rfl) ?_
    show sp_X10_begins 0 [] (cb_sI (cb_sI M 46 0 41 ((1 : Int32) <<< (x &&& 31) ||| (1 : Int32) <<< (y &&& 31))) 46 0 45 1) _
    rw [eh, ← hM0]
    refine ⟨n, ⟨G0.1, hn8⟩, fun M1 hF1 hs1 hl1 => And.intro hx8 (And.intro rfl (And.intro hy8 ?_))⟩
    show cb_Gd cb_tb md_X10_deltaOn X 54 [some (cb_r 46 0), some (cb_i (x)), some (cb_i (y)), some (cb_i (delta)), some (cb_i (N)), some (cb_i (0))] [] (cb_aS n0, f) (cb_sI (cb_sI (cb_sI M1 46 0 42 0) 80 0 x.toNatClampNeg 500) 80 0 y.toNatClampNeg (wm_fmod (500 + delta) 1000)) 0 0
    rw [hxc, hyc, ← hq]
    have hp1 : ∀ a, a < n → wm_ph (cb_gI M1 80 0 a) := fun a ha' => by
      have : (mk_s M1 n).2.1 a = (mk_b M0 n).2.1 a := by rw [hs1]
      rw [show (mk_s M1 n).2.1 a = cb_gI M1 80 0 a from wn_tr_lt ha', show (mk_b M0 n).2.1 a = cb_gI M0 69 0 a from wn_tr_lt ha'] at this
      rw [this, hM0]
      exact (hp a ha').2
    refine loop 0 (Nat.zero_le _) _ _ rfl (((hF1.set _ rfl).set _ rfl).set _ rfl) (fun a ha' => ?_) rfl ?_
    · by_cases e1 : a = j
      · rw [e1, cb_gs_eq, hq]
        exact wm_fmod_ph _
      · rw [cb_gs_ne (fun w => e1 w.2.2)]
        by_cases e2 : a = i
        · rw [e2, cb_gs_eq]
          exact ⟨by decide, by decide⟩
        · rw [cb_gs_ne (fun w => e2 w.2.2)]
          exact hp1 a ha'
    · show (wn_tr n (cb_gI (cb_sI (cb_sI (cb_sI M1 46 0 42 0) 80 0 i 500) 80 0 j q) 80 0) i, wn_tr n (cb_gI (cb_sI (cb_sI (cb_sI M1 46 0 42 0) 80 0 i 500) 80 0 j q) 80 0) j) = (500, q)
      rw [wn_tr_lt hi, wn_tr_lt hj, cb_gs_eq, cb_gs_ne (fun w => hij w.2.2), cb_gs_eq]
theorem wq_stay_n {p : Nat → Bool} : ∀ {j : Nat}, j ≤ 1000 → ∃ c, c ≤ j ∧ (wq_stay p j).1 = nI c ∧ ((wq_stay p j).1 = 0 ↔ (wq_stay p j).2 = -1)
  | 0, _ => ⟨0, Nat.le_refl _, rfl, ⟨fun _ => rfl, fun _ => rfl⟩⟩
  | j + 1, h => by
    obtain ⟨c, hc, e1, e2⟩ := wq_stay_n (p := p) (j := j) (by omega)
    rw [wq_stay]
    by_cases q : p j = true
    · rw [if_pos q]
      refine ⟨c + 1, by omega, by rw [← nI_1, ← e1], ?_⟩
      show (wq_stay p j).1 + 1 = 0 ↔ (if (wq_stay p j).1 = 0 then nI j else (wq_stay p j).2) = -1
      have n1 : ¬ (wq_stay p j).1 + 1 = 0 := by rw [e1, nI_1]; exact nI_ne0 (by omega) (by omega)
      have n2 : ¬ (if (wq_stay p j).1 = 0 then nI j else (wq_stay p j).2) = -1 := by
        split
        · exact fun w => absurd (show nI j < 0 by rw [w]; decide) (nI_pos (by omega))
        · rename_i z
          exact fun w => z (e2.mpr w)
      exact ⟨fun w => absurd w n1, fun w => absurd w n2⟩
    · rw [if_neg q]
      exact ⟨c, by omega, e1, e2⟩
def sp_X10_drawn : cb_Sp := fun _ r M K => match r with
  | [.inl x, .inl y, .inl delta, .inl N] => ∃ n h nb, mi_I M n h nb ∧ wg_p n x y (mT 1 M K) (mT 2 M K) fun i j => wg_i 0 999 delta (mT 2 M K) (wg_r 1 100 N (mT 2 M K) fun k => mR (wp_on (vc (mv M n h nb)) i j delta k) M K)
  | _ => False
def pt_X10_drawn : cb_PT := cb_m 46 4 sp_X10_drawn
theorem rc_X10_drawn : cb_rc cb_tb RX10 pt_X10_drawn := cb_m_rc rfl rfl
def md_X10_drawn : cb_D := (RX10, cX10_drawn, 5, (some .int), (0, 0, 6, 137), [
  (0, .aload_n 0, 1, 0, 0, 0, 0),
  (1, .iconst 0, 1, 0, 0, 0, 0),
  (2, .putfield 126, 3, 0, 10, 0, 1328),
  (5, .aload_n 0, 1, 0, 0, 0, 0),
  (6, .iload_n 1, 1, 0, 1, 0, 0),
  (7, .iload_n 2, 1, 0, 2, 0, 0),
  (8, .invokevirtual 270, 3, 0, 0, 0, 0),
  (11, .ifCond .ne 35, 3, 0, 46, 0, 0),
  (14, .aload_n 0, 1, 0, 0, 0, 0),
  (15, .iload_n 3, 1, 0, 3, 0, 0),
  (16, .iconst 0, 1, 0, 0, 0, 0),
  (17, .sipush 999, 3, 999, 0, 0, 0),
  (20, .invokestatic 160, 3, 0, 1, 0, 0),
  (23, .ifCond .eq 11, 3, 0, 34, 0, 0),
  (26, .iload 4, 2, 0, 4, 0, 0),
  (28, .invokestatic 295, 3, 0, 2, 0, 0),
  (31, .ifCond .ne 7, 3, 0, 38, 0, 0),
  (34, .iconst 1, 1, 1, 0, 0, 0),
  (35, .goto 4, 3, 0, 39, 0, 0),
  (38, .iconst 0, 1, 0, 0, 0, 0),
  (39, .iconst 2, 1, 2, 0, 0, 0),
  (40, .invokevirtual 200, 3, 0, 3, 0, 0),
  (43, .ifCond .eq 5, 3, 0, 48, 0, 0),
  (46, .iconst 0, 1, 0, 0, 0, 0),
  (47, .ireturn, 1, 0, 0, 0, 0),
  (48, .aload_n 0, 1, 0, 0, 0, 0),
  (49, .iload_n 1, 1, 0, 1, 0, 0),
  (50, .iload_n 2, 1, 0, 2, 0, 0),
  (51, .iload_n 3, 1, 0, 3, 0, 0),
  (52, .iload 4, 2, 0, 4, 0, 0),
  (54, .invokevirtual 352, 3, 0, 4, 0, 0),
  (57, .ireturn, 1, 0, 0, 0, 0)],
  [(0, 270, 3, 0, 0, pt_X10_badPair), (1, 160, 3, 0, 0, pt_X10_in), (1, 295, 1, 0, 0, pt_X10_areDays), (0, 200, 3, 0, 0, pt_X10_bad), (0, 352, 5, 0, 0, pt_X10_deltaOn)], [])
set_option maxRecDepth 100000 in
theorem vd_X10_drawn : md_X10_drawn.cd.all (cb_vE md_X10_drawn) = true := by decide +kernel
theorem wd_X10_drawn : cb_wd yX10_drawn md_X10_drawn := ⟨cb_tw (i := 1839) (by decide +kernel), cb_tw (i := 11) (by decide +kernel), by decide, by decide⟩
theorem cs_X10_drawn : ∀ X, cb_Bs md_X10_drawn X → ∀ g ∈ md_X10_drawn.ga, cb_CS cb_tb md_X10_drawn X g := fun X B => List.forall_mem_cons.mpr ⟨cb_csV B ok_X10_badPair wd_X10_badPair (cb_tw (i := 1605) (by decide +kernel)) (cb_tw (i := 1607) (by decide +kernel)) (cb_tp (i := 63) (by decide +kernel)) rc_X10_badPair ⟨by decide, by decide⟩ (by decide +kernel), List.forall_mem_cons.mpr ⟨cb_csS B ok_X10_in wd_X10_in (cb_tw (i := 1504) (by decide +kernel)) (cb_tw (i := 1505) (by decide +kernel)) ⟨by decide, by decide⟩ (by decide +kernel), List.forall_mem_cons.mpr ⟨cb_csS B ok_X10_areDays wd_X10_areDays (cb_tw (i := 1702) (by decide +kernel)) (cb_tw (i := 1703) (by decide +kernel)) ⟨by decide, by decide⟩ (by decide +kernel), List.forall_mem_cons.mpr ⟨cb_csV B ok_X10_bad wd_X10_bad (cb_tw (i := 1507) (by decide +kernel)) (cb_tw (i := 1509) (by decide +kernel)) (cb_tp (i := 45) (by decide +kernel)) rc_X10_bad ⟨by decide, by decide⟩ (by decide +kernel), List.forall_mem_cons.mpr ⟨cb_csV B ok_X10_deltaOn wd_X10_deltaOn (cb_tw (i := 1832) (by decide +kernel)) (cb_tw (i := 1834) (by decide +kernel)) (cb_tp (i := 85) (by decide +kernel)) rc_X10_deltaOn ⟨by decide, by decide⟩ (by decide +kernel), fun _ h => nomatch h⟩⟩⟩⟩⟩
theorem ok_X10_drawn : cb_MOK cb_tb yX10_drawn md_X10_drawn pt_X10_drawn := by
  refine cb_okm ⟨plainFor_of_name (by decide), rfl⟩ (by decide) cs_X10_drawn (by decide) (fun X n0 f i r M hr ha h => ?_)
  have h0 := cb_a1 (T := 46) rfl ha
  subst h0
  match r, hr, h with
  | [.inl x, .inl y, .inl delta, .inl N], hr, h =>
    obtain ⟨n, hh, nb, hI, h⟩ := h
    obtain ⟨hn1, hn8, -⟩ := id hI.1
    refine cb_run cb_tb_ok vd_X10_drawn (cuts := []) 90 ?_
    refine And.intro (cb_on rfl) ⟨n, ⟨hn1, hn8, rfl⟩, fun w => nz_t (And.intro trivial (wg_p0 h w _ (mx2 M 1) rfl)), fun i hi hx j hj hy => ⟨fun e => nz_t (And.intro trivial (((h.2 i hi hx).2 j hj hy).1 e _ (mx2 M 2) rfl)), fun hij => nz_f ?_⟩⟩
    have h := ((h.2 i hi hx).2 j hj hy).2 hij
    refine cb_ifz (fun q => And.intro (cb_on rfl) (bad_t rfl (by decide) (ez_t (And.intro trivial (h.1 (mi_in_f q) _ (mx2 M 2) rfl))))) (fun q => ?_)
    have h := h.2 (mi_in_t q)
    refine And.intro trivial (cb_ifnz (fun q => And.intro (cb_on rfl) (bad_f rfl (by decide) (ez_f ?_))) (fun q => And.intro (cb_on rfl) (bad_t rfl (by decide) (ez_t (And.intro trivial (h.1 (mi_in_f q) _ (mx2 M 2) rfl))))))
    obtain ⟨k, k1, k2, ke⟩ := mi_in_yes (lo := 1) (hi := 100) (by decide) (by decide) q
    have h := h.2 k k1 k2 ke
    refine And.intro (cb_on rfl) ⟨n, hh, nb, i, j, k, ⟨mi_I_X (mx1 M) hI, hx, hi, hy, hj, hij, ke, by omega⟩, fun M2 hF2 h02 => And.intro trivial (cb_eqK (h M2 ((mx1 M).trans hF2) h02) ?_)⟩
    rw [mv_X (mx1 M)]
def sp_X10_stays : cb_Sp := fun _ r M K => match r with
  | [.inl x, .inl y, .inl what] => ∃ n h nb, mi_I M n h nb ∧ wg_p n x y (mT 1 M K) (mT 2 M K) fun i j => wg_i 0 1 what (mT 2 M K) (mR (if what = 0 then (wq_stay (wp_st (vc (mv M n h nb)) i j) 1000).1 else (wq_stay (wp_st (vc (mv M n h nb)) i j) 1000).2) M K)
  | _ => False
def pt_X10_stays : cb_PT := cb_m 46 3 sp_X10_stays
theorem rc_X10_stays : cb_rc cb_tb RX10 pt_X10_stays := cb_m_rc rfl rfl
def md_X10_stays : cb_D := (RX10, cX10_stays, 7, (some .int), (0, 0, 6, 137), [
  (0, .aload_n 0, 1, 0, 0, 0, 0),
  (1, .iconst 0, 1, 0, 0, 0, 0),
  (2, .putfield 126, 3, 0, 10, 0, 1328),
  (5, .aload_n 0, 1, 0, 0, 0, 0),
  (6, .iload_n 1, 1, 0, 1, 0, 0),
  (7, .iload_n 2, 1, 0, 2, 0, 0),
  (8, .invokevirtual 270, 3, 0, 0, 0, 0),
  (11, .ifCond .ne 25, 3, 0, 36, 0, 0),
  (14, .aload_n 0, 1, 0, 0, 0, 0),
  (15, .iload_n 3, 1, 0, 3, 0, 0),
  (16, .iconst 0, 1, 0, 0, 0, 0),
  (17, .iconst 1, 1, 1, 0, 0, 0),
  (18, .invokestatic 160, 3, 0, 1, 0, 0),
  (21, .ifCond .ne 7, 3, 0, 28, 0, 0),
  (24, .iconst 1, 1, 1, 0, 0, 0),
  (25, .goto 4, 3, 0, 29, 0, 0),
  (28, .iconst 0, 1, 0, 0, 0, 0),
  (29, .iconst 2, 1, 2, 0, 0, 0),
  (30, .invokevirtual 200, 3, 0, 2, 0, 0),
  (33, .ifCond .eq 5, 3, 0, 38, 0, 0),
  (36, .iconst 0, 1, 0, 0, 0, 0),
  (37, .ireturn, 1, 0, 0, 0, 0),
  (38, .iconst 0, 1, 0, 0, 0, 0),
  (39, .istore 4, 2, 0, 4, 0, 0),
  (41, .iconst (-1), 1, (-1), 0, 0, 0),
  (42, .istore 5, 2, 0, 5, 0, 0),
  (44, .iconst 0, 1, 0, 0, 0, 0),
  (45, .istore 6, 2, 0, 6, 0, 0),
  (47, .iload 6, 2, 0, 6, 0, 0),
  (49, .sipush 1000, 3, 1000, 0, 0, 0),
  (52, .if_icmp .ge 44, 3, 0, 96, 0, 0),
  (55, .aload_n 0, 1, 0, 0, 0, 0),
  (56, .iload_n 1, 1, 0, 1, 0, 0),
  (57, .iload_n 2, 1, 0, 2, 0, 0),
  (58, .iload 6, 2, 0, 6, 0, 0),
  (60, .iconst 1, 1, 1, 0, 0, 0),
  (61, .invokevirtual 352, 3, 0, 3, 0, 0),
  (64, .iload 6, 2, 0, 6, 0, 0),
  (66, .if_icmp .eq 6, 3, 0, 72, 0, 0),
  (69, .goto 21, 3, 0, 90, 0, 0),
  (72, .iload 5, 2, 0, 5, 0, 0),
  (74, .iconst (-1), 1, (-1), 0, 0, 0),
  (75, .if_icmp .ne 8, 3, 0, 83, 0, 0),
  (78, .iload 6, 2, 0, 6, 0, 0),
  (80, .goto 5, 3, 0, 85, 0, 0),
  (83, .iload 5, 2, 0, 5, 0, 0),
  (85, .istore 5, 2, 0, 5, 0, 0),
  (87, .iinc 4 1, 3, 1, 4, 0, 0),
  (90, .iinc 6 1, 3, 1, 6, 0, 0),
  (93, .goto (-46), 3, 0, 47, 0, 0),
  (96, .iload_n 3, 1, 0, 3, 0, 0),
  (97, .ifCond .ne 8, 3, 0, 105, 0, 0),
  (100, .iload 4, 2, 0, 4, 0, 0),
  (102, .goto 5, 3, 0, 107, 0, 0),
  (105, .iload 5, 2, 0, 5, 0, 0),
  (107, .ireturn, 1, 0, 0, 0, 0)],
  [(0, 270, 3, 0, 0, pt_X10_badPair), (1, 160, 3, 0, 0, pt_X10_in), (0, 200, 3, 0, 0, pt_X10_bad), (0, 352, 5, 0, 0, pt_X10_deltaOn)], [])
set_option maxRecDepth 100000 in
theorem vd_X10_stays : md_X10_stays.cd.all (cb_vE md_X10_stays) = true := by decide +kernel
theorem wd_X10_stays : cb_wd yX10_stays md_X10_stays := ⟨cb_tw (i := 1831) (by decide +kernel), cb_tw (i := 11) (by decide +kernel), by decide, by decide⟩
theorem cs_X10_stays : ∀ X, cb_Bs md_X10_stays X → ∀ g ∈ md_X10_stays.ga, cb_CS cb_tb md_X10_stays X g := fun X B => List.forall_mem_cons.mpr ⟨cb_csV B ok_X10_badPair wd_X10_badPair (cb_tw (i := 1605) (by decide +kernel)) (cb_tw (i := 1607) (by decide +kernel)) (cb_tp (i := 63) (by decide +kernel)) rc_X10_badPair ⟨by decide, by decide⟩ (by decide +kernel), List.forall_mem_cons.mpr ⟨cb_csS B ok_X10_in wd_X10_in (cb_tw (i := 1504) (by decide +kernel)) (cb_tw (i := 1505) (by decide +kernel)) ⟨by decide, by decide⟩ (by decide +kernel), List.forall_mem_cons.mpr ⟨cb_csV B ok_X10_bad wd_X10_bad (cb_tw (i := 1507) (by decide +kernel)) (cb_tw (i := 1509) (by decide +kernel)) (cb_tp (i := 45) (by decide +kernel)) rc_X10_bad ⟨by decide, by decide⟩ (by decide +kernel), List.forall_mem_cons.mpr ⟨cb_csV B ok_X10_deltaOn wd_X10_deltaOn (cb_tw (i := 1832) (by decide +kernel)) (cb_tw (i := 1834) (by decide +kernel)) (cb_tp (i := 85) (by decide +kernel)) rc_X10_deltaOn ⟨by decide, by decide⟩ (by decide +kernel), fun _ h => nomatch h⟩⟩⟩⟩
theorem ok_X10_stays : cb_MOK cb_tb yX10_stays md_X10_stays pt_X10_stays := by
  refine cb_okm ⟨plainFor_of_name (by decide), rfl⟩ (by decide) cs_X10_stays (by decide) (fun X n0 f i r M hr ha h => ?_)
  have h0 := cb_a1 (T := 46) rfl ha
  subst h0
  match r, hr, h with
  | [.inl x, .inl y, .inl what], hr, h =>
    obtain ⟨n, hh, nb, hI, h⟩ := h
    obtain ⟨hn1, hn8, -⟩ := id hI.1
    refine cb_run cb_tb_ok vd_X10_stays (cuts := [47]) 90 ?_
    refine And.intro (cb_on rfl) ⟨n, ⟨hn1, hn8, rfl⟩, fun w => nz_t (And.intro trivial (wg_p0 h w _ (mx2 M 1) rfl)), fun i hi hx j hj hy => ⟨fun e => nz_t (And.intro trivial (((h.2 i hi hx).2 j hj hy).1 e _ (mx2 M 2) rfl)), fun hij => nz_f ?_⟩⟩
    have h := ((h.2 i hi hx).2 j hj hy).2 hij
    refine cb_ifnz (fun q => And.intro (cb_on rfl) (bad_f rfl (by decide) (ez_f ?_))) (fun q => And.intro (cb_on rfl) (bad_t rfl (by decide) (ez_t (And.intro trivial (h.1 (mi_in_f q) _ (mx2 M 2) rfl)))))
    have h := h.2 (mi_in_t q)
    obtain ⟨p, hp⟩ : ∃ p, p = wp_st (vc (mv M n hh nb)) i j := ⟨_, rfl⟩
    rw [← hp] at h
    have loop : ∀ d, d ≤ 1000 → ∀ (z a b : Int32) (M2 : cb_M), z = nI d → (a, b) = wq_stay p d → cb_fr fr_X M M2 → cb_gI M2 46 0 0 = 0 → cb_Gd cb_tb md_X10_stays X 47 [some (cb_r 46 0), some (cb_i (x)), some (cb_i (y)), some (cb_i (what)), some (cb_i (a)), some (cb_i (b)), some (cb_i (z))] [] (cb_aS n0, f) M2 0 0 := by
      refine cb_up (fun d => ∀ (z a b : Int32) (M2 : cb_M), z = nI d → (a, b) = wq_stay p d → cb_fr fr_X M M2 → cb_gI M2 46 0 0 = 0 → cb_Gd cb_tb md_X10_stays X 47 [some (cb_r 46 0), some (cb_i (x)), some (cb_i (y)), some (cb_i (what)), some (cb_i (a)), some (cb_i (b)), some (cb_i (z))] [] (cb_aS n0, f) M2 0 0) ?_ ?_
      · intro z a b M2 hz hs hF h0
        have h := h M2 hF h0
        rw [← hs] at h
        refine cb_run cb_tb_ok vd_X10_stays (cuts := [47]) 90 ?_
        refine cb_lout (N := 1000) hz rfl (cb_ifne (fun q => And.intro trivial ?_) (fun q => And.intro trivial ?_))
        · rw [if_neg q] at h
          exact h
        · rw [if_pos q] at h
          exact h
      · intro d hd ih z a b M2 hz hs hF h0
        subst hz
        obtain ⟨cc, -, e1, e2⟩ := wq_stay_n (p := p) (Nat.le_of_lt hd)
        rw [← hs] at e1 e2
        refine cb_run cb_tb_ok vd_X10_stays (cuts := [47]) 90 ?_
        refine cb_lin (N := 1000) (n := 1000) rfl rfl hd (by decide) (And.intro (cb_on rfl) ⟨n, hh, nb, i, j, 1, ⟨mi_I_X hF hI, hx, hi, hy, hj, hij, rfl, by decide⟩, fun M3 hF3 h03 => ?_⟩)
        rw [mv_X hF]
        have ep : p d = decide (wp_on (vc (mv M n hh nb)) i j (nI d) 1 = nI d) := by rw [hp]; rfl
        refine And.intro (fun q => cb_ifne (fun q1 => ih _ _ _ M3 (nI_1 d) ?_ (hF.trans hF3) (h03.trans h0)) (fun q1 => ih _ _ _ M3 (nI_1 d) ?_ (hF.trans hF3) (h03.trans h0))) (fun q => ih _ _ _ M3 (nI_1 d) ?_ (hF.trans hF3) (h03.trans h0))
        · have q : wp_on (vc (mv M n hh nb)) i j (nI d) 1 = nI d := q
          rw [wq_stay, if_pos (by rw [ep, decide_eq_true q]), ← hs]
          show _ = (a + 1, (if a = 0 then nI d else b))
          rw [if_neg (fun w => q1 (e2.mp w))]
        · have q : wp_on (vc (mv M n hh nb)) i j (nI d) 1 = nI d := q
          rw [wq_stay, if_pos (by rw [ep, decide_eq_true q]), ← hs]
          show _ = (a + 1, (if a = 0 then nI d else b))
          rw [if_pos (e2.mpr q1)]
        · have q : ¬ wp_on (vc (mv M n hh nb)) i j (nI d) 1 = nI d := q
          rw [wq_stay, if_neg (by rw [ep, decide_eq_false q]; decide), ← hs]
    exact loop 0 (Nat.zero_le _) _ _ _ _ rfl rfl (mx1 M) rfl
theorem wm_ad_fm : ∀ k, k < 1999 → wm_ad (wm_fmod (nI k - 999) 1000) = wm_ad (nI k - 999) := by decide +kernel
theorem wp_it_ph {c : wn_C} {i j : Nat} (hi : i < c.n) (hj : j < c.n) {p q : Int32} (hp : wm_ph p) (hq : wm_ph q) : ∀ k, wm_ph (wp_it c i j p q k).1 ∧ wm_ph (wp_it c i j p q k).2
  | 0 => ⟨hp, hq⟩
  | k + 1 => by
    obtain ⟨h1, h2⟩ := wp_it_ph hi hj hp hq k
    have hs : wn_Ph c.n (wp_s i j (wp_it c i j p q k).1 (wp_it c i j p q k).2) := fun a _ => by
      show wm_ph (if a = i then (wp_it c i j p q k).1 else if a = j then (wp_it c i j p q k).2 else 0)
      split
      · exact h1
      · split
        · exact h2
        · exact ⟨by decide, by decide⟩
    have := wn_day_ph (u := wp_u c.n i j) (damp := 0) hs
    exact ⟨this i hi, this j hj⟩
theorem wp_be_on {c : wn_C} {i j : Nat} (hi : i < c.n) (hj : j < c.n) (delta : Int32) (k : Nat) : wm_beat (wm_ap 0 (wp_on c i j delta k)) = wp_be c i j delta k := by
  obtain ⟨h1, h2⟩ := wp_it_ph (c := c) hi hj (p := 500) (q := wm_fmod (500 + delta) 1000) ⟨by decide, by decide⟩ (wm_fmod_ph _) k
  unfold wp_on wp_be
  obtain ⟨l, hl, e⟩ := wm_diff h1 h2
  rw [wm_ap_ad, wm_ap_ad, Int32.sub_zero, e, wm_ad_fm l hl]
def sp_X10_comes : cb_Sp := fun _ r M K => match r with
  | [.inl x, .inl y, .inl N, .inl what] => ∃ n h nb, mi_I M n h nb ∧ wg_p n x y (mT 1 M K) (mT 2 M K) fun i j => wg_r 1 100 N (mT 2 M K) fun k => wg_i 0 2 what (mT 2 M K) (mR (vq_comes (mv M n h nb) i j k (wm_ask what)) M K)
  | _ => False
def pt_X10_comes : cb_PT := cb_m 46 4 sp_X10_comes
theorem rc_X10_comes : cb_rc cb_tb RX10 pt_X10_comes := cb_m_rc rfl rfl
def md_X10_comes : cb_D := (RX10, cX10_comes, 7, (some .int), (0, 0, 6, 137), [
  (0, .aload_n 0, 1, 0, 0, 0, 0),
  (1, .iconst 0, 1, 0, 0, 0, 0),
  (2, .putfield 126, 3, 0, 10, 0, 1328),
  (5, .aload_n 0, 1, 0, 0, 0, 0),
  (6, .iload_n 1, 1, 0, 1, 0, 0),
  (7, .iload_n 2, 1, 0, 2, 0, 0),
  (8, .invokevirtual 270, 3, 0, 0, 0, 0),
  (11, .ifCond .ne 33, 3, 0, 44, 0, 0),
  (14, .aload_n 0, 1, 0, 0, 0, 0),
  (15, .iload_n 3, 1, 0, 3, 0, 0),
  (16, .invokestatic 295, 3, 0, 1, 0, 0),
  (19, .ifCond .eq 13, 3, 0, 32, 0, 0),
  (22, .iload 4, 2, 0, 4, 0, 0),
  (24, .iconst 0, 1, 0, 0, 0, 0),
  (25, .iconst 2, 1, 2, 0, 0, 0),
  (26, .invokestatic 160, 3, 0, 2, 0, 0),
  (29, .ifCond .ne 7, 3, 0, 36, 0, 0),
  (32, .iconst 1, 1, 1, 0, 0, 0),
  (33, .goto 4, 3, 0, 37, 0, 0),
  (36, .iconst 0, 1, 0, 0, 0, 0),
  (37, .iconst 2, 1, 2, 0, 0, 0),
  (38, .invokevirtual 200, 3, 0, 3, 0, 0),
  (41, .ifCond .eq 5, 3, 0, 46, 0, 0),
  (44, .iconst 0, 1, 0, 0, 0, 0),
  (45, .ireturn, 1, 0, 0, 0, 0),
  (46, .iconst 0, 1, 0, 0, 0, 0),
  (47, .istore 5, 2, 0, 5, 0, 0),
  (49, .iconst 0, 1, 0, 0, 0, 0),
  (50, .istore 6, 2, 0, 6, 0, 0),
  (52, .iload 6, 2, 0, 6, 0, 0),
  (54, .sipush 1000, 3, 1000, 0, 0, 0),
  (57, .if_icmp .ge 39, 3, 0, 96, 0, 0),
  (60, .iload 5, 2, 0, 5, 0, 0),
  (62, .iconst 0, 1, 0, 0, 0, 0),
  (63, .aload_n 0, 1, 0, 0, 0, 0),
  (64, .iload_n 1, 1, 0, 1, 0, 0),
  (65, .iload_n 2, 1, 0, 2, 0, 0),
  (66, .iload 6, 2, 0, 6, 0, 0),
  (68, .iload_n 3, 1, 0, 3, 0, 0),
  (69, .invokevirtual 352, 3, 0, 4, 0, 0),
  (72, .invokestatic 280, 3, 0, 5, 0, 0),
  (75, .iconst 2, 1, 2, 0, 0, 0),
  (76, .iload 4, 2, 0, 4, 0, 0),
  (78, .isub, 1, 0, 0, 0, 0),
  (79, .if_icmp .ne 7, 3, 0, 86, 0, 0),
  (82, .iconst 1, 1, 1, 0, 0, 0),
  (83, .goto 4, 3, 0, 87, 0, 0),
  (86, .iconst 0, 1, 0, 0, 0, 0),
  (87, .iadd, 1, 0, 0, 0, 0),
  (88, .istore 5, 2, 0, 5, 0, 0),
  (90, .iinc 6 10, 3, 10, 6, 0, 0),
  (93, .goto (-41), 3, 0, 52, 0, 0),
  (96, .iload 5, 2, 0, 5, 0, 0),
  (98, .ireturn, 1, 0, 0, 0, 0)],
  [(0, 270, 3, 0, 0, pt_X10_badPair), (1, 295, 1, 0, 0, pt_X10_areDays), (1, 160, 3, 0, 0, pt_X10_in), (0, 200, 3, 0, 0, pt_X10_bad), (0, 352, 5, 0, 0, pt_X10_deltaOn), (1, 280, 2, 0, 0, pt_X10_stepBy)], [])
set_option maxRecDepth 100000 in
theorem vd_X10_comes : md_X10_comes.cd.all (cb_vE md_X10_comes) = true := by decide +kernel
theorem wd_X10_comes : cb_wd yX10_comes md_X10_comes := ⟨cb_tw (i := 1843) (by decide +kernel), cb_tw (i := 11) (by decide +kernel), by decide, by decide⟩
theorem cs_X10_comes : ∀ X, cb_Bs md_X10_comes X → ∀ g ∈ md_X10_comes.ga, cb_CS cb_tb md_X10_comes X g := fun X B => List.forall_mem_cons.mpr ⟨cb_csV B ok_X10_badPair wd_X10_badPair (cb_tw (i := 1605) (by decide +kernel)) (cb_tw (i := 1607) (by decide +kernel)) (cb_tp (i := 63) (by decide +kernel)) rc_X10_badPair ⟨by decide, by decide⟩ (by decide +kernel), List.forall_mem_cons.mpr ⟨cb_csS B ok_X10_areDays wd_X10_areDays (cb_tw (i := 1702) (by decide +kernel)) (cb_tw (i := 1703) (by decide +kernel)) ⟨by decide, by decide⟩ (by decide +kernel), List.forall_mem_cons.mpr ⟨cb_csS B ok_X10_in wd_X10_in (cb_tw (i := 1504) (by decide +kernel)) (cb_tw (i := 1505) (by decide +kernel)) ⟨by decide, by decide⟩ (by decide +kernel), List.forall_mem_cons.mpr ⟨cb_csV B ok_X10_bad wd_X10_bad (cb_tw (i := 1507) (by decide +kernel)) (cb_tw (i := 1509) (by decide +kernel)) (cb_tp (i := 45) (by decide +kernel)) rc_X10_bad ⟨by decide, by decide⟩ (by decide +kernel), List.forall_mem_cons.mpr ⟨cb_csV B ok_X10_deltaOn wd_X10_deltaOn (cb_tw (i := 1832) (by decide +kernel)) (cb_tw (i := 1834) (by decide +kernel)) (cb_tp (i := 85) (by decide +kernel)) rc_X10_deltaOn ⟨by decide, by decide⟩ (by decide +kernel), List.forall_mem_cons.mpr ⟨cb_csS B ok_X10_stepBy wd_X10_stepBy (cb_tw (i := 1667) (by decide +kernel)) (cb_tw (i := 1668) (by decide +kernel)) ⟨by decide, by decide⟩ (by decide +kernel), fun _ h => nomatch h⟩⟩⟩⟩⟩⟩
theorem ok_X10_comes : cb_MOK cb_tb yX10_comes md_X10_comes pt_X10_comes := by
  refine cb_okm ⟨plainFor_of_name (by decide), rfl⟩ (by decide) cs_X10_comes (by decide) (fun X n0 f i r M hr ha h => ?_)
  have h0 := cb_a1 (T := 46) rfl ha
  subst h0
  match r, hr, h with
  | [.inl x, .inl y, .inl N, .inl what], hr, h =>
    obtain ⟨n, hh, nb, hI, h⟩ := h
    obtain ⟨hn1, hn8, -⟩ := id hI.1
    refine cb_run cb_tb_ok vd_X10_comes (cuts := [52]) 90 ?_
    refine And.intro (cb_on rfl) ⟨n, ⟨hn1, hn8, rfl⟩, fun w => nz_t (And.intro trivial (wg_p0 h w _ (mx2 M 1) rfl)), fun i hi hx j hj hy => ⟨fun e => nz_t (And.intro trivial (((h.2 i hi hx).2 j hj hy).1 e _ (mx2 M 2) rfl)), fun hij => nz_f ?_⟩⟩
    have h := ((h.2 i hi hx).2 j hj hy).2 hij
    refine And.intro trivial (cb_ifz (fun q => And.intro (cb_on rfl) (bad_t rfl (by decide) (ez_t (And.intro trivial (h.1 (mi_in_f q) _ (mx2 M 2) rfl))))) (fun q => ?_))
    obtain ⟨k, k1, k2, ke⟩ := mi_in_yes (lo := 1) (hi := 100) (by decide) (by decide) q
    have h := h.2 k k1 k2 ke
    refine cb_ifnz (fun q => And.intro (cb_on rfl) (bad_f rfl (by decide) (ez_f ?_))) (fun q => And.intro (cb_on rfl) (bad_t rfl (by decide) (ez_t (And.intro trivial (h.1 (mi_in_f q) _ (mx2 M 2) rfl)))))
    have h := h.2 (mi_in_t q)
    have hask := mi_ask (mi_in_t q)
    obtain ⟨V, hV⟩ : ∃ V, V = mv M n hh nb := ⟨_, rfl⟩
    have hVn : V.n = n := by rw [hV]; rfl
    rw [← hV] at h
    have loop : ∀ d, d ≤ 100 → ∀ (z s : Int32) (M2 : cb_M), z = nI (10 * d) → s = wm_sum (fun d => if wp_be (vc V) i j (nI (10 * d)) k = wm_ask what then 1 else 0) d → cb_fr fr_X M M2 → cb_gI M2 46 0 0 = 0 → cb_Gd cb_tb md_X10_comes X 52 [some (cb_r 46 0), some (cb_i (x)), some (cb_i (y)), some (cb_i (N)), some (cb_i (what)), some (cb_i (s)), some (cb_i (z))] [] (cb_aS n0, f) M2 0 0 := by
      refine cb_up (fun d => ∀ (z s : Int32) (M2 : cb_M), z = nI (10 * d) → s = wm_sum (fun d => if wp_be (vc V) i j (nI (10 * d)) k = wm_ask what then 1 else 0) d → cb_fr fr_X M M2 → cb_gI M2 46 0 0 = 0 → cb_Gd cb_tb md_X10_comes X 52 [some (cb_r 46 0), some (cb_i (x)), some (cb_i (y)), some (cb_i (N)), some (cb_i (what)), some (cb_i (s)), some (cb_i (z))] [] (cb_aS n0, f) M2 0 0) ?_ ?_
      · intro z s M2 hz hs hF h0
        refine cb_run cb_tb_ok vd_X10_comes (cuts := [52]) 90 ?_
        exact cb_lout (N := 1000) hz rfl (And.intro trivial (cb_eqK (h M2 hF h0) hs))
      · intro d hd ih z s M2 hz hs hF h0
        subst hz
        refine cb_run cb_tb_ok vd_X10_comes (cuts := [52]) 90 ?_
        refine cb_lin (N := 1000) (n := 1000) rfl rfl (by omega) (by decide) (And.intro (cb_on rfl) ⟨n, hh, nb, i, j, k, ⟨mi_I_X hF hI, hx, hi, hy, hj, hij, ke, by omega⟩, fun M3 hF3 h03 => And.intro ?_ ?_⟩)
        · exact ⟨⟨by decide, by decide⟩, wm_fmod_ph _⟩
        · rw [mv_X hF, ← hV]
          have nx := fun s' hs' => ih (nI (10 * d) + 10) s' M3 (by rw [show (10 : Int32) = nI 10 from rfl, nI_add]; rfl) hs' (hF.trans hF3) (h03.trans h0)
          show (¬ wm_beat (wm_ap 0 (wp_on (vc V) i j (nI (10 * d)) k)) = 2 - what → _) ∧ (¬ ¬ wm_beat (wm_ap 0 (wp_on (vc V) i j (nI (10 * d)) k)) = 2 - what → _)
          rw [wp_be_on (c := vc V) (show i < V.n by omega) (show j < V.n by omega), hask]
          refine cb_ifne (fun q => nx _ ?_) (fun q => nx _ ?_)
          · rw [wm_sum, if_neg q, ← hs]
          · rw [wm_sum, if_pos q, ← hs]
    exact loop 0 (Nat.zero_le _) _ _ _ rfl rfl (mx1 M) rfl
