/-! ===== the reference: days, undo, count, fault, feed ===== -/
def fr_K (t _j : Nat) : Bool := Nat.beq t 75 || Nat.beq t 77
def sp_X10_keeps : cb_Sp := fun _ r M K => match r with
  | [] => ∃ n d, (cb_gI M 49 0 1 = nI n ∧ n ≤ 8 ∧ cb_gI M 46 0 33 = nI d ∧ d ≤ 400) ∧ ∀ M', cb_fr fr_K M M' → (∀ t e i, ¬ e = d → cb_gI M' t e i = cb_gI M t e i) → (∀ i, i < n → cb_gI M' 75 d i = cb_gI M 69 0 i ∧ cb_gI M' 77 d i = cb_gI M 70 0 i) → K none M'
  | _ => False
def pt_X10_keeps : cb_PT := cb_m 46 0 sp_X10_keeps
theorem rc_X10_keeps : cb_rc cb_tb RX10 pt_X10_keeps := cb_m_rc rfl rfl
def md_X10_keeps : cb_D := (RX10, cX10_keeps, 2, none, (0, 0, 0, 0), [
  (0, .iconst 0, 1, 0, 0, 0, 0),
  (1, .istore_n 1, 1, 0, 1, 0, 0),
  (2, .iload_n 1, 1, 0, 1, 0, 0),
  (3, .aload_n 0, 1, 0, 0, 0, 0),
  (4, .getfield 20, 3, 0, 10, 10, 1338),
  (7, .iconst 1, 1, 1, 0, 0, 0),
  (8, .iaload, 1, 0, 0, 0, 0),
  (9, .if_icmp .ge 43, 3, 0, 52, 0, 0),
  (12, .aload_n 0, 1, 0, 0, 0, 0),
  (13, .getfield 85, 3, 0, 10, 31, 1359),
  (16, .aload_n 0, 1, 0, 0, 0, 0),
  (17, .getfield 210, 3, 0, 10, 33, 1361),
  (20, .aaload, 1, 0, 0, 0, 0),
  (21, .iload_n 1, 1, 0, 1, 0, 0),
  (22, .aload_n 0, 1, 0, 0, 0, 0),
  (23, .getfield 70, 3, 0, 10, 26, 1354),
  (26, .iload_n 1, 1, 0, 1, 0, 0),
  (27, .iaload, 1, 0, 0, 0, 0),
  (28, .iastore, 1, 0, 0, 0, 0),
  (29, .aload_n 0, 1, 0, 0, 0, 0),
  (30, .getfield 88, 3, 0, 10, 32, 1360),
  (33, .aload_n 0, 1, 0, 0, 0, 0),
  (34, .getfield 210, 3, 0, 10, 33, 1361),
  (37, .aaload, 1, 0, 0, 0, 0),
  (38, .iload_n 1, 1, 0, 1, 0, 0),
  (39, .aload_n 0, 1, 0, 0, 0, 0),
  (40, .getfield 73, 3, 0, 10, 27, 1355),
  (43, .iload_n 1, 1, 0, 1, 0, 0),
  (44, .iaload, 1, 0, 0, 0, 0),
  (45, .iastore, 1, 0, 0, 0, 0),
  (46, .iinc 1 1, 3, 1, 1, 0, 0),
  (49, .goto (-47), 3, 0, 2, 0, 0),
  (52, .return_, 1, 0, 0, 0, 0)],
  [], [])
set_option maxRecDepth 100000 in
theorem vd_X10_keeps : md_X10_keeps.cd.all (cb_vE md_X10_keeps) = true := by decide +kernel
theorem wd_X10_keeps : cb_wd yX10_keeps md_X10_keeps := ⟨cb_tw (i := 1645) (by decide +kernel), cb_tw (i := 11) (by decide +kernel), by decide, by decide⟩
theorem cs_X10_keeps : ∀ X, cb_Bs md_X10_keeps X → ∀ g ∈ md_X10_keeps.ga, cb_CS cb_tb md_X10_keeps X g := fun X B => fun _ h => nomatch h
theorem ok_X10_keeps : cb_MOK cb_tb yX10_keeps md_X10_keeps pt_X10_keeps := by
  refine cb_okm ⟨plainFor_of_name (by decide), rfl⟩ (by decide) cs_X10_keeps (by decide) (fun X n0 f i r M hr ha h => ?_)
  have h0 := cb_a1 (T := 46) rfl ha
  subst h0
  match r, hr, h with
  | [], hr, h =>
    obtain ⟨n, d, ⟨hn, hn8, hd, hd4⟩, h⟩ := h
    have hd8 : vp_in (nI d) 401 := vp_in_nI (by omega) (by decide)
    have hdc : (nI d).toNatClampNeg = d := nI_clamp (by omega)
    have a5 : cb_aS n0 75 d = true := by
      show Nat.blt d 401 = true
      exact Nat.blt_eq.mpr (by omega)
    have a7 : cb_aS n0 77 d = true := by
      show Nat.blt d 401 = true
      exact Nat.blt_eq.mpr (by omega)
    have loop : ∀ j, j ≤ n → ∀ (y : Int32) (M2 : cb_M), y = nI j → cb_fr fr_K M M2 → (∀ t e i, ¬ e = d → cb_gI M2 t e i = cb_gI M t e i) → (∀ i, i < j → cb_gI M2 75 d i = cb_gI M 69 0 i ∧ cb_gI M2 77 d i = cb_gI M 70 0 i) → cb_Gd cb_tb md_X10_keeps X 2 [some (cb_r 46 0), some (cb_i (y))] [] (cb_aS n0, f) M2 0 0 := by
      refine cb_up (fun j => ∀ (y : Int32) (M2 : cb_M), y = nI j → cb_fr fr_K M M2 → (∀ t e i, ¬ e = d → cb_gI M2 t e i = cb_gI M t e i) → (∀ i, i < j → cb_gI M2 75 d i = cb_gI M 69 0 i ∧ cb_gI M2 77 d i = cb_gI M 70 0 i) → cb_Gd cb_tb md_X10_keeps X 2 [some (cb_r 46 0), some (cb_i (y))] [] (cb_aS n0, f) M2 0 0) ?_ ?_
      · intro y M2 hy hF he hz
        refine cb_run cb_tb_ok vd_X10_keeps (cuts := [2]) 90 ?_
        exact And.intro (mi_v 1 (by decide)) (cb_lout hy ((hF.1 49 0 1 rfl).trans hn) (And.intro rfl (h M2 hF he hz)))
      · intro j hj ih y M2 hy hF he hz
        have hy8 : vp_in y 8 := by rw [hy]; exact cb_in8 hj hn8 (by decide)
        have hyc : y.toNatClampNeg = j := by rw [hy]; exact nI_clamp (by omega)
        have ed : cb_gI M2 46 0 33 = nI d := (hF.1 46 0 33 rfl).trans hd
        have v4 : vp_in (cb_gI M2 46 0 33) 401 := by rw [ed]; exact hd8
        have vc4 : (cb_gI M2 46 0 33).toNatClampNeg = d := by rw [ed]; exact hdc
        refine cb_run cb_tb_ok vd_X10_keeps (cuts := [2]) 90 ?_
        refine And.intro (mi_v 1 (by decide)) (cb_lin hy ((hF.1 49 0 1 rfl).trans hn) hj (by omega) (And.intro v4 (And.intro hy8 (cb_av.of (by rw [vc4]; exact a5) (And.intro hy8 (And.intro v4 (And.intro hy8 (cb_av.of (by show cb_aS n0 77 (cb_gI M2 46 0 33).toNatClampNeg = true; rw [vc4]; exact a7) (And.intro hy8 ?_)))))))))
        show cb_Gd cb_tb md_X10_keeps X 2 [some (cb_r 46 0), some (cb_i (y + 1))] [] (cb_aS n0, f) (cb_sI (cb_sI M2 75 (cb_gI M2 46 0 33).toNatClampNeg y.toNatClampNeg (cb_gI M2 69 0 y.toNatClampNeg)) 77 (cb_gI M2 46 0 33).toNatClampNeg y.toNatClampNeg (cb_gI M2 70 0 y.toNatClampNeg)) 0 0
        rw [vc4, hyc, hF.1 69 0 j rfl, hF.1 70 0 j rfl]
        refine ih _ _ (by rw [hy, nI_1]) ((hF.set _ rfl).set _ rfl) (fun t e i q => ?_) (fun i hi => ?_)
        · rw [cb_gs_ne (fun w => q w.2.1), cb_gs_ne (fun w => q w.2.1)]
          exact he t e i q
        · by_cases q : i = j
          · subst q
            refine ⟨?_, cb_gs_eq _ _ _ _ _⟩
            rw [cb_gs_ne (by omega), cb_gs_eq]
          · rw [cb_gs_ne (by omega), cb_gs_ne (fun w => q w.2.2), cb_gs_ne (fun w => q w.2.2), cb_gs_ne (by omega)]
            exact hz i (by omega)
    exact cb_run cb_tb_ok vd_X10_keeps (cuts := [2]) 40 (loop 0 (Nat.zero_le _) _ M rfl (cb_fr.refl M) (fun _ _ _ _ => rfl) (fun i hi => absurd hi (by omega)))
def fr_Y (t j : Nat) : Bool := fr_X t j || (fr_K t j || (Nat.beq t 69 || (Nat.beq t 70 || (Nat.beq t 46 && Nat.beq j 33))))
theorem fr_X_Y : ∀ t j, fr_X t j = true → fr_Y t j = true := fun t j h => by unfold fr_Y; rw [h]; rfl
theorem fr_K_Y : ∀ t j, fr_K t j = true → fr_Y t j = true := fun t j h => by unfold fr_Y; rw [h]; simp
/-- so many days have gone -/
def md_days (M : cb_M) (n d : Nat) (S : Nat → wm_S) (k : Nat) (M' : cb_M) : Prop := cb_fr fr_Y M M' ∧ cb_gI M' 46 0 33 = nI (d + k) ∧ (∀ i, i < n → cb_gI M' 69 0 i = (S k).2.1 i ∧ cb_gI M' 70 0 i = (S k).2.2 i) ∧ (∀ t e i, (t = 75 ∨ t = 77) → e < d → cb_gI M' t e i = cb_gI M t e i) ∧ (∀ e, e < k → ∀ i, i < n → cb_gI M' 75 (d + e) i = (S e).2.1 i ∧ cb_gI M' 77 (d + e) i = (S e).2.2 i) ∧ cb_gI M' 46 0 0 = 0
theorem mk_c_Y {M M' : cb_M} (h : cb_fr fr_Y M M') (n : Nat) : mk_c M' n = mk_c M n := by
  have e : (fun i j => cb_gI M' 63 i j) = fun i j => cb_gI M 63 i j := funext fun i => funext fun j => h.1 63 i j rfl
  unfold mk_c mk_h
  rw [e, h.fn 68 0 (fun _ => rfl), h.fn 64 0 (fun _ => rfl), h.fn 65 0 (fun _ => rfl), h.fn 67 0 (fun _ => rfl), h.fn 51 0 (fun _ => rfl), h.fn 55 0 (fun _ => rfl), h.fn 66 0 (fun _ => rfl)]
theorem mk_G_Y {M M' : cb_M} (h : cb_fr fr_Y M M') {n : Nat} (hG : mk_G M n) : mk_G M' n := by
  unfold mk_G at *
  rw [h.1 49 0 1 rfl, h.fn 64 0 (fun _ => rfl), h.fn 65 0 (fun _ => rfl), h.fn 67 0 (fun _ => rfl), h.fn 55 0 (fun _ => rfl)]
  exact hG
theorem wn_days_ph {c : wn_C} {u : wm_U} {dp : wm_F} {s : wm_S} (h : wn_Ph c.n s) : ∀ k, wn_Ph c.n (wn_days c u dp s k)
  | 0 => h
  | k + 1 => wn_day_ph (wn_days_ph h k)
def sp_X10_days : cb_Sp := fun _ r M K => match r with
  | [.inl N] => ∃ n h nb d, (mi_I M n h nb ∧ cb_gI M 46 0 33 = nI d ∧ d ≤ 400) ∧ wg_r 1 400 N (mT 1 M K) fun k => ∀ M', md_days M n d (vq_on (mv M n h nb)) (min k (400 - d)) M' → K (some (cb_i (nI (min k (400 - d))))) M'
  | _ => False
def pt_X10_days : cb_PT := cb_m 46 1 sp_X10_days
theorem rc_X10_days : cb_rc cb_tb RX10 pt_X10_days := cb_m_rc rfl rfl
def md_X10_days : cb_D := (RX10, cX10_days, 4, (some .int), (0, 0, 6, 134), [
  (0, .aload_n 0, 1, 0, 0, 0, 0),
  (1, .iconst 0, 1, 0, 0, 0, 0),
  (2, .putfield 126, 3, 0, 10, 0, 1328),
  (5, .aload_n 0, 1, 0, 0, 0, 0),
  (6, .iload_n 1, 1, 0, 1, 0, 0),
  (7, .iconst 1, 1, 1, 0, 0, 0),
  (8, .sipush 400, 3, 400, 0, 0, 0),
  (11, .invokestatic 160, 3, 0, 0, 0, 0),
  (14, .ifCond .ne 7, 3, 0, 21, 0, 0),
  (17, .iconst 1, 1, 1, 0, 0, 0),
  (18, .goto 4, 3, 0, 22, 0, 0),
  (21, .iconst 0, 1, 0, 0, 0, 0),
  (22, .iconst 1, 1, 1, 0, 0, 0),
  (23, .invokevirtual 200, 3, 0, 1, 0, 0),
  (26, .ifCond .eq 5, 3, 0, 31, 0, 0),
  (29, .iconst 0, 1, 0, 0, 0, 0),
  (30, .ireturn, 1, 0, 0, 0, 0),
  (31, .iconst 0, 1, 0, 0, 0, 0),
  (32, .istore_n 2, 1, 0, 2, 0, 0),
  (33, .iload_n 2, 1, 0, 2, 0, 0),
  (34, .iload_n 1, 1, 0, 1, 0, 0),
  (35, .if_icmp .ge 80, 3, 0, 115, 0, 0),
  (38, .aload_n 0, 1, 0, 0, 0, 0),
  (39, .getfield 210, 3, 0, 10, 33, 1361),
  (42, .sipush 400, 3, 400, 0, 0, 0),
  (45, .if_icmp .ge 70, 3, 0, 115, 0, 0),
  (48, .aload_n 0, 1, 0, 0, 0, 0),
  (49, .invokevirtual 273, 3, 0, 2, 0, 0),
  (52, .aload_n 0, 1, 0, 0, 0, 0),
  (53, .iconst 1, 1, 1, 0, 0, 0),
  (54, .invokevirtual 276, 3, 0, 3, 0, 0),
  (57, .iconst 0, 1, 0, 0, 0, 0),
  (58, .istore_n 3, 1, 0, 3, 0, 0),
  (59, .iload_n 3, 1, 0, 3, 0, 0),
  (60, .aload_n 0, 1, 0, 0, 0, 0),
  (61, .getfield 20, 3, 0, 10, 10, 1338),
  (64, .iconst 1, 1, 1, 0, 0, 0),
  (65, .iaload, 1, 0, 0, 0, 0),
  (66, .if_icmp .ge 33, 3, 0, 99, 0, 0),
  (69, .aload_n 0, 1, 0, 0, 0, 0),
  (70, .getfield 70, 3, 0, 10, 26, 1354),
  (73, .iload_n 3, 1, 0, 3, 0, 0),
  (74, .aload_n 0, 1, 0, 0, 0, 0),
  (75, .getfield 94, 3, 0, 10, 37, 1365),
  (78, .iload_n 3, 1, 0, 3, 0, 0),
  (79, .iaload, 1, 0, 0, 0, 0),
  (80, .iastore, 1, 0, 0, 0, 0),
  (81, .aload_n 0, 1, 0, 0, 0, 0),
  (82, .getfield 73, 3, 0, 10, 27, 1355),
  (85, .iload_n 3, 1, 0, 3, 0, 0),
  (86, .aload_n 0, 1, 0, 0, 0, 0),
  (87, .getfield 97, 3, 0, 10, 38, 1366),
  (90, .iload_n 3, 1, 0, 3, 0, 0),
  (91, .iaload, 1, 0, 0, 0, 0),
  (92, .iastore, 1, 0, 0, 0, 0),
  (93, .iinc 3 1, 3, 1, 3, 0, 0),
  (96, .goto (-37), 3, 0, 59, 0, 0),
  (99, .aload_n 0, 1, 0, 0, 0, 0),
  (100, .dup, 1, 0, 0, 0, 0),
  (101, .getfield 210, 3, 0, 10, 33, 1361),
  (104, .iconst 1, 1, 1, 0, 0, 0),
  (105, .iadd, 1, 0, 0, 0, 0),
  (106, .putfield 210, 3, 0, 10, 33, 1361),
  (109, .iinc 2 1, 3, 1, 2, 0, 0),
  (112, .goto (-79), 3, 0, 33, 0, 0),
  (115, .iload_n 2, 1, 0, 2, 0, 0),
  (116, .ireturn, 1, 0, 0, 0, 0)],
  [(1, 160, 3, 0, 0, pt_X10_in), (0, 200, 3, 0, 0, pt_X10_bad), (0, 273, 1, 0, 0, pt_X10_keeps), (0, 276, 2, 0, 0, pt_X10_goesOn)], [])
set_option maxRecDepth 100000 in
theorem vd_X10_days : md_X10_days.cd.all (cb_vE md_X10_days) = true := by decide +kernel
theorem wd_X10_days : cb_wd yX10_days md_X10_days := ⟨cb_tw (i := 1641) (by decide +kernel), cb_tw (i := 11) (by decide +kernel), by decide, by decide⟩
theorem cs_X10_days : ∀ X, cb_Bs md_X10_days X → ∀ g ∈ md_X10_days.ga, cb_CS cb_tb md_X10_days X g := fun X B => List.forall_mem_cons.mpr ⟨cb_csS B ok_X10_in wd_X10_in (cb_tw (i := 1504) (by decide +kernel)) (cb_tw (i := 1505) (by decide +kernel)) ⟨by decide, by decide⟩ (by decide +kernel), List.forall_mem_cons.mpr ⟨cb_csV B ok_X10_bad wd_X10_bad (cb_tw (i := 1507) (by decide +kernel)) (cb_tw (i := 1509) (by decide +kernel)) (cb_tp (i := 45) (by decide +kernel)) rc_X10_bad ⟨by decide, by decide⟩ (by decide +kernel), List.forall_mem_cons.mpr ⟨cb_csV B ok_X10_keeps wd_X10_keeps (cb_tw (i := 1642) (by decide +kernel)) (cb_tw (i := 1644) (by decide +kernel)) (cb_tp (i := 67) (by decide +kernel)) rc_X10_keeps ⟨by decide, by decide⟩ (by decide +kernel), List.forall_mem_cons.mpr ⟨cb_csV B ok_X10_goesOn wd_X10_goesOn (cb_tw (i := 1646) (by decide +kernel)) (cb_tw (i := 1648) (by decide +kernel)) (cb_tp (i := 68) (by decide +kernel)) rc_X10_goesOn ⟨by decide, by decide⟩ (by decide +kernel), fun _ h => nomatch h⟩⟩⟩⟩
theorem ok_X10_days : cb_MOK cb_tb yX10_days md_X10_days pt_X10_days := by
  refine cb_okm ⟨plainFor_of_name (by decide), rfl⟩ (by decide) cs_X10_days (by decide) (fun X n0 f i r M hr ha h => ?_)
  have h0 := cb_a1 (T := 46) rfl ha
  subst h0
  match r, hr, h with
  | [.inl N], hr, h =>
    obtain ⟨n, hh, nb, d, ⟨hI, hday, hd4⟩, h⟩ := h
    obtain ⟨hG, -, hp, -, -, -, hu, hw, hpr⟩ := id hI
    obtain ⟨hn1, hn8, -⟩ := id hG
    refine cb_run cb_tb_ok vd_X10_days (cuts := [33]) 90 ?_
    refine cb_ifnz (fun q => And.intro (cb_on rfl) (bad_f rfl (by decide) (ez_f ?_))) (fun q => And.intro (cb_on rfl) (bad_t rfl (by decide) (ez_t (And.intro trivial (h.1 (mi_in_f q) _ (mx2 M 1) rfl)))))
    obtain ⟨k, k1, k2, ke⟩ := mi_in_yes (lo := 1) (hi := 400) (by decide) (by decide) q
    have h := h.2 k k1 k2 ke
    obtain ⟨V, hV⟩ : ∃ V, V = mv M n hh nb := ⟨_, rfl⟩
    have hVn : V.n = n := by rw [hV]; rfl
    obtain ⟨kk, hkk⟩ : ∃ kk, kk = min k (400 - d) := ⟨_, rfl⟩
    rw [← hV, ← hkk] at h
    have hVp : wn_Ph V.n V.s := fun i hi => by
      rw [hV]
      show wm_ph (wn_tr n (cb_gI M 69 0) i)
      rw [wn_tr_lt (by omega)]
      exact (hp i (by omega)).2
    have hSd : ∀ g, (vq_on V g).1 = nI (d + g) := fun g => by
      unfold vq_on
      rw [wn_days_day, show V.s.1 = nI d by rw [hV]; exact hday, nI_add]
    have hSt : ∀ g, (vq_on V g) = ((vq_on V g).1, wn_tr n (vq_on V g).2.1, wn_tr n (vq_on V g).2.2) := fun g => by
      have key : ∀ g, (∀ i, ¬ i < n → (vq_on V g).2.1 i = 0 ∧ (vq_on V g).2.2 i = 0) := fun g => by
        induction g with
        | zero =>
          intro i hi
          show V.s.2.1 i = 0 ∧ V.s.2.2 i = 0
          rw [hV]
          exact ⟨wn_tr_ge hi, wn_tr_ge hi⟩
        | succ g ih =>
          intro i hi
          have := wn_day_0 (c := vc V) (u := wu_all V.n) (damp := wm_dmp V.dp (vq_on V g).1) (s := vq_on V g) (i := i) (fun w => hi (by have := w.1; rw [← hVn]; exact this))
          exact ⟨this.1.trans (ih i hi).1, this.2.trans (ih i hi).2⟩
      refine Prod.ext rfl (Prod.ext (funext fun i => ?_) (funext fun i => ?_))
      · show _ = wn_tr n _ i
        by_cases q : i < n
        · rw [wn_tr_lt q]
        · rw [wn_tr_ge q, (key g i q).1]
      · show _ = wn_tr n _ i
        by_cases q : i < n
        · rw [wn_tr_lt q]
        · rw [wn_tr_ge q, (key g i q).2]
    have loop : ∀ g, g ≤ kk → ∀ (y : Int32) (v : Option cb_V) (M2 : cb_M), y = nI g → md_days M n d (vq_on V) g M2 → cb_Gd cb_tb md_X10_days X 33 [some (cb_r 46 0), some (cb_i (N)), some (cb_i (y)), v] [] (cb_aS n0, f) M2 0 0 := by
      refine cb_up (fun g => ∀ (y : Int32) (v : Option cb_V) (M2 : cb_M), y = nI g → md_days M n d (vq_on V) g M2 → cb_Gd cb_tb md_X10_days X 33 [some (cb_r 46 0), some (cb_i (N)), some (cb_i (y)), v] [] (cb_aS n0, f) M2 0 0) ?_ ?_
      · intro y v M2 hy hD
        refine cb_run cb_tb_ok vd_X10_days (cuts := [33, 115]) 90 ?_
        have fin : cb_Gd cb_tb md_X10_days X 115 [some (cb_r 46 0), some (cb_i (N)), some (cb_i (y)), v] [] (cb_aS n0, f) M2 0 0 := by
          refine cb_run cb_tb_ok vd_X10_days (cuts := []) 90 ?_
          exact And.intro trivial (cb_eqK (h M2 hD) hy)
        refine cb_ifge (fun q => fin) (fun q => cb_ifge (fun q1 => fin) (fun q1 => ?_))
        have q : y < N := q
        have q1 : cb_gI M2 46 0 33 < 400 := q1
        rw [hy, ke] at q
        rw [hD.2.1] at q1
        have := (nI_ltI (by omega) (by omega)).mp q
        have := (nI_ltI (b := 400) (by omega) (by decide)).mp q1
        omega
      · intro g hg ih y v M2 hy hD
        obtain ⟨hF, h33, hph, hlo, hro, h0⟩ := id hD
        have hp2 : ∀ i, i < n → wm_ph (cb_gI M2 69 0 i) := fun i hi => by
          rw [(hph i hi).1]
          have := wn_days_ph (c := vc V) (u := wu_all V.n) (dp := V.dp) hVp g
          exact this i (show i < V.n by omega)
        have eb : mk_b M2 n = vq_on V g := by
          rw [hSt g]
          unfold mk_b
          rw [h33, hSd g, wn_tr_ext (fun i hi => (hph i hi).1), wn_tr_ext (fun i hi => (hph i hi).2)]
        refine cb_run cb_tb_ok vd_X10_days (cuts := [33, 59]) 90 ?_
        refine And.intro (fun q => ?_) (fun _ => And.intro (fun q => ?_) (fun _ => And.intro (cb_on rfl) ⟨n, d + g, ⟨(hF.1 49 0 1 rfl).trans hn1, hn8, h33, by omega⟩, fun M3 hF3 he3 hk3 => And.intro (cb_on rfl) ⟨n, 1, d + g, ⟨mk_G_Y (hF.trans (hF3.mono fr_K_Y)) hG, fun i hi => ?_, rfl, by decide, ?_, by omega, ?_⟩, fun M4 hF4 hP4 hs4 _ => ?_⟩⟩))
        · have q : N ≤ y := q
          rw [hy, ke] at q
          have := (nI_leI (by omega) (by omega)).mp q
          omega
        · have q : 400 ≤ cb_gI M2 46 0 33 := q
          rw [h33] at q
          have := (nI_leI (a := 400) (by decide) (by omega)).mp q
          omega
        · rw [hF3.1 69 0 i rfl]
          exact hp2 i hi
        · rw [hF3.1 46 0 33 rfl]
          exact h33
        · rw [hF3.1 46 0 45 rfl]
          exact (hF.1 46 0 45 rfl).trans hpr
        · have hY4 := (hF.trans (hF3.mono fr_K_Y)).trans ((hF4.mono fr_n_X).mono fr_X_Y)
          have es : mk_s M4 n = vq_on V (g + 1) := by
            have hu3 : cb_gI M3 46 0 41 = 255 := by rw [hF3.1 46 0 41 rfl]; exact (hF.1 46 0 41 rfl).trans hu
            have hr3 : cb_gI M3 46 0 45 = 0 := by rw [hF3.1 46 0 45 rfl]; exact (hF.1 46 0 45 rfl).trans hpr
            have hw3 : cb_gI M3 46 0 44 = 0 := by rw [hF3.1 46 0 44 rfl]; exact (hF.1 46 0 44 rfl).trans hw
            have eb3 : mk_b M3 n = mk_b M2 n := by
              unfold mk_b
              rw [hF3.1 46 0 33 rfl, hF3.fn 69 0 (fun _ => rfl), hF3.fn 70 0 (fun _ => rfl)]
            rw [hs4 hw3, mk_c_Y (hF.trans (hF3.mono fr_K_Y)), mu_all hn8 hu3 hr3, eb3, eb, hF3.fn 53 0 (fun _ => rfl), hF.fn 53 0 (fun _ => rfl), mv_c hI, ← hV]
            have edp : V.dp = wn_tr 400 (cb_gI M 53 0) := by rw [hV]; rfl
            show wn_days (vc V) (wu_all n) (cb_gI M 53 0) (vq_on V g) 1 = wn_days (vc V) (wu_all V.n) V.dp V.s (g + 1)
            rw [← wn_days_tr (dp := cb_gI M 53 0), ← edp, ← hVn]
            rfl
          have h33' : cb_gI M4 46 0 33 = nI (d + g) := by rw [hF4.1 46 0 33 rfl, hF3.1 46 0 33 rfl]; exact h33
          have r4 : ∀ t e i, (t = 75 ∨ t = 77) → cb_gI M4 t e i = cb_gI M3 t e i := fun t e i ht => by
            rcases ht with rfl | rfl
            · exact hF4.1 75 e i rfl
            · exact hF4.1 77 e i rfl
          have inner : ∀ j, j ≤ n → ∀ (z : Int32) (M5 : cb_M), z = nI j → cb_fr fr_Y M M5 → cb_gI M5 46 0 33 = nI (d + g) → cb_gI M5 46 0 0 = 0 → (∀ t e i, (t = 75 ∨ t = 77) → cb_gI M5 t e i = cb_gI M3 t e i) → (∀ i, i < n → cb_gI M5 80 0 i = (vq_on V (g + 1)).2.1 i ∧ cb_gI M5 81 0 i = (vq_on V (g + 1)).2.2 i) → (∀ i, i < j → cb_gI M5 69 0 i = (vq_on V (g + 1)).2.1 i ∧ cb_gI M5 70 0 i = (vq_on V (g + 1)).2.2 i) → cb_Gd cb_tb md_X10_days X 59 [some (cb_r 46 0), some (cb_i (N)), some (cb_i (y)), some (cb_i (z))] [] (cb_aS n0, f) M5 0 0 := by
            refine cb_up (fun j => ∀ (z : Int32) (M5 : cb_M), z = nI j → cb_fr fr_Y M M5 → cb_gI M5 46 0 33 = nI (d + g) → cb_gI M5 46 0 0 = 0 → (∀ t e i, (t = 75 ∨ t = 77) → cb_gI M5 t e i = cb_gI M3 t e i) → (∀ i, i < n → cb_gI M5 80 0 i = (vq_on V (g + 1)).2.1 i ∧ cb_gI M5 81 0 i = (vq_on V (g + 1)).2.2 i) → (∀ i, i < j → cb_gI M5 69 0 i = (vq_on V (g + 1)).2.1 i ∧ cb_gI M5 70 0 i = (vq_on V (g + 1)).2.2 i) → cb_Gd cb_tb md_X10_days X 59 [some (cb_r 46 0), some (cb_i (N)), some (cb_i (y)), some (cb_i (z))] [] (cb_aS n0, f) M5 0 0) ?_ ?_
            · intro z M5 hz hF5 h335 h05 hr5 hs5 hv5
              refine cb_run cb_tb_ok vd_X10_days (cuts := [33, 59]) 90 ?_
              refine And.intro (mi_v 1 (by decide)) (cb_lout hz ((hF5.1 49 0 1 rfl).trans hn1) ?_)
              show cb_Gd cb_tb md_X10_days X 33 [some (cb_r 46 0), some (cb_i (N)), some (cb_i (y + 1)), some (cb_i (z))] [] (cb_aS n0, f) (cb_sI M5 46 0 33 (cb_gI M5 46 0 33 + 1)) 0 0
              rw [h335, nI_1]
              refine ih _ _ _ (by rw [hy, nI_1]) ⟨hF5.set _ rfl, cb_gs_eq _ _ _ _ _, hv5, fun t e i ht he => ?_, fun e he i hi => ?_, h05⟩
              · have : cb_gI (cb_sI M5 46 0 33 (nI (d + g + 1))) t e i = cb_gI M5 t e i := cb_gs_ne (by omega)
                rw [this, hr5 t e i ht, he3 t e i (by omega)]
                exact hlo t e i ht he
              · show cb_gI M5 75 (d + e) i = _ ∧ cb_gI M5 77 (d + e) i = _
                rw [hr5 75 _ _ (Or.inl rfl), hr5 77 _ _ (Or.inr rfl)]
                by_cases q : e = g
                · subst q
                  rw [(hk3 i hi).1, (hk3 i hi).2]
                  exact hph i hi
                · rw [he3 75 _ _ (by omega), he3 77 _ _ (by omega)]
                  exact hro e (by omega) i hi
            · intro j hj ih2 z M5 hz hF5 h335 h05 hr5 hs5 hv5
              have hz8 : vp_in z 8 := by rw [hz]; exact cb_in8 hj hn8 (by decide)
              have hzc : z.toNatClampNeg = j := by rw [hz]; exact nI_clamp (by omega)
              refine cb_run cb_tb_ok vd_X10_days (cuts := [33, 59]) 90 ?_
              refine And.intro (mi_v 1 (by decide)) (cb_lin hz ((hF5.1 49 0 1 rfl).trans hn1) hj (by omega) (And.intro hz8 (And.intro hz8 (And.intro hz8 (And.intro hz8 ?_)))))
              show cb_Gd cb_tb md_X10_days X 59 [some (cb_r 46 0), some (cb_i (N)), some (cb_i (y)), some (cb_i (z + 1))] [] (cb_aS n0, f) (cb_sI (cb_sI M5 69 0 z.toNatClampNeg (cb_gI M5 80 0 z.toNatClampNeg)) 70 0 z.toNatClampNeg (cb_gI M5 81 0 z.toNatClampNeg)) 0 0
              rw [hzc]
              refine ih2 _ _ (by rw [hz, nI_1]) ((hF5.set _ rfl).set _ rfl) h335 h05 (fun t e i ht => ?_) hs5 (fun i hi => ?_)
              · rw [cb_gs_ne (by omega), cb_gs_ne (by omega)]
                exact hr5 t e i ht
              · by_cases q : i = j
                · subst q
                  rw [cb_gs_ne (by omega), cb_gs_eq, cb_gs_eq]
                  exact hs5 i hj
                · rw [cb_gs_ne (by omega), cb_gs_ne (fun w => q w.2.2), cb_gs_ne (fun w => q w.2.2), cb_gs_ne (by omega)]
                  exact hv5 i (by omega)
          refine inner 0 (Nat.zero_le _) _ M4 rfl hY4 h33' ?_ r4 (fun i hi => ?_) (fun i hi => absurd hi (by omega))
          · rw [hF4.1 46 0 0 rfl, hF3.1 46 0 0 rfl]
            exact h0
          · rw [← es]
            exact ⟨(wn_tr_lt hi).symm, (wn_tr_lt hi).symm⟩
    refine loop 0 (Nat.zero_le _) _ _ _ rfl ⟨(mx1 M).mono fr_X_Y, hday, fun i hi => ?_, fun _ _ _ ht _ => ?_, fun e he => absurd he (by omega), rfl⟩
    · show cb_gI M 69 0 i = V.s.2.1 i ∧ cb_gI M 70 0 i = V.s.2.2 i
      rw [hV]
      exact ⟨(wn_tr_lt hi).symm, (wn_tr_lt hi).symm⟩
    · exact cb_gs_ne (by omega)
