/-! ===== the reference: a day, days ===== -/
def fr_n (t j : Nat) : Bool := Nat.beq t 80 || (Nat.beq t 81 || (Nat.beq t 82 || (Nat.beq t 83 || (Nat.beq t 46 && (Nat.beq j 42 || Nat.beq j 43)))))
theorem mk_h_n {M M' : cb_M} (h : cb_fr fr_n M M') : mk_h M' = mk_h M := by
  have e : (fun i j => cb_gI M' 63 i j) = fun i j => cb_gI M 63 i j := funext fun i => funext fun j => h.1 63 i j rfl
  unfold mk_h
  rw [e, h.fn 68 0 (fun _ => rfl), h.fn 64 0 (fun _ => rfl), h.fn 65 0 (fun _ => rfl), h.fn 67 0 (fun _ => rfl), h.fn 51 0 (fun _ => rfl), h.fn 55 0 (fun _ => rfl), h.fn 66 0 (fun _ => rfl)]
theorem mk_c_n {M M' : cb_M} (h : cb_fr fr_n M M') (n : Nat) : mk_c M' n = mk_c M n := by
  unfold mk_c
  rw [mk_h_n h, h.fn 68 0 (fun _ => rfl), h.fn 64 0 (fun _ => rfl), h.fn 67 0 (fun _ => rfl), h.fn 55 0 (fun _ => rfl), h.fn 66 0 (fun _ => rfl)]
theorem mk_u_n {M M' : cb_M} (h : cb_fr fr_n M M') (n : Nat) : mk_u M' n = mk_u M n := by
  unfold mk_u
  rw [h.1 46 0 41 rfl, h.1 46 0 45 rfl]
theorem mk_b_n {M M' : cb_M} (h : cb_fr fr_n M M') (n : Nat) : mk_b M' n = mk_b M n := by
  unfold mk_b
  rw [h.1 46 0 33 rfl, h.fn 69 0 (fun _ => rfl), h.fn 70 0 (fun _ => rfl)]
theorem mk_G_n {M M' : cb_M} (h : cb_fr fr_n M M') {n : Nat} (hG : mk_G M n) : mk_G M' n := by
  unfold mk_G at *
  rw [h.1 49 0 1 rfl, h.fn 64 0 (fun _ => rfl), h.fn 65 0 (fun _ => rfl), h.fn 67 0 (fun _ => rfl), h.fn 55 0 (fun _ => rfl)]
  exact hG
theorem mk_P_s {M : cb_M} {n : Nat} : mk_P M n ↔ wn_Ph n (mk_s M n) := by
  unfold mk_P wn_Ph
  constructor
  · intro h i hi
    show wm_ph (wn_tr n (cb_gI M 80 0) i)
    rw [wn_tr_lt hi]
    exact h i hi
  · intro h i hi
    have : wm_ph (wn_tr n (cb_gI M 80 0) i) := h i hi
    rw [wn_tr_lt hi] at this
    exact this
def sp_X10_begins : cb_Sp := fun _ r M K => match r with
  | [] => ∃ n, (cb_gI M 49 0 1 = nI n ∧ n ≤ 8) ∧ ∀ M', cb_fr fr_n M M' → mk_s M' n = mk_b M n → cb_gI M' 46 0 43 = cb_gI M 46 0 43 → K none M'
  | _ => False
def pt_X10_begins : cb_PT := cb_m 46 0 sp_X10_begins
theorem rc_X10_begins : cb_rc cb_tb RX10 pt_X10_begins := cb_m_rc rfl rfl
def md_X10_begins : cb_D := (RX10, cX10_begins, 2, none, (0, 0, 0, 0), [
  (0, .aload_n 0, 1, 0, 0, 0, 0),
  (1, .aload_n 0, 1, 0, 0, 0, 0),
  (2, .getfield 210, 3, 0, 10, 33, 1361),
  (5, .putfield 223, 3, 0, 10, 42, 1370),
  (8, .iconst 0, 1, 0, 0, 0, 0),
  (9, .istore_n 1, 1, 0, 1, 0, 0),
  (10, .iload_n 1, 1, 0, 1, 0, 0),
  (11, .aload_n 0, 1, 0, 0, 0, 0),
  (12, .getfield 20, 3, 0, 10, 10, 1338),
  (15, .iconst 1, 1, 1, 0, 0, 0),
  (16, .iaload, 1, 0, 0, 0, 0),
  (17, .if_icmp .ge 33, 3, 0, 50, 0, 0),
  (20, .aload_n 0, 1, 0, 0, 0, 0),
  (21, .getfield 94, 3, 0, 10, 37, 1365),
  (24, .iload_n 1, 1, 0, 1, 0, 0),
  (25, .aload_n 0, 1, 0, 0, 0, 0),
  (26, .getfield 70, 3, 0, 10, 26, 1354),
  (29, .iload_n 1, 1, 0, 1, 0, 0),
  (30, .iaload, 1, 0, 0, 0, 0),
  (31, .iastore, 1, 0, 0, 0, 0),
  (32, .aload_n 0, 1, 0, 0, 0, 0),
  (33, .getfield 97, 3, 0, 10, 38, 1366),
  (36, .iload_n 1, 1, 0, 1, 0, 0),
  (37, .aload_n 0, 1, 0, 0, 0, 0),
  (38, .getfield 73, 3, 0, 10, 27, 1355),
  (41, .iload_n 1, 1, 0, 1, 0, 0),
  (42, .iaload, 1, 0, 0, 0, 0),
  (43, .iastore, 1, 0, 0, 0, 0),
  (44, .iinc 1 1, 3, 1, 1, 0, 0),
  (47, .goto (-37), 3, 0, 10, 0, 0),
  (50, .return_, 1, 0, 0, 0, 0)],
  [], [])
set_option maxRecDepth 100000 in
theorem vd_X10_begins : md_X10_begins.cd.all (cb_vE md_X10_begins) = true := by decide +kernel
theorem wd_X10_begins : cb_wd yX10_begins md_X10_begins := ⟨cb_tw (i := 1588) (by decide +kernel), cb_tw (i := 11) (by decide +kernel), by decide, by decide⟩
theorem cs_X10_begins : ∀ X, cb_Bs md_X10_begins X → ∀ g ∈ md_X10_begins.ga, cb_CS cb_tb md_X10_begins X g := fun X B => fun _ h => nomatch h
theorem ok_X10_begins : cb_MOK cb_tb yX10_begins md_X10_begins pt_X10_begins := by
  refine cb_okm ⟨plainFor_of_name (by decide), rfl⟩ (by decide) cs_X10_begins (by decide) (fun X n0 f i r M hr ha h => ?_)
  have h0 := cb_a1 (T := 46) rfl ha
  subst h0
  match r, hr, h with
  | [], hr, h =>
    obtain ⟨n, ⟨hn, hn8⟩, h⟩ := h
    have loop : ∀ j, j ≤ n → ∀ (y : Int32) (M' : cb_M), y = nI j → cb_fr fr_n M M' → cb_gI M' 46 0 42 = cb_gI M 46 0 33 → cb_gI M' 46 0 43 = cb_gI M 46 0 43 → (∀ i, i < j → cb_gI M' 80 0 i = cb_gI M 69 0 i ∧ cb_gI M' 81 0 i = cb_gI M 70 0 i) → cb_Gd cb_tb md_X10_begins X 10 [some (cb_r 46 0), some (cb_i (y))] [] (cb_aS n0, f) M' 0 0 := by
      refine cb_up (fun j => ∀ (y : Int32) (M' : cb_M), y = nI j → cb_fr fr_n M M' → cb_gI M' 46 0 42 = cb_gI M 46 0 33 → cb_gI M' 46 0 43 = cb_gI M 46 0 43 → (∀ i, i < j → cb_gI M' 80 0 i = cb_gI M 69 0 i ∧ cb_gI M' 81 0 i = cb_gI M 70 0 i) → cb_Gd cb_tb md_X10_begins X 10 [some (cb_r 46 0), some (cb_i (y))] [] (cb_aS n0, f) M' 0 0) ?_ ?_
      · intro y M' hy hF hd hl hz
        refine cb_run cb_tb_ok vd_X10_begins (cuts := [10]) 90 ?_
        refine And.intro (mi_v 1 (by decide)) (cb_lout hy ((hF.1 49 0 1 rfl).trans hn) (And.intro rfl (h M' hF ?_ hl)))
        unfold mk_s mk_b
        rw [hd, wn_tr_ext (fun i hi => (hz i hi).1), wn_tr_ext (fun i hi => (hz i hi).2)]
      · intro j hj ih y M' hy hF hd hl hz
        have hy8 : vp_in y 8 := by rw [hy]; exact cb_in8 hj hn8 (by decide)
        have hyc : y.toNatClampNeg = j := by rw [hy]; exact nI_clamp (by omega)
        refine cb_run cb_tb_ok vd_X10_begins (cuts := [10]) 90 ?_
        refine And.intro (mi_v 1 (by decide)) (cb_lin hy ((hF.1 49 0 1 rfl).trans hn) hj (by omega) (And.intro hy8 (And.intro hy8 (And.intro hy8 (And.intro hy8 ?_)))))
        refine ih _ _ (by rw [hy, nI_1]) ((hF.set _ rfl).set _ rfl) hd hl (fun i hi => ?_)
        rw [hyc]
        by_cases q : i = j
        · subst q
          refine ⟨?_, ?_⟩
          · show cb_gI (cb_sI M' 80 0 i (cb_gI M' 69 0 i)) 80 0 i = _
            rw [cb_gs_eq, hF.1 69 0 i rfl]
          · show cb_gI (cb_sI (cb_sI M' 80 0 i (cb_gI M' 69 0 i)) 81 0 i (cb_gI M' 70 0 i)) 81 0 i = _
            rw [cb_gs_eq, hF.1 70 0 i rfl]
        · refine ⟨?_, ?_⟩
          · show cb_gI (cb_sI M' 80 0 j (cb_gI M' 69 0 j)) 80 0 i = _
            rw [cb_gs_ne (fun w => q w.2.2)]
            exact (hz i (by omega)).1
          · show cb_gI (cb_sI (cb_sI M' 80 0 j (cb_gI M' 69 0 j)) 81 0 j (cb_gI M' 70 0 j)) 81 0 i = _
            rw [cb_gs_ne (fun w => q w.2.2)]
            exact (hz i (by omega)).2
    refine cb_run cb_tb_ok vd_X10_begins (cuts := [10]) 90 ?_
    exact loop 0 (Nat.zero_le _) _ _ rfl ((cb_fr.refl M).set _ rfl) rfl rfl (fun i hi => absurd hi (by omega))
def fr_l2 (t _j : Nat) : Bool := Nat.beq t 82 || Nat.beq t 83
theorem fr_l2_n : ∀ t j, fr_l2 t j = true → fr_n t j = true := by
  intro t j h
  unfold fr_l2 at h
  rw [Bool.or_eq_true] at h
  rcases h with h | h
  · have := Nat.eq_of_beq_eq_true h
    subst this
    rfl
  · have := Nat.eq_of_beq_eq_true h
    subst this
    rfl
theorem mk_s_l2 {M M' : cb_M} (h : cb_fr fr_l2 M M') (n : Nat) : mk_s M' n = mk_s M n := by
  unfold mk_s
  rw [h.1 46 0 42 rfl, h.fn 80 0 (fun _ => rfl), h.fn 81 0 (fun _ => rfl)]
def mk_go (M : cb_M) (n i : Nat) : Bool := wn_go (mk_c M n) (mk_u M n) (mk_s M n).1 (mk_s M n).2.1 i
def sp_X10_looks : cb_Sp := fun _ r M K => match r with
  | [] => ∃ n d, (mk_G M n ∧ mk_P M n ∧ cb_gI M 46 0 42 = nI d ∧ d < 2 ^ 31) ∧ ∀ M', cb_fr fr_l2 M M' → (∀ i, i < n → cb_gI M' 83 0 i = cb_z (mk_go M n i)) → (∀ i, i < n → cb_gI M' 82 0 i = if mk_go M n i = true then wn_pul (mk_c M n) (mk_u M n) (mk_s M n).1 (mk_s M n).2.1 i else 0) → K none M'
  | _ => False
def pt_X10_looks : cb_PT := cb_m 46 0 sp_X10_looks
theorem rc_X10_looks : cb_rc cb_tb RX10 pt_X10_looks := cb_m_rc rfl rfl
def md_X10_looks : cb_D := (RX10, cX10_looks, 2, none, (0, 0, 3, 68), [
  (0, .iconst 0, 1, 0, 0, 0, 0),
  (1, .istore_n 1, 1, 0, 1, 0, 0),
  (2, .iload_n 1, 1, 0, 1, 0, 0),
  (3, .aload_n 0, 1, 0, 0, 0, 0),
  (4, .getfield 20, 3, 0, 10, 10, 1338),
  (7, .iconst 1, 1, 1, 0, 0, 0),
  (8, .iaload, 1, 0, 0, 0, 0),
  (9, .if_icmp .ge 48, 3, 0, 57, 0, 0),
  (12, .aload_n 0, 1, 0, 0, 0, 0),
  (13, .getfield 103, 3, 0, 10, 40, 1368),
  (16, .iload_n 1, 1, 0, 1, 0, 0),
  (17, .aload_n 0, 1, 0, 0, 0, 0),
  (18, .iload_n 1, 1, 0, 1, 0, 0),
  (19, .invokevirtual 220, 3, 0, 0, 0, 0),
  (22, .ifCond .eq 27, 3, 0, 49, 0, 0),
  (25, .aload_n 0, 1, 0, 0, 0, 0),
  (26, .iload_n 1, 1, 0, 1, 0, 0),
  (27, .aload_n 0, 1, 0, 0, 0, 0),
  (28, .getfield 223, 3, 0, 10, 42, 1370),
  (31, .invokevirtual 226, 3, 0, 1, 0, 0),
  (34, .ifCond .eq 15, 3, 0, 49, 0, 0),
  (37, .aload_n 0, 1, 0, 0, 0, 0),
  (38, .iload_n 1, 1, 0, 1, 0, 0),
  (39, .invokevirtual 242, 3, 0, 2, 0, 0),
  (42, .ifCond .ne 7, 3, 0, 49, 0, 0),
  (45, .iconst 1, 1, 1, 0, 0, 0),
  (46, .goto 4, 3, 0, 50, 0, 0),
  (49, .iconst 0, 1, 0, 0, 0, 0),
  (50, .bastore, 1, 0, 0, 0, 0),
  (51, .iinc 1 1, 3, 1, 1, 0, 0),
  (54, .goto (-52), 3, 0, 2, 0, 0),
  (57, .iconst 0, 1, 0, 0, 0, 0),
  (58, .istore_n 1, 1, 0, 1, 0, 0),
  (59, .iload_n 1, 1, 0, 1, 0, 0),
  (60, .aload_n 0, 1, 0, 0, 0, 0),
  (61, .getfield 20, 3, 0, 10, 10, 1338),
  (64, .iconst 1, 1, 1, 0, 0, 0),
  (65, .iaload, 1, 0, 0, 0, 0),
  (66, .if_icmp .ge 33, 3, 0, 99, 0, 0),
  (69, .aload_n 0, 1, 0, 0, 0, 0),
  (70, .getfield 100, 3, 0, 10, 39, 1367),
  (73, .iload_n 1, 1, 0, 1, 0, 0),
  (74, .aload_n 0, 1, 0, 0, 0, 0),
  (75, .getfield 103, 3, 0, 10, 40, 1368),
  (78, .iload_n 1, 1, 0, 1, 0, 0),
  (79, .baload, 1, 0, 0, 0, 0),
  (80, .ifCond .eq 11, 3, 0, 91, 0, 0),
  (83, .aload_n 0, 1, 0, 0, 0, 0),
  (84, .iload_n 1, 1, 0, 1, 0, 0),
  (85, .invokevirtual 245, 3, 0, 3, 0, 0),
  (88, .goto 4, 3, 0, 92, 0, 0),
  (91, .iconst 0, 1, 0, 0, 0, 0),
  (92, .iastore, 1, 0, 0, 0, 0),
  (93, .iinc 1 1, 3, 1, 1, 0, 0),
  (96, .goto (-37), 3, 0, 59, 0, 0),
  (99, .return_, 1, 0, 0, 0, 0)],
  [(0, 220, 2, 0, 0, pt_X10_hangsNow), (0, 226, 3, 0, 0, pt_X10_runs), (0, 242, 2, 0, 0, pt_X10_isStopped), (0, 245, 2, 0, 0, pt_X10_pullOn)], [])
set_option maxRecDepth 100000 in
theorem vd_X10_looks : md_X10_looks.cd.all (cb_vE md_X10_looks) = true := by decide +kernel
theorem wd_X10_looks : cb_wd yX10_looks md_X10_looks := ⟨cb_tw (i := 1633) (by decide +kernel), cb_tw (i := 11) (by decide +kernel), by decide, by decide⟩
theorem cs_X10_looks : ∀ X, cb_Bs md_X10_looks X → ∀ g ∈ md_X10_looks.ga, cb_CS cb_tb md_X10_looks X g := fun X B => List.forall_mem_cons.mpr ⟨cb_csV B ok_X10_hangsNow wd_X10_hangsNow (cb_tw (i := 1597) (by decide +kernel)) (cb_tw (i := 1599) (by decide +kernel)) (cb_tp (i := 62) (by decide +kernel)) rc_X10_hangsNow ⟨by decide, by decide⟩ (by decide +kernel), List.forall_mem_cons.mpr ⟨cb_csV B ok_X10_runs wd_X10_runs (cb_tw (i := 1589) (by decide +kernel)) (cb_tw (i := 1591) (by decide +kernel)) (cb_tp (i := 60) (by decide +kernel)) rc_X10_runs ⟨by decide, by decide⟩ (by decide +kernel), List.forall_mem_cons.mpr ⟨cb_csV B ok_X10_isStopped wd_X10_isStopped (cb_tw (i := 1593) (by decide +kernel)) (cb_tw (i := 1595) (by decide +kernel)) (cb_tp (i := 61) (by decide +kernel)) rc_X10_isStopped ⟨by decide, by decide⟩ (by decide +kernel), List.forall_mem_cons.mpr ⟨cb_csV B ok_X10_pullOn wd_X10_pullOn (cb_tw (i := 1634) (by decide +kernel)) (cb_tw (i := 1636) (by decide +kernel)) (cb_tp (i := 66) (by decide +kernel)) rc_X10_pullOn ⟨by decide, by decide⟩ (by decide +kernel), fun _ h => nomatch h⟩⟩⟩⟩
theorem ok_X10_looks : cb_MOK cb_tb yX10_looks md_X10_looks pt_X10_looks := by
  refine cb_okm ⟨plainFor_of_name (by decide), rfl⟩ (by decide) cs_X10_looks (by decide) (fun X n0 f i r M hr ha h => ?_)
  have h0 := cb_a1 (T := 46) rfl ha
  subst h0
  match r, hr, h with
  | [], hr, h =>
    obtain ⟨n, d, ⟨hG, hp, hday, hd⟩, h⟩ := h
    obtain ⟨hn, hn8, hv⟩ := id hG
    have second : ∀ j, j ≤ n → ∀ (y : Int32) (M' : cb_M), y = nI j → cb_fr fr_l2 M M' → (∀ i, i < n → cb_gI M' 83 0 i = cb_z (mk_go M n i)) → (∀ i, i < j → cb_gI M' 82 0 i = if mk_go M n i = true then wn_pul (mk_c M n) (mk_u M n) (mk_s M n).1 (mk_s M n).2.1 i else 0) → cb_Gd cb_tb md_X10_looks X 59 [some (cb_r 46 0), some (cb_i (y))] [] (cb_aS n0, f) M' 0 0 := by
      refine cb_up (fun j => ∀ (y : Int32) (M' : cb_M), y = nI j → cb_fr fr_l2 M M' → (∀ i, i < n → cb_gI M' 83 0 i = cb_z (mk_go M n i)) → (∀ i, i < j → cb_gI M' 82 0 i = if mk_go M n i = true then wn_pul (mk_c M n) (mk_u M n) (mk_s M n).1 (mk_s M n).2.1 i else 0) → cb_Gd cb_tb md_X10_looks X 59 [some (cb_r 46 0), some (cb_i (y))] [] (cb_aS n0, f) M' 0 0) ?_ ?_
      · intro y M' hy hF hg hz
        refine cb_run cb_tb_ok vd_X10_looks (cuts := [59]) 90 ?_
        exact And.intro (mi_v 1 (by decide)) (cb_lout hy ((hF.1 49 0 1 rfl).trans hn) (And.intro rfl (h M' hF hg hz)))
      · intro j hj ih y M' hy hF hg hz
        have hy8 : vp_in y 8 := by rw [hy]; exact cb_in8 hj hn8 (by decide)
        have hyc : y.toNatClampNeg = j := by rw [hy]; exact nI_clamp (by omega)
        have hFn := hF.mono fr_l2_n
        have hG' := mk_G_n hFn hG
        have nx : ∀ v, (v = if mk_go M n j = true then wn_pul (mk_c M n) (mk_u M n) (mk_s M n).1 (mk_s M n).2.1 j else 0) → cb_Gd cb_tb md_X10_looks X 59 [some (cb_r 46 0), some (cb_i ((y + 1)))] [] (cb_aS n0, f) (cb_sI M' 82 0 j v) 0 0 := fun v hv' => by
          refine ih _ _ (by rw [hy, nI_1]) (hF.set _ rfl) hg (fun i hi => ?_)
          by_cases q : i = j
          · subst q
            rw [cb_gs_eq]
            exact hv'
          · rw [cb_gs_ne (fun w => q w.2.2)]
            exact hz i (by omega)
        refine cb_run cb_tb_ok vd_X10_looks (cuts := [59]) 90 ?_
        refine And.intro (mi_v 1 (by decide)) (cb_lin hy ((hF.1 49 0 1 rfl).trans hn) hj (by omega) (And.intro hy8 ?_))
        show (cb_gI M' 83 0 y.toNatClampNeg = 0 → _) ∧ (¬ cb_gI M' 83 0 y.toNatClampNeg = 0 → _)
        rw [hyc, hg j hj]
        refine cb_ifz (fun q => And.intro hy8 ?_) (fun q => And.intro (cb_on rfl) ⟨n, j, mk_go M n, ⟨hG', ?_, hy, hj, hg⟩, And.intro hy8 ?_⟩)
        · show cb_Gd cb_tb md_X10_looks X 59 [some (cb_r 46 0), some (cb_i ((y + 1)))] [] (cb_aS n0, f) (cb_sI M' 82 0 y.toNatClampNeg 0) 0 0
          rw [hyc]
          exact nx 0 (by rw [if_neg (by rw [q]; decide)])
        · unfold mk_P
          rw [hF.fn 80 0 (fun _ => rfl)]
          exact hp
        · show cb_Gd cb_tb md_X10_looks X 59 [some (cb_r 46 0), some (cb_i ((y + 1)))] [] (cb_aS n0, f) (cb_sI M' 82 0 y.toNatClampNeg (mk_pl M' n (mk_go M n) j)) 0 0
          rw [hyc]
          refine nx _ ?_
          rw [if_pos q]
          unfold mk_pl
          rw [mk_c_n hFn, mk_s_l2 hF]
          rfl
    have first : ∀ j, j ≤ n → ∀ (y : Int32) (M' : cb_M), y = nI j → cb_fr fr_l2 M M' → (∀ i, i < j → cb_gI M' 83 0 i = cb_z (mk_go M n i)) → cb_Gd cb_tb md_X10_looks X 2 [some (cb_r 46 0), some (cb_i (y))] [] (cb_aS n0, f) M' 0 0 := by
      refine cb_up (fun j => ∀ (y : Int32) (M' : cb_M), y = nI j → cb_fr fr_l2 M M' → (∀ i, i < j → cb_gI M' 83 0 i = cb_z (mk_go M n i)) → cb_Gd cb_tb md_X10_looks X 2 [some (cb_r 46 0), some (cb_i (y))] [] (cb_aS n0, f) M' 0 0) ?_ ?_
      · intro y M' hy hF hz
        refine cb_run cb_tb_ok vd_X10_looks (cuts := [2, 59]) 90 ?_
        refine And.intro (mi_v 1 (by decide)) (cb_lout hy ((hF.1 49 0 1 rfl).trans hn) ?_)
        exact second 0 (Nat.zero_le _) _ M' rfl hF hz (fun i hi => absurd hi (by omega))
      · intro j hj ih y M' hy hF hz
        have hy8 : vp_in y 8 := by rw [hy]; exact cb_in8 hj hn8 (by decide)
        have hyc : y.toNatClampNeg = j := by rw [hy]; exact nI_clamp (by omega)
        have hFn := hF.mono fr_l2_n
        have hG' := mk_G_n hFn hG
        have hday' : cb_gI M' 46 0 42 = nI d := (hF.1 46 0 42 rfl).trans hday
        have nx : ∀ b : Bool, b = mk_go M n j → cb_Gd cb_tb md_X10_looks X 2 [some (cb_r 46 0), some (cb_i ((y + 1)))] [] (cb_aS n0, f) (cb_sI M' 83 0 j (cb_z b)) 0 0 := fun b hb => by
          refine ih _ _ (by rw [hy, nI_1]) (hF.set _ rfl) (fun i hi => ?_)
          by_cases q : i = j
          · subst q
            rw [cb_gs_eq, hb]
          · rw [cb_gs_ne (fun w => q w.2.2)]
            exact hz i (by omega)
        have ego : mk_go M n j = ((cb_bit (cb_gI M 46 0 41) j && (decide (¬ cb_gI M 46 0 45 = 0) || decide (cb_rem (nI d) (cb_gI M 55 0 j) < 8))) && !wn_stp (mk_c M n) (mk_u M n) (mk_s M n).1 (mk_s M n).2.1 j) := by
          unfold mk_go wn_go
          rw [show (mk_s M n).1 = nI d from hday, mk_run hG hj hd]
        have no : mk_go M n j = false → cb_Gd cb_tb md_X10_looks X 49 [some (cb_r 46 0), some (cb_i y)] [cb_i y, cb_r 83 0] (cb_aS n0, f) M' 0 0 := fun q => by
          refine cb_run cb_tb_ok vd_X10_looks (cuts := [2]) 90 ?_
          refine And.intro hy8 ?_
          show cb_Gd cb_tb md_X10_looks X 2 [some (cb_r 46 0), some (cb_i ((y + 1)))] [] (cb_aS n0, f) (cb_sI M' 83 0 y.toNatClampNeg (cb_z false)) 0 0
          rw [hyc]
          exact nx false q.symm
        refine cb_run cb_tb_ok vd_X10_looks (cuts := [2, 49]) 90 ?_
        refine And.intro (mi_v 1 (by decide)) (cb_lin hy ((hF.1 49 0 1 rfl).trans hn) hj (by omega) (And.intro (cb_on rfl) ⟨j, ⟨hy, by omega⟩, cb_ifz (fun q => no ?_) (fun q => And.intro (cb_on rfl) ⟨j, ⟨hy, by omega, mk_k0 hG' hj⟩, cb_ifz (fun q1 => no ?_) (fun q1 => And.intro (cb_on rfl) ⟨n, j, d, ⟨hG', hy, hj, hday', hd⟩, ?_⟩)⟩)⟩))
        · rw [hF.1 46 0 41 rfl] at q
          rw [ego, q]
          rfl
        · rw [hF.1 46 0 45 rfl, hday', hF.1 55 0 j rfl] at q1
          rw [ego, q1]
          simp
        · rw [hF.1 46 0 41 rfl] at q
          rw [hF.1 46 0 45 rfl, hday', hF.1 55 0 j rfl] at q1
          rw [mk_c_n hFn, mk_u_n hFn, mk_s_l2 hF]
          refine cb_ifne (fun q2 => no ?_) (fun q2 => And.intro hy8 ?_)
          · rw [ego, q, q1]
            cases z : wn_stp (mk_c M n) (mk_u M n) (mk_s M n).1 (mk_s M n).2.1 j with
            | true => rfl
            | false => rw [z] at q2; exact absurd rfl q2
          · show cb_Gd cb_tb md_X10_looks X 2 [some (cb_r 46 0), some (cb_i ((y + 1)))] [] (cb_aS n0, f) (cb_sI M' 83 0 y.toNatClampNeg (cb_z true)) 0 0
            rw [hyc]
            refine nx true ?_
            rw [ego, q, q1, cb_z_eq0.mp q2]
            rfl
    exact cb_run cb_tb_ok vd_X10_looks (cuts := [2]) 40 (first 0 (Nat.zero_le _) _ M rfl (cb_fr.refl M) (fun i hi => absurd hi (by omega)))
/-! damp days, lots -/
def mk_L (M : cb_M) : Int32 := if cb_gI M 46 0 44 = 0 then cb_gI M 46 0 43 else wn_lot (cb_gI M 46 0 43)
def mk_D (M : cb_M) : Int32 := (if cb_gI M 46 0 45 = 0 then wm_dmp (cb_gI M 53 0) (cb_gI M 46 0 42) else 0) + (if cb_gI M 46 0 44 = 0 then 0 else cb_ush (wn_lot (cb_gI M 46 0 43)) 16 &&& 7)
theorem mi_bit_shr (x : Int32) {k i : Nat} (hk : k < 32) (hi : k + i < 32) : cb_bit (x >>> (nI k &&& 31)) i = cb_bit x (k + i) := by
  unfold cb_bit
  rw [Int32.toBitVec_shiftRight, BitVec.sshiftRight_eq', mi_sh31 k hk, BitVec.getLsbD_sshiftRight, if_pos hi]
  simp
  omega
theorem mi_bit_ush (x : Int32) {k i : Nat} (hk : k < 32) : cb_bit (cb_ush x (nI k)) i = cb_bit x (k + i) := by
  unfold cb_bit
  rw [← BitVec.testBit_toNat, cb_ush_nat x hk, ← BitVec.testBit_toNat, Nat.testBit_div_two_pow]
  congr 1
  omega
theorem mi_ush7 (x : Int32) : (x >>> ((16 : Int32) &&& 31)) &&& 7 = cb_ush x 16 &&& 7 := by
  refine cb_bit_ext (fun i hi => ?_)
  rw [cb_bit_and, cb_bit_and]
  by_cases q : i < 3
  · rw [show (16 : Int32) = nI 16 from rfl, mi_bit_shr x (by decide) (by omega), mi_bit_ush x (by decide)]
  · have : ∀ i, i < 32 → ¬ i < 3 → cb_bit 7 i = false := by decide
    rw [this i hi q, Bool.and_false, Bool.and_false]
def fr_43 (t j : Nat) : Bool := Nat.beq t 46 && Nat.beq j 43
theorem fr_43_n : ∀ t j, fr_43 t j = true → fr_n t j = true := by
  intro t j h
  unfold fr_43 at h
  rw [Bool.and_eq_true] at h
  have h1 := Nat.eq_of_beq_eq_true h.1
  have h2 := Nat.eq_of_beq_eq_true h.2
  subst h1 h2
  rfl
def sp_X10_dampNow : cb_Sp := fun _ r M K => match r with
  | [] => ∃ d, (cb_gI M 46 0 42 = nI d ∧ d < 2 ^ 31) ∧ ∀ M', cb_fr fr_43 M M' → cb_gI M' 46 0 43 = mk_L M → K (some (cb_i (mk_D M))) M'
  | _ => False
def pt_X10_dampNow : cb_PT := cb_m 46 0 sp_X10_dampNow
theorem rc_X10_dampNow : cb_rc cb_tb RX10 pt_X10_dampNow := cb_m_rc rfl rfl
def md_X10_dampNow : cb_D := (RX10, cX10_dampNow, 2, (some .int), (0, 0, 0, 0), [
  (0, .aload_n 0, 1, 0, 0, 0, 0),
  (1, .getfield 216, 3, 0, 10, 45, 1373),
  (4, .ifCond .ne 13, 3, 0, 17, 0, 0),
  (7, .aload_n 0, 1, 0, 0, 0, 0),
  (8, .getfield 223, 3, 0, 10, 42, 1370),
  (11, .sipush 400, 3, 400, 0, 0, 0),
  (14, .if_icmp .lt 7, 3, 0, 21, 0, 0),
  (17, .iconst 0, 1, 0, 0, 0, 0),
  (18, .goto 12, 3, 0, 30, 0, 0),
  (21, .aload_n 0, 1, 0, 0, 0, 0),
  (22, .getfield 32, 3, 0, 10, 14, 1342),
  (25, .aload_n 0, 1, 0, 0, 0, 0),
  (26, .getfield 223, 3, 0, 10, 42, 1370),
  (29, .iaload, 1, 0, 0, 0, 0),
  (30, .istore_n 1, 1, 0, 1, 0, 0),
  (31, .aload_n 0, 1, 0, 0, 0, 0),
  (32, .getfield 248, 3, 0, 10, 44, 1372),
  (35, .ifCond .eq 31, 3, 0, 66, 0, 0),
  (38, .aload_n 0, 1, 0, 0, 0, 0),
  (39, .aload_n 0, 1, 0, 0, 0, 0),
  (40, .getfield 251, 3, 0, 10, 43, 1371),
  (43, .ldc 254, 2, 1103515245, 0, 0, 1658),
  (45, .imul, 1, 0, 0, 0, 0),
  (46, .sipush 12345, 3, 12345, 0, 0, 0),
  (49, .iadd, 1, 0, 0, 0, 0),
  (50, .putfield 251, 3, 0, 10, 43, 1371),
  (53, .iload_n 1, 1, 0, 1, 0, 0),
  (54, .aload_n 0, 1, 0, 0, 0, 0),
  (55, .getfield 251, 3, 0, 10, 43, 1371),
  (58, .bipush 16, 2, 16, 0, 0, 0),
  (60, .ishr, 1, 0, 0, 0, 0),
  (61, .bipush 7, 2, 7, 0, 0, 0),
  (63, .iand, 1, 0, 0, 0, 0),
  (64, .iadd, 1, 0, 0, 0, 0),
  (65, .istore_n 1, 1, 0, 1, 0, 0),
  (66, .iload_n 1, 1, 0, 1, 0, 0),
  (67, .ireturn, 1, 0, 0, 0, 0)],
  [], [])
set_option maxRecDepth 100000 in
theorem vd_X10_dampNow : md_X10_dampNow.cd.all (cb_vE md_X10_dampNow) = true := by decide +kernel
theorem wd_X10_dampNow : cb_wd yX10_dampNow md_X10_dampNow := ⟨cb_tw (i := 1657) (by decide +kernel), cb_tw (i := 11) (by decide +kernel), by decide, by decide⟩
theorem cs_X10_dampNow : ∀ X, cb_Bs md_X10_dampNow X → ∀ g ∈ md_X10_dampNow.ga, cb_CS cb_tb md_X10_dampNow X g := fun X B => fun _ h => nomatch h
theorem ok_X10_dampNow : cb_MOK cb_tb yX10_dampNow md_X10_dampNow pt_X10_dampNow := by
  refine cb_okm ⟨plainFor_of_name (by decide), rfl⟩ (by decide) cs_X10_dampNow (by decide) (fun X n0 f i r M hr ha h => ?_)
  have h0 := cb_a1 (T := 46) rfl ha
  subst h0
  match r, hr, h with
  | [], hr, h =>
    obtain ⟨d, ⟨hday, hd⟩, h⟩ := h
    have tail : ∀ v : Int32, v = (if cb_gI M 46 0 45 = 0 then wm_dmp (cb_gI M 53 0) (cb_gI M 46 0 42) else 0) → cb_Gd cb_tb md_X10_dampNow X 30 [some (cb_r 46 0), none] [cb_i v] (cb_aS n0, f) M 0 0 := by
      intro v hv
      unfold mk_D mk_L at h
      rw [← hv] at h
      refine cb_run cb_tb_ok vd_X10_dampNow (cuts := []) 90 ?_
      refine And.intro (fun q => ?_) (fun q => ?_)
      · have q : cb_gI M 46 0 44 = 0 := q
        rw [if_pos q, if_pos q, Int32.add_zero] at h
        exact And.intro trivial (h M (cb_fr.refl M) rfl)
      · have q : ¬ cb_gI M 46 0 44 = 0 := q
        rw [if_neg q, if_neg q] at h
        refine And.intro trivial (cb_eqK (h (cb_sI M 46 0 43 (wn_lot (cb_gI M 46 0 43))) ((cb_fr.refl M).set _ rfl) (cb_gs_eq _ _ _ _ _)) ?_)
        show v + ((wn_lot (cb_gI M 46 0 43) >>> ((16 : Int32) &&& 31)) &&& 7) = _
        rw [mi_ush7]
    have zero : (¬ cb_gI M 46 0 45 = 0 ∨ ¬ cb_gI M 46 0 42 < 400) → cb_Gd cb_tb md_X10_dampNow X 30 [some (cb_r 46 0), none] [cb_i 0] (cb_aS n0, f) M 0 0 := fun w => by
      refine tail 0 ?_
      by_cases q : cb_gI M 46 0 45 = 0
      · rw [if_pos q]
        unfold wm_dmp
        rw [if_neg (fun z => w.elim (fun w => w q) (fun w => w z.2))]
      · rw [if_neg q]
    refine cb_run cb_tb_ok vd_X10_dampNow (cuts := [30]) 90 ?_
    refine cb_ifne (fun q => zero (Or.inl q)) (fun q => And.intro (fun q1 => And.intro ?_ (tail _ ?_)) (fun q1 => zero (Or.inr q1)))
    · have q1 : cb_gI M 46 0 42 < 400 := q1
      rw [hday] at q1 ⊢
      exact vp_in_nI ((nI_ltI (b := 400) hd (by decide)).mp q1) (by decide)
    · have q1 : cb_gI M 46 0 42 < 400 := q1
      rw [if_pos q]
      unfold wm_dmp
      rw [if_pos ⟨by rw [hday]; exact nI_pos' hd, q1⟩]
def sp_X10_dayGoes : cb_Sp := fun _ r M K => match r with
  | [] => ∃ n d, (mk_G M n ∧ mk_P M n ∧ cb_gI M 46 0 42 = nI d ∧ d < 2 ^ 31) ∧ ∀ M', cb_fr fr_n M M' → mk_P M' n → mk_s M' n = wn_day (mk_c M n) (mk_u M n) (mk_D M) (mk_s M n) → cb_gI M' 46 0 43 = mk_L M → K none M'
  | _ => False
def pt_X10_dayGoes : cb_PT := cb_m 46 0 sp_X10_dayGoes
theorem rc_X10_dayGoes : cb_rc cb_tb RX10 pt_X10_dayGoes := cb_m_rc rfl rfl
def md_X10_dayGoes : cb_D := (RX10, cX10_dayGoes, 4, none, (0, 0, 4, 89), [
  (0, .aload_n 0, 1, 0, 0, 0, 0),
  (1, .invokevirtual 255, 3, 0, 0, 0, 0),
  (4, .istore_n 1, 1, 0, 1, 0, 0),
  (5, .aload_n 0, 1, 0, 0, 0, 0),
  (6, .invokevirtual 258, 3, 0, 1, 0, 0),
  (9, .iconst 0, 1, 0, 0, 0, 0),
  (10, .istore_n 2, 1, 0, 2, 0, 0),
  (11, .iload_n 2, 1, 0, 2, 0, 0),
  (12, .aload_n 0, 1, 0, 0, 0, 0),
  (13, .getfield 20, 3, 0, 10, 10, 1338),
  (16, .iconst 1, 1, 1, 0, 0, 0),
  (17, .iaload, 1, 0, 0, 0, 0),
  (18, .if_icmp .ge 67, 3, 0, 85, 0, 0),
  (21, .aload_n 0, 1, 0, 0, 0, 0),
  (22, .getfield 103, 3, 0, 10, 40, 1368),
  (25, .iload_n 2, 1, 0, 2, 0, 0),
  (26, .baload, 1, 0, 0, 0, 0),
  (27, .ifCond .ne 6, 3, 0, 33, 0, 0),
  (30, .goto 49, 3, 0, 79, 0, 0),
  (33, .aload_n 0, 1, 0, 0, 0, 0),
  (34, .getfield 61, 3, 0, 10, 23, 1351),
  (37, .iload_n 2, 1, 0, 2, 0, 0),
  (38, .iaload, 1, 0, 0, 0, 0),
  (39, .iload_n 1, 1, 0, 1, 0, 0),
  (40, .isub, 1, 0, 0, 0, 0),
  (41, .aload_n 0, 1, 0, 0, 0, 0),
  (42, .getfield 100, 3, 0, 10, 39, 1367),
  (45, .iload_n 2, 1, 0, 2, 0, 0),
  (46, .iaload, 1, 0, 0, 0, 0),
  (47, .iadd, 1, 0, 0, 0, 0),
  (48, .istore_n 3, 1, 0, 3, 0, 0),
  (49, .aload_n 0, 1, 0, 0, 0, 0),
  (50, .getfield 94, 3, 0, 10, 37, 1365),
  (53, .iload_n 2, 1, 0, 2, 0, 0),
  (54, .aload_n 0, 1, 0, 0, 0, 0),
  (55, .getfield 94, 3, 0, 10, 37, 1365),
  (58, .iload_n 2, 1, 0, 2, 0, 0),
  (59, .iaload, 1, 0, 0, 0, 0),
  (60, .iload_n 3, 1, 0, 3, 0, 0),
  (61, .iadd, 1, 0, 0, 0, 0),
  (62, .sipush 1000, 3, 1000, 0, 0, 0),
  (65, .invokestatic 233, 3, 0, 2, 0, 0),
  (68, .iastore, 1, 0, 0, 0, 0),
  (69, .aload_n 0, 1, 0, 0, 0, 0),
  (70, .getfield 97, 3, 0, 10, 38, 1366),
  (73, .iload_n 2, 1, 0, 2, 0, 0),
  (74, .dup2, 1, 0, 0, 0, 0),
  (75, .iaload, 1, 0, 0, 0, 0),
  (76, .iload_n 3, 1, 0, 3, 0, 0),
  (77, .iadd, 1, 0, 0, 0, 0),
  (78, .iastore, 1, 0, 0, 0, 0),
  (79, .iinc 2 1, 3, 1, 2, 0, 0),
  (82, .goto (-71), 3, 0, 11, 0, 0),
  (85, .aload_n 0, 1, 0, 0, 0, 0),
  (86, .dup, 1, 0, 0, 0, 0),
  (87, .getfield 223, 3, 0, 10, 42, 1370),
  (90, .iconst 1, 1, 1, 0, 0, 0),
  (91, .iadd, 1, 0, 0, 0, 0),
  (92, .putfield 223, 3, 0, 10, 42, 1370),
  (95, .return_, 1, 0, 0, 0, 0)],
  [(0, 255, 1, 0, 0, pt_X10_dampNow), (0, 258, 1, 0, 0, pt_X10_looks), (1, 233, 2, 0, 0, pt_X10_round)], [])
set_option maxRecDepth 100000 in
theorem vd_X10_dayGoes : md_X10_dayGoes.cd.all (cb_vE md_X10_dayGoes) = true := by decide +kernel
theorem wd_X10_dayGoes : cb_wd yX10_dayGoes md_X10_dayGoes := ⟨cb_tw (i := 1653) (by decide +kernel), cb_tw (i := 11) (by decide +kernel), by decide, by decide⟩
theorem cs_X10_dayGoes : ∀ X, cb_Bs md_X10_dayGoes X → ∀ g ∈ md_X10_dayGoes.ga, cb_CS cb_tb md_X10_dayGoes X g := fun X B => List.forall_mem_cons.mpr ⟨cb_csV B ok_X10_dampNow wd_X10_dampNow (cb_tw (i := 1654) (by decide +kernel)) (cb_tw (i := 1656) (by decide +kernel)) (cb_tp (i := 70) (by decide +kernel)) rc_X10_dampNow ⟨by decide, by decide⟩ (by decide +kernel), List.forall_mem_cons.mpr ⟨cb_csV B ok_X10_looks wd_X10_looks (cb_tw (i := 1630) (by decide +kernel)) (cb_tw (i := 1632) (by decide +kernel)) (cb_tp (i := 65) (by decide +kernel)) rc_X10_looks ⟨by decide, by decide⟩ (by decide +kernel), List.forall_mem_cons.mpr ⟨cb_csS B ok_X10_round wd_X10_round (cb_tw (i := 1623) (by decide +kernel)) (cb_tw (i := 1624) (by decide +kernel)) ⟨by decide, by decide⟩ (by decide +kernel), fun _ h => nomatch h⟩⟩⟩
theorem ok_X10_dayGoes : cb_MOK cb_tb yX10_dayGoes md_X10_dayGoes pt_X10_dayGoes := by
  refine cb_okm ⟨plainFor_of_name (by decide), rfl⟩ (by decide) cs_X10_dayGoes (by decide) (fun X n0 f i r M hr ha h => ?_)
  have h0 := cb_a1 (T := 46) rfl ha
  subst h0
  match r, hr, h with
  | [], hr, h =>
    obtain ⟨n, d, ⟨hG, hp, hday, hd⟩, h⟩ := h
    obtain ⟨hn, hn8, hv⟩ := id hG
    refine cb_run cb_tb_ok vd_X10_dayGoes (cuts := [11]) 90 ?_
    refine And.intro (cb_on rfl) ⟨d, ⟨hday, hd⟩, fun M1 hF1 hL1 => ?_⟩
    have hF1n := hF1.mono fr_43_n
    have es1 : mk_s M1 n = mk_s M n := by
      unfold mk_s
      rw [hF1.1 46 0 42 rfl, hF1.fn 80 0 (fun _ => rfl), hF1.fn 81 0 (fun _ => rfl)]
    refine And.intro (cb_on rfl) ⟨n, d, ⟨mk_G_n hF1n hG, ?_, (hF1.1 46 0 42 rfl).trans hday, hd⟩, fun M2 hF2 hg2 hp2 => ?_⟩
    · unfold mk_P
      rw [hF1.fn 80 0 (fun _ => rfl)]
      exact hp
    have ego : ∀ i, mk_go M1 n i = mk_go M n i := fun i => by
      unfold mk_go
      rw [mk_c_n hF1n, mk_u_n hF1n, es1]
    have hF2n := hF1n.trans (hF2.mono fr_l2_n)
    obtain ⟨g, hgd⟩ : ∃ g : Nat → Bool, g = mk_go M n := ⟨_, rfl⟩
    obtain ⟨B, hB⟩ : ∃ B : Nat → Int32, B = wn_by (mk_c M n) (mk_u M n) (mk_D M) (mk_s M n).1 (mk_s M n).2.1 := ⟨_, rfl⟩
    have hg : ∀ i, i < n → cb_gI M2 83 0 i = cb_z (g i) := fun i hi => by rw [hg2 i hi, ego i, hgd]
    have hpl : ∀ i, i < n → g i = true → cb_gI M2 66 0 i - mk_D M + cb_gI M2 82 0 i = B i := fun i hi q => by
      rw [hp2 i hi, ego i, ← hgd, if_pos q, hB, mk_c_n hF1n, mk_u_n hF1n, es1, hF2n.1 66 0 i rfl]
      unfold wn_by
      rw [show (mk_c M n).rt i = cb_gI M 66 0 i from wn_tr_lt hi]
    have p2 : ∀ i, cb_gI M2 80 0 i = cb_gI M 80 0 i := fun i => by rw [hF2.1 80 0 i rfl, hF1.1 80 0 i rfl]
    have f2 : ∀ i, cb_gI M2 81 0 i = cb_gI M 81 0 i := fun i => by rw [hF2.1 81 0 i rfl, hF1.1 81 0 i rfl]
    have loop : ∀ j, j ≤ n → ∀ (y : Int32) (v : Option cb_V) (M' : cb_M), y = nI j → cb_fr fr_n M M' → cb_gI M' 46 0 42 = cb_gI M 46 0 42 → cb_gI M' 46 0 43 = mk_L M → (∀ i, i < n → cb_gI M' 83 0 i = cb_z (g i)) → (∀ i, cb_gI M' 82 0 i = cb_gI M2 82 0 i) → (∀ i, cb_gI M' 80 0 i = if i < j ∧ g i = true then wm_fmod (cb_gI M 80 0 i + B i) 1000 else cb_gI M 80 0 i) → (∀ i, cb_gI M' 81 0 i = if i < j ∧ g i = true then cb_gI M 81 0 i + B i else cb_gI M 81 0 i) → cb_Gd cb_tb md_X10_dayGoes X 11 [some (cb_r 46 0), some (cb_i (mk_D M)), some (cb_i (y)), v] [] (cb_aS n0, f) M' 0 0 := by
      refine cb_up (fun j => ∀ (y : Int32) (v : Option cb_V) (M' : cb_M), y = nI j → cb_fr fr_n M M' → cb_gI M' 46 0 42 = cb_gI M 46 0 42 → cb_gI M' 46 0 43 = mk_L M → (∀ i, i < n → cb_gI M' 83 0 i = cb_z (g i)) → (∀ i, cb_gI M' 82 0 i = cb_gI M2 82 0 i) → (∀ i, cb_gI M' 80 0 i = if i < j ∧ g i = true then wm_fmod (cb_gI M 80 0 i + B i) 1000 else cb_gI M 80 0 i) → (∀ i, cb_gI M' 81 0 i = if i < j ∧ g i = true then cb_gI M 81 0 i + B i else cb_gI M 81 0 i) → cb_Gd cb_tb md_X10_dayGoes X 11 [some (cb_r 46 0), some (cb_i (mk_D M)), some (cb_i (y)), v] [] (cb_aS n0, f) M' 0 0) ?_ ?_
      · intro y v M' hy hF h42 h43 hg' hpu hpp hff
        refine cb_run cb_tb_ok vd_X10_dayGoes (cuts := [11]) 90 ?_
        refine And.intro (mi_v 1 (by decide)) (cb_lout hy ((hF.1 49 0 1 rfl).trans hn) (And.intro rfl (h _ (hF.set _ rfl) ?_ ?_ h43)))
        · intro i hi
          show wm_ph (cb_gI M' 80 0 i)
          rw [hpp]
          split
          · exact wm_fmod_ph _
          · exact hp i hi
        · unfold wn_day mk_s
          refine Prod.ext ?_ (Prod.ext (funext fun i => ?_) (funext fun i => ?_))
          · show cb_gI M' 46 0 42 + 1 = cb_gI M 46 0 42 + 1
            rw [h42]
          · show wn_tr n (cb_gI M' 80 0) i = if i < n ∧ wn_go (mk_c M n) (mk_u M n) (mk_s M n).1 (mk_s M n).2.1 i = true then wm_fmod (wn_tr n (cb_gI M 80 0) i + wn_by (mk_c M n) (mk_u M n) (mk_D M) (mk_s M n).1 (mk_s M n).2.1 i) 1000 else wn_tr n (cb_gI M 80 0) i
            rw [← hB, show wn_go (mk_c M n) (mk_u M n) (mk_s M n).1 (mk_s M n).2.1 i = g i by rw [hgd]; rfl]
            by_cases q : i < n
            · rw [wn_tr_lt q, wn_tr_lt q, hpp]
            · rw [wn_tr_ge q, wn_tr_ge q, if_neg (fun w => q w.1)]
          · show wn_tr n (cb_gI M' 81 0) i = if i < n ∧ wn_go (mk_c M n) (mk_u M n) (mk_s M n).1 (mk_s M n).2.1 i = true then wn_tr n (cb_gI M 81 0) i + wn_by (mk_c M n) (mk_u M n) (mk_D M) (mk_s M n).1 (mk_s M n).2.1 i else wn_tr n (cb_gI M 81 0) i
            rw [← hB, show wn_go (mk_c M n) (mk_u M n) (mk_s M n).1 (mk_s M n).2.1 i = g i by rw [hgd]; rfl]
            by_cases q : i < n
            · rw [wn_tr_lt q, wn_tr_lt q, hff]
            · rw [wn_tr_ge q, wn_tr_ge q, if_neg (fun w => q w.1)]
      · intro j hj ih y v M' hy hF h42 h43 hg' hpu hpp hff
        have hy8 : vp_in y 8 := by rw [hy]; exact cb_in8 hj hn8 (by decide)
        have hyc : y.toNatClampNeg = j := by rw [hy]; exact nI_clamp (by omega)
        refine cb_run cb_tb_ok vd_X10_dayGoes (cuts := [11]) 90 ?_
        refine And.intro (mi_v 1 (by decide)) (cb_lin hy ((hF.1 49 0 1 rfl).trans hn) hj (by omega) (And.intro hy8 ?_))
        show (¬ cb_gI M' 83 0 y.toNatClampNeg = 0 → _) ∧ (¬ ¬ cb_gI M' 83 0 y.toNatClampNeg = 0 → _)
        rw [hyc, hg' j hj]
        refine cb_ifne (fun q => ?_) (fun q => ?_)
        · have q : g j = true := by
            cases z : g j with
            | true => rfl
            | false => rw [z] at q; exact absurd rfl q
          refine And.intro hy8 (And.intro hy8 (And.intro hy8 (And.intro rfl (And.intro hy8 (And.intro hy8 (And.intro hy8 ?_))))))
          have eB : cb_gI M' 66 0 j - mk_D M + cb_gI M' 82 0 j = B j := by
            rw [hpu, hF.1 66 0 j rfl, ← hF2n.1 66 0 j rfl]
            exact hpl j hj q
          have ep : cb_gI M' 80 0 j = cb_gI M 80 0 j := by rw [hpp, if_neg (by omega)]
          have ef : cb_gI M' 81 0 j = cb_gI M 81 0 j := by rw [hff, if_neg (by omega)]
          show cb_Gd cb_tb md_X10_dayGoes X 11 [some (cb_r 46 0), some (cb_i (mk_D M)), some (cb_i (y + 1)), some (cb_i (cb_gI M' 66 0 y.toNatClampNeg - mk_D M + cb_gI M' 82 0 y.toNatClampNeg))] [] (cb_aS n0, f) (cb_sI (cb_sI M' 80 0 y.toNatClampNeg (wm_fmod (cb_gI M' 80 0 y.toNatClampNeg + (cb_gI M' 66 0 y.toNatClampNeg - mk_D M + cb_gI M' 82 0 y.toNatClampNeg)) 1000)) 81 0 y.toNatClampNeg (cb_gI M' 81 0 y.toNatClampNeg + (cb_gI M' 66 0 y.toNatClampNeg - mk_D M + cb_gI M' 82 0 y.toNatClampNeg))) 0 0
          rw [hyc, eB, ep, ef]
          refine ih _ _ _ (by rw [hy, nI_1]) ((hF.set _ rfl).set _ rfl) h42 h43 hg' hpu ?_ ?_
          · exact cb_upd_yes hpp q (by show cb_gI (cb_sI M' 80 0 j _) 80 0 j = _; rw [cb_gs_eq]) (fun i hi => by show cb_gI (cb_sI M' 80 0 j _) 80 0 i = _; rw [cb_gs_ne (fun w => hi w.2.2)])
          · exact cb_upd_yes hff q (by rw [cb_gs_eq]) (fun i hi => by rw [cb_gs_ne (fun w => hi w.2.2)]; rfl)
        · have q := cb_z_eq0.mp q
          exact ih _ _ M' (by rw [hy, nI_1]) hF h42 h43 hg' hpu (cb_upd_no hpp q) (cb_upd_no hff q)
    refine loop 0 (Nat.zero_le _) _ _ M2 rfl hF2n ?_ ?_ hg (fun _ => rfl) (fun i => ?_) (fun i => ?_)
    · rw [hF2.1 46 0 42 rfl, hF1.1 46 0 42 rfl]
    · rw [hF2.1 46 0 43 rfl, hL1]
    · rw [p2, if_neg (by omega)]
    · rw [f2, if_neg (by omega)]
def sp_X10_goesOn : cb_Sp := fun _ r M K => match r with
  | [.inl N] => ∃ n k d, (mk_G M n ∧ (∀ i, i < n → wm_ph (cb_gI M 69 0 i)) ∧ N = nI k ∧ k < 2 ^ 30 ∧ cb_gI M 46 0 33 = nI d ∧ d ≤ 1000 ∧ cb_gI M 46 0 45 = 0) ∧ ∀ M', cb_fr fr_n M M' → mk_P M' n → (cb_gI M 46 0 44 = 0 → mk_s M' n = wn_days (mk_c M n) (mk_u M n) (cb_gI M 53 0) (mk_b M n) k) → (¬ cb_gI M 46 0 44 = 0 → mk_s M' n = (wn_win (mk_c M n) (mk_u M n) (cb_gI M 53 0) (mk_b M n) (cb_gI M 46 0 43) k).1) → K none M'
  | _ => False
def pt_X10_goesOn : cb_PT := cb_m 46 1 sp_X10_goesOn
theorem rc_X10_goesOn : cb_rc cb_tb RX10 pt_X10_goesOn := cb_m_rc rfl rfl
def md_X10_goesOn : cb_D := (RX10, cX10_goesOn, 3, none, (0, 0, 5, 112), [
  (0, .aload_n 0, 1, 0, 0, 0, 0),
  (1, .invokevirtual 261, 3, 0, 0, 0, 0),
  (4, .iconst 0, 1, 0, 0, 0, 0),
  (5, .istore_n 2, 1, 0, 2, 0, 0),
  (6, .iload_n 2, 1, 0, 2, 0, 0),
  (7, .iload_n 1, 1, 0, 1, 0, 0),
  (8, .if_icmp .ge 13, 3, 0, 21, 0, 0),
  (11, .aload_n 0, 1, 0, 0, 0, 0),
  (12, .invokevirtual 264, 3, 0, 1, 0, 0),
  (15, .iinc 2 1, 3, 1, 2, 0, 0),
  (18, .goto (-12), 3, 0, 6, 0, 0),
  (21, .return_, 1, 0, 0, 0, 0)],
  [(0, 261, 1, 0, 0, pt_X10_begins), (0, 264, 1, 0, 0, pt_X10_dayGoes)], [])
set_option maxRecDepth 100000 in
theorem vd_X10_goesOn : md_X10_goesOn.cd.all (cb_vE md_X10_goesOn) = true := by decide +kernel
theorem wd_X10_goesOn : cb_wd yX10_goesOn md_X10_goesOn := ⟨cb_tw (i := 1649) (by decide +kernel), cb_tw (i := 11) (by decide +kernel), by decide, by decide⟩
theorem cs_X10_goesOn : ∀ X, cb_Bs md_X10_goesOn X → ∀ g ∈ md_X10_goesOn.ga, cb_CS cb_tb md_X10_goesOn X g := fun X B => List.forall_mem_cons.mpr ⟨cb_csV B ok_X10_begins wd_X10_begins (cb_tw (i := 1585) (by decide +kernel)) (cb_tw (i := 1587) (by decide +kernel)) (cb_tp (i := 59) (by decide +kernel)) rc_X10_begins ⟨by decide, by decide⟩ (by decide +kernel), List.forall_mem_cons.mpr ⟨cb_csV B ok_X10_dayGoes wd_X10_dayGoes (cb_tw (i := 1650) (by decide +kernel)) (cb_tw (i := 1652) (by decide +kernel)) (cb_tp (i := 69) (by decide +kernel)) rc_X10_dayGoes ⟨by decide, by decide⟩ (by decide +kernel), fun _ h => nomatch h⟩⟩
theorem ok_X10_goesOn : cb_MOK cb_tb yX10_goesOn md_X10_goesOn pt_X10_goesOn := by
  refine cb_okm ⟨plainFor_of_name (by decide), rfl⟩ (by decide) cs_X10_goesOn (by decide) (fun X n0 f i r M hr ha h => ?_)
  have h0 := cb_a1 (T := 46) rfl ha
  subst h0
  match r, hr, h with
  | [.inl N], hr, h =>
    obtain ⟨n, k, d, ⟨hG, hph, hN, hk, hday, hd, hpr⟩, h⟩ := h
    obtain ⟨hn, hn8, hv⟩ := id hG
    refine cb_run cb_tb_ok vd_X10_goesOn (cuts := [6]) 90 ?_
    refine And.intro (cb_on rfl) ⟨n, ⟨hn, hn8⟩, fun M1 hF1 hs1 hl1 => ?_⟩
    have loop : ∀ j, j ≤ k → ∀ (y : Int32) (M' : cb_M), y = nI j → cb_fr fr_n M M' → mk_P M' n → cb_gI M' 46 0 42 = nI (d + j) → (cb_gI M 46 0 44 = 0 → mk_s M' n = wn_days (mk_c M n) (mk_u M n) (cb_gI M 53 0) (mk_b M n) j) → (¬ cb_gI M 46 0 44 = 0 → (mk_s M' n, cb_gI M' 46 0 43) = wn_win (mk_c M n) (mk_u M n) (cb_gI M 53 0) (mk_b M n) (cb_gI M 46 0 43) j) → cb_Gd cb_tb md_X10_goesOn X 6 [some (cb_r 46 0), some (cb_i (N)), some (cb_i (y))] [] (cb_aS n0, f) M' 0 0 := by
      refine cb_up (fun j => ∀ (y : Int32) (M' : cb_M), y = nI j → cb_fr fr_n M M' → mk_P M' n → cb_gI M' 46 0 42 = nI (d + j) → (cb_gI M 46 0 44 = 0 → mk_s M' n = wn_days (mk_c M n) (mk_u M n) (cb_gI M 53 0) (mk_b M n) j) → (¬ cb_gI M 46 0 44 = 0 → (mk_s M' n, cb_gI M' 46 0 43) = wn_win (mk_c M n) (mk_u M n) (cb_gI M 53 0) (mk_b M n) (cb_gI M 46 0 43) j) → cb_Gd cb_tb md_X10_goesOn X 6 [some (cb_r 46 0), some (cb_i (N)), some (cb_i (y))] [] (cb_aS n0, f) M' 0 0) ?_ ?_
      · intro y M' hy hF hp h42 hs hw
        refine cb_run cb_tb_ok vd_X10_goesOn (cuts := [6]) 90 ?_
        refine cb_lout hy hN (And.intro rfl (h M' hF hp hs (fun q => ?_)))
        rw [← hw q]
      · intro j hj ih y M' hy hF hp h42 hs hw
        refine cb_run cb_tb_ok vd_X10_goesOn (cuts := [6]) 90 ?_
        refine cb_lin hy hN hj (by omega) (And.intro (cb_on rfl) ⟨n, d + j, ⟨mk_G_n hF hG, hp, h42, by omega⟩, fun M2 hF2 hp2 hs2 hl2 => ?_⟩)
        rw [mk_c_n hF, mk_u_n hF] at hs2
        have e42 : cb_gI M2 46 0 42 = nI (d + (j + 1)) := by
          have : (mk_s M2 n).1 = (mk_s M' n).1 + 1 := by rw [hs2]; rfl
          have : cb_gI M2 46 0 42 = cb_gI M' 46 0 42 + 1 := this
          rw [this, h42, nI_1]
          rfl
        have e45 : cb_gI M' 46 0 45 = 0 := (hF.1 46 0 45 rfl).trans hpr
        refine ih _ M2 (by rw [hy, nI_1]) (hF.trans hF2) hp2 e42 (fun q => ?_) (fun q => ?_)
        · have q' : cb_gI M' 46 0 44 = 0 := (hF.1 46 0 44 rfl).trans q
          have eD : mk_D M' = wm_dmp (cb_gI M 53 0) (mk_s M' n).1 := by
            unfold mk_D
            rw [if_pos e45, if_pos q', Int32.add_zero, hF.fn 53 0 (fun _ => rfl)]
            rfl
          rw [hs2, eD, hs q]
          rfl
        · have q' : ¬ cb_gI M' 46 0 44 = 0 := fun w => q ((hF.1 46 0 44 rfl).symm.trans w)
          have eD : mk_D M' = wm_dmp (cb_gI M 53 0) (mk_s M' n).1 + (cb_ush (wn_lot (cb_gI M' 46 0 43)) 16 &&& 7) := by
            unfold mk_D
            rw [if_pos e45, if_neg q', hF.fn 53 0 (fun _ => rfl)]
            rfl
          have eL : mk_L M' = wn_lot (cb_gI M' 46 0 43) := if_neg q'
          rw [hs2, hl2, eD, eL]
          have := hw q
          have e1 : mk_s M' n = (wn_win (mk_c M n) (mk_u M n) (cb_gI M 53 0) (mk_b M n) (cb_gI M 46 0 43) j).1 := congrArg Prod.fst this
          have e2 : cb_gI M' 46 0 43 = (wn_win (mk_c M n) (mk_u M n) (cb_gI M 53 0) (mk_b M n) (cb_gI M 46 0 43) j).2 := congrArg Prod.snd this
          rw [e1, e2]
          rfl
    refine loop 0 (Nat.zero_le _) _ M1 rfl hF1 ?_ ?_ (fun _ => hs1) (fun _ => ?_)
    · rw [mk_P_s, hs1]
      intro i hi
      show wm_ph (wn_tr n (cb_gI M 69 0) i)
      rw [wn_tr_lt hi]
      exact hph i hi
    · have : (mk_s M1 n).1 = (mk_b M n).1 := by rw [hs1]
      exact this.trans hday
    · rw [hs1, hl1]
      rfl
