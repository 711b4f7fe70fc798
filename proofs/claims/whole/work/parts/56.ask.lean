/-! ===== the reference: who is right, alone, in winter ===== -/
theorem cb_fr.tmp {S : Nat → Nat → Bool} {M M1 : cb_M} {t i j : Nat} {v w : Int32} (h : cb_fr S (cb_sI M t i j v) M1) (hw : cb_gI M t i j = w) : cb_fr S M (cb_sI M1 t i j w) := by
  refine ⟨fun t' i' j' q => ?_, h.2⟩
  by_cases e : t' = t ∧ i' = i ∧ j' = j
  · obtain ⟨rfl, rfl, rfl⟩ := e
    rw [cb_gs_eq, hw]
  · rw [cb_gs_ne e, h.1 t' i' j' q, cb_gs_ne e]
theorem wq_r_bit {w up : Int32} {s : wm_S} {n i : Nat} (hn : n ≤ 8) : cb_bit (wq_r w up s n) i = ((decide (i < n) && wm_rgt w (s.2.2 i)) && cb_bit up i) := by
  unfold wq_r wm_rts
  rw [cb_bit_and, wm_mask_bit _ _ (by omega)]
def sp_X10_rightNow : cb_Sp := fun _ r M K => match r with
  | [] => ∃ n, (cb_gI M 49 0 1 = nI n ∧ n ≤ 8) ∧ K (some (cb_i (wq_r (cb_gI M 49 0 3) (cb_gI M 46 0 41) (mk_s M n) n))) M
  | _ => False
def pt_X10_rightNow : cb_PT := cb_m 46 0 sp_X10_rightNow
theorem rc_X10_rightNow : cb_rc cb_tb RX10 pt_X10_rightNow := cb_m_rc rfl rfl
def md_X10_rightNow : cb_D := (RX10, cX10_rightNow, 3, (some .int), (0, 0, 2, 43), [
  (0, .iconst 0, 1, 0, 0, 0, 0),
  (1, .istore_n 1, 1, 0, 1, 0, 0),
  (2, .iconst 0, 1, 0, 0, 0, 0),
  (3, .istore_n 2, 1, 0, 2, 0, 0),
  (4, .iload_n 2, 1, 0, 2, 0, 0),
  (5, .aload_n 0, 1, 0, 0, 0, 0),
  (6, .getfield 20, 3, 0, 10, 10, 1338),
  (9, .iconst 1, 1, 1, 0, 0, 0),
  (10, .iaload, 1, 0, 0, 0, 0),
  (11, .if_icmp .ge 40, 3, 0, 51, 0, 0),
  (14, .iload_n 1, 1, 0, 1, 0, 0),
  (15, .aload_n 0, 1, 0, 0, 0, 0),
  (16, .iload_n 2, 1, 0, 2, 0, 0),
  (17, .invokevirtual 220, 3, 0, 0, 0, 0),
  (20, .ifCond .eq 22, 3, 0, 42, 0, 0),
  (23, .aload_n 0, 1, 0, 0, 0, 0),
  (24, .aload_n 0, 1, 0, 0, 0, 0),
  (25, .getfield 97, 3, 0, 10, 38, 1366),
  (28, .iload_n 2, 1, 0, 2, 0, 0),
  (29, .iaload, 1, 0, 0, 0, 0),
  (30, .invokevirtual 283, 3, 0, 1, 0, 0),
  (33, .ifCond .eq 9, 3, 0, 42, 0, 0),
  (36, .iconst 1, 1, 1, 0, 0, 0),
  (37, .iload_n 2, 1, 0, 2, 0, 0),
  (38, .ishl, 1, 0, 0, 0, 0),
  (39, .goto 4, 3, 0, 43, 0, 0),
  (42, .iconst 0, 1, 0, 0, 0, 0),
  (43, .ior, 1, 0, 0, 0, 0),
  (44, .istore_n 1, 1, 0, 1, 0, 0),
  (45, .iinc 2 1, 3, 1, 2, 0, 0),
  (48, .goto (-44), 3, 0, 4, 0, 0),
  (51, .iload_n 1, 1, 0, 1, 0, 0),
  (52, .ireturn, 1, 0, 0, 0, 0)],
  [(0, 220, 2, 0, 0, pt_X10_hangsNow), (0, 283, 2, 0, 0, pt_X10_isRight)], [])
set_option maxRecDepth 100000 in
theorem vd_X10_rightNow : md_X10_rightNow.cd.all (cb_vE md_X10_rightNow) = true := by decide +kernel
theorem wd_X10_rightNow : cb_wd yX10_rightNow md_X10_rightNow := ⟨cb_tw (i := 1677) (by decide +kernel), cb_tw (i := 11) (by decide +kernel), by decide, by decide⟩
theorem cs_X10_rightNow : ∀ X, cb_Bs md_X10_rightNow X → ∀ g ∈ md_X10_rightNow.ga, cb_CS cb_tb md_X10_rightNow X g := fun X B => List.forall_mem_cons.mpr ⟨cb_csV B ok_X10_hangsNow wd_X10_hangsNow (cb_tw (i := 1597) (by decide +kernel)) (cb_tw (i := 1599) (by decide +kernel)) (cb_tp (i := 62) (by decide +kernel)) rc_X10_hangsNow ⟨by decide, by decide⟩ (by decide +kernel), List.forall_mem_cons.mpr ⟨cb_csV B ok_X10_isRight wd_X10_isRight (cb_tw (i := 1678) (by decide +kernel)) (cb_tw (i := 1680) (by decide +kernel)) (cb_tp (i := 72) (by decide +kernel)) rc_X10_isRight ⟨by decide, by decide⟩ (by decide +kernel), fun _ h => nomatch h⟩⟩
theorem ok_X10_rightNow : cb_MOK cb_tb yX10_rightNow md_X10_rightNow pt_X10_rightNow := by
  refine cb_okm ⟨plainFor_of_name (by decide), rfl⟩ (by decide) cs_X10_rightNow (by decide) (fun X n0 f i r M hr ha h => ?_)
  have h0 := cb_a1 (T := 46) rfl ha
  subst h0
  match r, hr, h with
  | [], hr, h =>
    obtain ⟨n, ⟨hn, hn8⟩, h⟩ := h
    obtain ⟨g, hg⟩ : ∃ g : Nat → Bool, g = fun i => cb_bit (cb_gI M 46 0 41) i && wm_rgt (cb_gI M 49 0 3) (cb_gI M 81 0 i) := ⟨_, rfl⟩
    have e : wq_r (cb_gI M 49 0 3) (cb_gI M 46 0 41) (mk_s M n) n = wm_mask g n := by
      refine cb_bit_ext (fun i _ => ?_)
      rw [wq_r_bit hn8, wm_mask_bit _ _ (by omega), hg]
      by_cases q : i < n
      · rw [decide_eq_true q, show (mk_s M n).2.2 i = cb_gI M 81 0 i from wn_tr_lt q, Bool.true_and, Bool.true_and, Bool.and_comm]
      · rw [decide_eq_false q]
        rfl
    rw [e] at h
    have loop : ∀ j, j ≤ n → ∀ (y s : Int32), y = nI j → s = wm_mask g j → cb_Gd cb_tb md_X10_rightNow X 4 [some (cb_r 46 0), some (cb_i (s)), some (cb_i (y))] [] (cb_aS n0, f) M 0 0 := by
      refine cb_up (fun j => ∀ (y s : Int32), y = nI j → s = wm_mask g j → cb_Gd cb_tb md_X10_rightNow X 4 [some (cb_r 46 0), some (cb_i (s)), some (cb_i (y))] [] (cb_aS n0, f) M 0 0) ?_ ?_
      · intro y s hy hs
        refine cb_run cb_tb_ok vd_X10_rightNow (cuts := [4]) 90 ?_
        exact And.intro (mi_v 1 (by decide)) (cb_lout hy hn (And.intro trivial (cb_eqK h hs)))
      · intro j hj ih y s hy hs
        subst hy
        have hjc : (nI j).toNatClampNeg = j := nI_clamp (by omega)
        have hj8 : vp_in (nI j) 8 := cb_in8 hj hn8 (by decide)
        have no : g j = false → s ||| 0 = wm_mask g (j + 1) := fun q => by
          rw [wm_mask, q, hs]
          rfl
        refine cb_run cb_tb_ok vd_X10_rightNow (cuts := [4]) 90 ?_
        refine And.intro (mi_v 1 (by decide)) (cb_lin rfl hn hj (by omega) (And.intro (cb_on rfl) ⟨j, ⟨rfl, by omega⟩, cb_ifz (fun q => ih _ _ (nI_1 j) (no ?_)) (fun q => And.intro hj8 (And.intro (cb_on rfl) ?_))⟩))
        · rw [hg]
          show (cb_bit (cb_gI M 46 0 41) j && _) = false
          rw [q]
          rfl
        · show sp_X10_isRight 0 [.inl (cb_gI M 81 0 (nI j).toNatClampNeg)] M _
          rw [hjc]
          refine cb_ifz (fun q1 => ih _ _ (nI_1 j) (no ?_)) (fun q1 => ih _ _ (nI_1 j) ?_)
          · rw [hg]
            show (_ && wm_rgt (cb_gI M 49 0 3) (cb_gI M 81 0 j)) = false
            rw [q1, Bool.and_false]
          · have : g j = true := by
              rw [hg]
              show (cb_bit (cb_gI M 46 0 41) j && wm_rgt (cb_gI M 49 0 3) (cb_gI M 81 0 j)) = true
              rw [q, q1]
              rfl
            rw [wm_mask, this, hs]
            rfl
    exact cb_run cb_tb_ok vd_X10_rightNow (cuts := [4]) 40 (loop 0 (Nat.zero_le _) _ _ rfl rfl)
def sp_X10_rightBy : cb_Sp := fun _ r M K => match r with
  | [.inl who, .inl N] => ∃ n h nb k, (mi_I M n h nb ∧ N = nI k ∧ k ≤ 400) ∧ ∀ M', cb_fr fr_X M M' → cb_gI M' 46 0 0 = cb_gI M 46 0 0 → K (some (cb_i (vq_rts (mv M n h nb) who (vq_tr (mv M n h nb) who k)))) M'
  | _ => False
def pt_X10_rightBy : cb_PT := cb_m 46 2 sp_X10_rightBy
theorem rc_X10_rightBy : cb_rc cb_tb RX10 pt_X10_rightBy := cb_m_rc rfl rfl
def md_X10_rightBy : cb_D := (RX10, cX10_rightBy, 4, (some .int), (0, 0, 6, 134), [
  (0, .aload_n 0, 1, 0, 0, 0, 0),
  (1, .iload_n 1, 1, 0, 1, 0, 0),
  (2, .putfield 107, 3, 0, 10, 41, 1369),
  (5, .aload_n 0, 1, 0, 0, 0, 0),
  (6, .iload_n 2, 1, 0, 2, 0, 0),
  (7, .invokevirtual 276, 3, 0, 0, 0, 0),
  (10, .aload_n 0, 1, 0, 0, 0, 0),
  (11, .invokevirtual 286, 3, 0, 1, 0, 0),
  (14, .istore_n 3, 1, 0, 3, 0, 0),
  (15, .aload_n 0, 1, 0, 0, 0, 0),
  (16, .sipush 255, 3, 255, 0, 0, 0),
  (19, .putfield 107, 3, 0, 10, 41, 1369),
  (22, .iload_n 3, 1, 0, 3, 0, 0),
  (23, .ireturn, 1, 0, 0, 0, 0)],
  [(0, 276, 2, 0, 0, pt_X10_goesOn), (0, 286, 1, 0, 0, pt_X10_rightNow)], [])
set_option maxRecDepth 100000 in
theorem vd_X10_rightBy : md_X10_rightBy.cd.all (cb_vE md_X10_rightBy) = true := by decide +kernel
theorem wd_X10_rightBy : cb_wd yX10_rightBy md_X10_rightBy := ⟨cb_tw (i := 1748) (by decide +kernel), cb_tw (i := 11) (by decide +kernel), by decide, by decide⟩
theorem cs_X10_rightBy : ∀ X, cb_Bs md_X10_rightBy X → ∀ g ∈ md_X10_rightBy.ga, cb_CS cb_tb md_X10_rightBy X g := fun X B => List.forall_mem_cons.mpr ⟨cb_csV B ok_X10_goesOn wd_X10_goesOn (cb_tw (i := 1646) (by decide +kernel)) (cb_tw (i := 1648) (by decide +kernel)) (cb_tp (i := 68) (by decide +kernel)) rc_X10_goesOn ⟨by decide, by decide⟩ (by decide +kernel), List.forall_mem_cons.mpr ⟨cb_csV B ok_X10_rightNow wd_X10_rightNow (cb_tw (i := 1674) (by decide +kernel)) (cb_tw (i := 1676) (by decide +kernel)) (cb_tp (i := 71) (by decide +kernel)) rc_X10_rightNow ⟨by decide, by decide⟩ (by decide +kernel), fun _ h => nomatch h⟩⟩
theorem ok_X10_rightBy : cb_MOK cb_tb yX10_rightBy md_X10_rightBy pt_X10_rightBy := by
  refine cb_okm ⟨plainFor_of_name (by decide), rfl⟩ (by decide) cs_X10_rightBy (by decide) (fun X n0 f i r M hr ha h => ?_)
  have h0 := cb_a1 (T := 46) rfl ha
  subst h0
  match r, hr, h with
  | [.inl who, .inl N], hr, h =>
    obtain ⟨n, hh, nb, k, ⟨hI, hN, hk⟩, h⟩ := h
    obtain ⟨hn1, hn8, -⟩ := id hI.1
    refine cb_run cb_tb_ok vd_X10_rightBy (cuts := []) 90 ?_
    refine And.intro (cb_on rfl) (mg_tr hI (those := who) rfl hN hk (fun M' hF hP hs => And.intro (cb_on rfl) ⟨n, ⟨(hF.1 49 0 1 rfl).trans hn1, hn8⟩, And.intro trivial (cb_eqK (h (cb_sI M' 46 0 41 255) ?_ ?_) ?_)⟩))
    · exact cb_fr.tmp (hF.mono fr_n_X) hI.2.2.2.2.2.2.1
    · exact hF.1 46 0 0 rfl
    · rw [hs, hF.1 49 0 3 rfl, hF.1 46 0 41 rfl, cb_gs_eq]
      rfl
theorem wq_r_255 {w : Int32} {s : wm_S} {n : Nat} (hn : n ≤ 8) : wq_r w 255 s n = wq_r w (wm_all (nI n)) s n := by
  refine cb_bit_ext (fun i _ => ?_)
  rw [wq_r_bit hn, wq_r_bit hn]
  by_cases q : i < n
  · have : ∀ i, i < 8 → cb_bit 255 i = true := by decide
    rw [this i (by omega), wm_all_bit n hn i (by omega), decide_eq_true q]
  · rw [decide_eq_false q]
    rfl
def sp_X10_right : cb_Sp := fun _ r M K => match r with
  | [] => ∃ n h nb, mi_I M n h nb ∧ mR (vq_rts (mv M n h nb) (wm_all (nI n)) (mv M n h nb).s) M K
  | _ => False
def pt_X10_right : cb_PT := cb_m 46 0 sp_X10_right
theorem rc_X10_right : cb_rc cb_tb RX10 pt_X10_right := cb_m_rc rfl rfl
def md_X10_right : cb_D := (RX10, cX10_right, 1, (some .int), (0, 0, 3, 65), [
  (0, .aload_n 0, 1, 0, 0, 0, 0),
  (1, .iconst 0, 1, 0, 0, 0, 0),
  (2, .putfield 126, 3, 0, 10, 0, 1328),
  (5, .aload_n 0, 1, 0, 0, 0, 0),
  (6, .invokevirtual 261, 3, 0, 0, 0, 0),
  (9, .aload_n 0, 1, 0, 0, 0, 0),
  (10, .invokevirtual 286, 3, 0, 1, 0, 0),
  (13, .ireturn, 1, 0, 0, 0, 0)],
  [(0, 261, 1, 0, 0, pt_X10_begins), (0, 286, 1, 0, 0, pt_X10_rightNow)], [])
set_option maxRecDepth 100000 in
theorem vd_X10_right : md_X10_right.cd.all (cb_vE md_X10_right) = true := by decide +kernel
theorem wd_X10_right : cb_wd yX10_right md_X10_right := ⟨cb_tw (i := 1673) (by decide +kernel), cb_tw (i := 11) (by decide +kernel), by decide, by decide⟩
theorem cs_X10_right : ∀ X, cb_Bs md_X10_right X → ∀ g ∈ md_X10_right.ga, cb_CS cb_tb md_X10_right X g := fun X B => List.forall_mem_cons.mpr ⟨cb_csV B ok_X10_begins wd_X10_begins (cb_tw (i := 1585) (by decide +kernel)) (cb_tw (i := 1587) (by decide +kernel)) (cb_tp (i := 59) (by decide +kernel)) rc_X10_begins ⟨by decide, by decide⟩ (by decide +kernel), List.forall_mem_cons.mpr ⟨cb_csV B ok_X10_rightNow wd_X10_rightNow (cb_tw (i := 1674) (by decide +kernel)) (cb_tw (i := 1676) (by decide +kernel)) (cb_tp (i := 71) (by decide +kernel)) rc_X10_rightNow ⟨by decide, by decide⟩ (by decide +kernel), fun _ h => nomatch h⟩⟩
theorem ok_X10_right : cb_MOK cb_tb yX10_right md_X10_right pt_X10_right := by
  refine cb_okm ⟨plainFor_of_name (by decide), rfl⟩ (by decide) cs_X10_right (by decide) (fun X n0 f i r M hr ha h => ?_)
  have h0 := cb_a1 (T := 46) rfl ha
  subst h0
  match r, hr, h with
  | [], hr, h =>
    obtain ⟨n, hh, nb, hI, h⟩ := h
    obtain ⟨hn1, hn8, -⟩ := id hI.1
    refine cb_run cb_tb_ok vd_X10_right (cuts := []) 90 ?_
    refine And.intro (cb_on rfl) ⟨n, ⟨hn1, hn8⟩, fun M1 hF1 hs1 _ => And.intro (cb_on rfl) ⟨n, ⟨(hF1.1 49 0 1 rfl).trans hn1, hn8⟩, And.intro trivial (cb_eqK (h M1 ((mx1 M).trans (hF1.mono fr_n_X)) (hF1.1 46 0 0 rfl)) ?_)⟩⟩
    rw [hs1, hF1.1 49 0 3 rfl, hF1.1 46 0 41 rfl]
    show wq_r (cb_gI M 49 0 3) (cb_gI M 46 0 41) (mk_b M n) n = _
    rw [hI.2.2.2.2.2.2.1, wq_r_255 hn8]
    rfl
def sp_X10_away : cb_Sp := fun _ r M K => match r with
  | [.inl x, .inl N] => ∃ n h nb, mi_I M n h nb ∧ wg_c n x (mT 1 M K) fun i => wg_r 1 100 N (mT 2 M K) fun k => mR (vq_away (mv M n h nb) i k) M K
  | _ => False
theorem i3_and (a b c : Int32) : a &&& b &&& c = a &&& c &&& b := by
  refine cb_bit_ext (fun i _ => ?_)
  rw [cb_bit_and, cb_bit_and, cb_bit_and, cb_bit_and, Bool.and_assoc, Bool.and_assoc, Bool.and_comm (cb_bit b i)]
def pt_X10_away : cb_PT := cb_m 46 2 sp_X10_away
theorem rc_X10_away : cb_rc cb_tb RX10 pt_X10_away := cb_m_rc rfl rfl
def md_X10_away : cb_D := (RX10, cX10_away, 3, (some .int), (0, 0, 7, 157), [
  (0, .aload_n 0, 1, 0, 0, 0, 0),
  (1, .iconst 0, 1, 0, 0, 0, 0),
  (2, .putfield 126, 3, 0, 10, 0, 1328),
  (5, .aload_n 0, 1, 0, 0, 0, 0),
  (6, .aload_n 0, 1, 0, 0, 0, 0),
  (7, .iload_n 1, 1, 0, 1, 0, 0),
  (8, .invokevirtual 267, 3, 0, 0, 0, 0),
  (11, .ifCond .ne 7, 3, 0, 18, 0, 0),
  (14, .iconst 1, 1, 1, 0, 0, 0),
  (15, .goto 4, 3, 0, 19, 0, 0),
  (18, .iconst 0, 1, 0, 0, 0, 0),
  (19, .iconst 1, 1, 1, 0, 0, 0),
  (20, .invokevirtual 200, 3, 0, 1, 0, 0),
  (23, .ifCond .ne 23, 3, 0, 46, 0, 0),
  (26, .aload_n 0, 1, 0, 0, 0, 0),
  (27, .iload_n 2, 1, 0, 2, 0, 0),
  (28, .invokestatic 295, 3, 0, 2, 0, 0),
  (31, .ifCond .ne 7, 3, 0, 38, 0, 0),
  (34, .iconst 1, 1, 1, 0, 0, 0),
  (35, .goto 4, 3, 0, 39, 0, 0),
  (38, .iconst 0, 1, 0, 0, 0, 0),
  (39, .iconst 2, 1, 2, 0, 0, 0),
  (40, .invokevirtual 200, 3, 0, 1, 0, 0),
  (43, .ifCond .eq 5, 3, 0, 48, 0, 0),
  (46, .iconst 0, 1, 0, 0, 0, 0),
  (47, .ireturn, 1, 0, 0, 0, 0),
  (48, .aload_n 0, 1, 0, 0, 0, 0),
  (49, .aload_n 0, 1, 0, 0, 0, 0),
  (50, .invokevirtual 308, 3, 0, 3, 0, 0),
  (53, .iload_n 2, 1, 0, 2, 0, 0),
  (54, .invokevirtual 311, 3, 0, 4, 0, 0),
  (57, .aload_n 0, 1, 0, 0, 0, 0),
  (58, .aload_n 0, 1, 0, 0, 0, 0),
  (59, .invokevirtual 308, 3, 0, 3, 0, 0),
  (62, .iconst 1, 1, 1, 0, 0, 0),
  (63, .iload_n 1, 1, 0, 1, 0, 0),
  (64, .ishl, 1, 0, 0, 0, 0),
  (65, .iconst (-1), 1, (-1), 0, 0, 0),
  (66, .ixor, 1, 0, 0, 0, 0),
  (67, .iand, 1, 0, 0, 0, 0),
  (68, .iload_n 2, 1, 0, 2, 0, 0),
  (69, .invokevirtual 311, 3, 0, 4, 0, 0),
  (72, .iconst (-1), 1, (-1), 0, 0, 0),
  (73, .ixor, 1, 0, 0, 0, 0),
  (74, .iand, 1, 0, 0, 0, 0),
  (75, .iconst 1, 1, 1, 0, 0, 0),
  (76, .iload_n 1, 1, 0, 1, 0, 0),
  (77, .ishl, 1, 0, 0, 0, 0),
  (78, .iconst (-1), 1, (-1), 0, 0, 0),
  (79, .ixor, 1, 0, 0, 0, 0),
  (80, .iand, 1, 0, 0, 0, 0),
  (81, .ireturn, 1, 0, 0, 0, 0)],
  [(0, 267, 2, 0, 0, pt_X10_isClock), (0, 200, 3, 0, 0, pt_X10_bad), (1, 295, 1, 0, 0, pt_X10_areDays), (0, 308, 1, 0, 0, pt_X10_all), (0, 311, 3, 0, 0, pt_X10_rightBy)], [])
set_option maxRecDepth 100000 in
theorem vd_X10_away : md_X10_away.cd.all (cb_vE md_X10_away) = true := by decide +kernel
theorem wd_X10_away : cb_wd yX10_away md_X10_away := ⟨cb_tw (i := 1740) (by decide +kernel), cb_tw (i := 11) (by decide +kernel), by decide, by decide⟩
theorem cs_X10_away : ∀ X, cb_Bs md_X10_away X → ∀ g ∈ md_X10_away.ga, cb_CS cb_tb md_X10_away X g := fun X B => List.forall_mem_cons.mpr ⟨cb_csV B ok_X10_isClock wd_X10_isClock (cb_tw (i := 1581) (by decide +kernel)) (cb_tw (i := 1583) (by decide +kernel)) (cb_tp (i := 58) (by decide +kernel)) rc_X10_isClock ⟨by decide, by decide⟩ (by decide +kernel), List.forall_mem_cons.mpr ⟨cb_csV B ok_X10_bad wd_X10_bad (cb_tw (i := 1507) (by decide +kernel)) (cb_tw (i := 1509) (by decide +kernel)) (cb_tp (i := 45) (by decide +kernel)) rc_X10_bad ⟨by decide, by decide⟩ (by decide +kernel), List.forall_mem_cons.mpr ⟨cb_csS B ok_X10_areDays wd_X10_areDays (cb_tw (i := 1702) (by decide +kernel)) (cb_tw (i := 1703) (by decide +kernel)) ⟨by decide, by decide⟩ (by decide +kernel), List.forall_mem_cons.mpr ⟨cb_csV B ok_X10_all wd_X10_all (cb_tw (i := 1741) (by decide +kernel)) (cb_tw (i := 1743) (by decide +kernel)) (cb_tp (i := 78) (by decide +kernel)) rc_X10_all ⟨by decide, by decide⟩ (by decide +kernel), List.forall_mem_cons.mpr ⟨cb_csV B ok_X10_rightBy wd_X10_rightBy (cb_tw (i := 1745) (by decide +kernel)) (cb_tw (i := 1747) (by decide +kernel)) (cb_tp (i := 79) (by decide +kernel)) rc_X10_rightBy ⟨by decide, by decide⟩ (by decide +kernel), fun _ h => nomatch h⟩⟩⟩⟩⟩
theorem ok_X10_away : cb_MOK cb_tb yX10_away md_X10_away pt_X10_away := by
  refine cb_okm ⟨plainFor_of_name (by decide), rfl⟩ (by decide) cs_X10_away (by decide) (fun X n0 f i r M hr ha h => ?_)
  have h0 := cb_a1 (T := 46) rfl ha
  subst h0
  match r, hr, h with
  | [.inl x, .inl N], hr, h =>
    obtain ⟨n, hh, nb, hI, h⟩ := h
    obtain ⟨hn1, hn8, -⟩ := id hI.1
    refine cb_run cb_tb_ok vd_X10_away (cuts := []) 90 ?_
    refine And.intro (cb_on rfl) ⟨n, ⟨hn1, hn8⟩, cb_ifnz (fun q => And.intro (cb_on rfl) (bad_f rfl (by decide) (nz_f ?_))) (fun q => And.intro (cb_on rfl) (bad_t rfl (by decide) (nz_t (And.intro trivial (h.1 (mi_c_f (by omega) q) _ (mx2 M 1) rfl)))))⟩
    obtain ⟨i, hi, hx⟩ := wg_yes (by omega) ((mi_c_iff (by omega)).mp q)
    have h := h.2 i hi hx
    refine And.intro trivial (cb_ifnz (fun q => And.intro (cb_on rfl) (bad_f rfl (by decide) (ez_f ?_))) (fun q => And.intro (cb_on rfl) (bad_t rfl (by decide) (ez_t (And.intro trivial (h.1 (mi_in_f q) _ (mx2 M 2) rfl))))))
    obtain ⟨k, k1, k2, ke⟩ := mi_in_yes (lo := 1) (hi := 100) (by decide) (by decide) q
    have h := h.2 k k1 k2 ke
    have hI1 := mi_I_X (mx1 M) hI
    refine And.intro (cb_on rfl) (And.intro (cb_on rfl) ⟨n, hh, nb, k, ⟨hI1, ke, by omega⟩, fun M2 hF2 h02 => And.intro (cb_on rfl) (And.intro (cb_on rfl) ⟨n, hh, nb, k, ⟨mi_I_X hF2 hI1, ke, by omega⟩, fun M3 hF3 h03 => And.intro trivial (cb_eqK (h M3 (((mx1 M).trans hF2).trans hF3) (h03.trans h02)) ?_)⟩)⟩)
    rw [mv_X hF2, mv_X (mx1 M), hF2.1 49 0 1 rfl, show cb_gI (cb_sI M 46 0 0 0) 49 0 1 = nI n from hn1, hx, show vq_tr (mv M n hh nb) (wm_all (nI n)) k = vq_on (mv M n hh nb) k from vq_tr_all (V := mv M n hh nb) hn8 k]
    exact i3_and _ _ _
/-! alone -/
theorem wu_b1 {n i j : Nat} (hn : n ≤ 8) (hi : i < n) (hj : j < n) : (wu_of n (wm_b1 i) 0).1 j = decide (j = i) := by
  show (decide (j < n) && cb_bit (wm_b1 i) j) = _
  rw [decide_eq_true hj, Bool.true_and]
  have : ∀ i, i < 8 → ∀ j, j < 8 → cb_bit (wm_b1 i) j = decide (j = i) := by decide +kernel
  exact this i (by omega) j (by omega)
theorem wn_al_run {c : wn_C} {i j : Nat} {day : Int32} (hn : c.n ≤ 8) (hi : i < c.n) (hj : j < c.n) : wn_run c (wu_of c.n (wm_b1 i) 0) day j = (decide (j = i) && decide (c.ky j ≤ 8 ∨ cb_rem day (c.ky j) < 8)) := by
  unfold wn_run
  rw [wu_b1 hn hi hj, show (wu_of c.n (wm_b1 i) 0).2 = false from (show decide (¬ (0 : Int32) = 0) = false by decide), Bool.false_or]
theorem wn_al_go {c : wn_C} {i j : Nat} {day : Int32} {ph : wm_F} (hn : c.n ≤ 8) (hi : i < c.n) (hj : j < c.n) : wn_go c (wu_of c.n (wm_b1 i) 0) day ph j = (decide (j = i) && decide (c.ky j ≤ 8 ∨ cb_rem day (c.ky j) < 8)) := by
  unfold wn_go
  rw [wn_al_run hn hi hj]
  by_cases e : j = i
  · subst e
    have : wn_stp c (wu_of c.n (wm_b1 j) 0) day ph j = false := by
      unfold wn_stp
      refine List.any_eq_false.mpr (fun a ha => ?_)
      have ha := List.mem_range.mp ha
      rw [wn_al_run hn hi ha]
      by_cases q : a = j
      · rw [decide_eq_false (fun w : a ≠ j => w q)]
        simp
      · rw [decide_eq_false q]
        simp
    rw [this]
    simp
  · rw [decide_eq_false e]
    rfl
theorem wm_sum_z {f : Nat → Int32} : ∀ {n : Nat}, (∀ j, j < n → f j = 0) → wm_sum f n = 0
  | 0, _ => rfl
  | n + 1, h => by rw [wm_sum, wm_sum_z (fun j hj => h j (by omega)), h n (by omega)]; rfl
theorem wn_al_by {c : wn_C} {i : Nat} {day damp : Int32} {ph : wm_F} (hn : c.n ≤ 8) (hi : i < c.n) : wn_by c (wu_of c.n (wm_b1 i) 0) damp day ph i = c.rt i - damp := by
  have e : wn_drv c (wu_of c.n (wm_b1 i) 0) day ph i = 0 := by
    unfold wn_drv
    refine wm_sum_z (fun j hj => if_neg (fun w => ?_))
    have := w.2
    rw [wn_al_go hn hi hj, decide_eq_false w.1] at this
    cases this
  unfold wn_by wn_pul wn_cut
  rw [e, Int32.zero_div, show wm_max (-200) (wm_min 200 0) = 0 by decide, Int32.add_zero]
theorem vq_alone {V : wV} {i : Nat} (hn : V.n ≤ 8) (hi : i < V.n) : ∀ k, (vq_tr V (wm_b1 i) k).2.2 i = vq_al V i k
  | 0 => rfl
  | k + 1 => by
    have ih := vq_alone hn hi k
    have hd : (vq_tr V (wm_b1 i) k).1 = V.s.1 + nI k := by
      unfold vq_tr wq_tr
      exact wn_days_day k
    show (wn_day (vc V) (wu_of (vc V).n (wm_b1 i) 0) (wm_dmp V.dp (vq_tr V (wm_b1 i) k).1) (vq_tr V (wm_b1 i) k)).2.2 i = wq_al V.ky V.rt V.dp i V.s.1 (V.s.2.2 i) k + wn_gone V.ky V.rt V.dp i (V.s.1 + nI k)
    rw [← show vq_al V i k = wq_al V.ky V.rt V.dp i V.s.1 (V.s.2.2 i) k from rfl, ← ih, ← hd]
    show (if i < (vc V).n ∧ wn_go (vc V) (wu_of (vc V).n (wm_b1 i) 0) (vq_tr V (wm_b1 i) k).1 (vq_tr V (wm_b1 i) k).2.1 i = true then (vq_tr V (wm_b1 i) k).2.2 i + wn_by (vc V) (wu_of (vc V).n (wm_b1 i) 0) (wm_dmp V.dp (vq_tr V (wm_b1 i) k).1) (vq_tr V (wm_b1 i) k).1 (vq_tr V (wm_b1 i) k).2.1 i else (vq_tr V (wm_b1 i) k).2.2 i) = _
    rw [wn_al_go (c := vc V) hn hi hi, wn_al_by (c := vc V) hn hi, decide_eq_true (rfl : i = i), Bool.true_and]
    unfold wn_gone
    show (if i < V.n ∧ decide (V.ky i ≤ 8 ∨ cb_rem (vq_tr V (wm_b1 i) k).1 (V.ky i) < 8) = true then (vq_tr V (wm_b1 i) k).2.2 i + (V.rt i - wm_dmp V.dp (vq_tr V (wm_b1 i) k).1) else (vq_tr V (wm_b1 i) k).2.2 i) = _
    by_cases q : V.ky i ≤ 8 ∨ cb_rem (vq_tr V (wm_b1 i) k).1 (V.ky i) < 8
    · rw [if_pos ⟨hi, decide_eq_true q⟩, if_pos q]
    · rw [if_neg (fun w => q (of_decide_eq_true w.2)), if_neg q, Int32.add_zero]
theorem vq_rb {V : wV} {i k : Nat} (hn : V.n ≤ 8) (hi : i < V.n) : cb_bit (vq_rts V (wm_b1 i) (vq_tr V (wm_b1 i) k)) i = wm_rgt V.w (vq_al V i k) := by
  unfold vq_rts
  rw [wq_r_bit hn, decide_eq_true hi, vq_alone hn hi, Bool.true_and]
  have : ∀ i, i < 8 → cb_bit (wm_b1 i) i = true := by decide +kernel
  rw [this i (by omega), Bool.and_true]
theorem vq_ra {V : wV} {i k : Nat} (hn : V.n ≤ 8) (hi : i < V.n) : cb_bit (vq_rts V (wm_all (nI V.n)) (vq_tr V (wm_all (nI V.n)) k)) i = wm_rgt V.w ((vq_on V k).2.2 i) := by
  unfold vq_rts
  rw [wq_r_bit hn, decide_eq_true hi, vq_tr_all hn, Bool.true_and, wm_all_bit _ hn i (by omega), decide_eq_true hi, Bool.and_true]
theorem vq_rb0 {V : wV} {i k : Nat} (hn : V.n ≤ 8) (hi : i < V.n) : vq_rts V (wm_b1 i) (vq_tr V (wm_b1 i) k) = 0 ↔ wm_rgt V.w (vq_al V i k) = false := by
  constructor
  · intro h
    rw [← vq_rb hn hi (k := k), h]
    have : ∀ i, i < 8 → cb_bit 0 i = false := by decide
    exact this i (by omega)
  · intro h
    refine cb_bit_ext (fun j hj => ?_)
    have z : ∀ j, j < 32 → cb_bit 0 j = false := by decide
    rw [z j hj]
    by_cases e : j = i
    · rw [e, vq_rb hn hi, h]
    · unfold vq_rts
      have : ∀ i, i < 8 → ∀ j, j < 32 → ¬ j = i → cb_bit (wm_b1 i) j = false := by decide +kernel
      rw [wq_r_bit hn, this i (by omega) j hj e, Bool.and_false]
def sp_X10_fraud : cb_Sp := fun _ r M K => match r with
  | [.inl x, .inl N] => ∃ n h nb, mi_I M n h nb ∧ wg_c n x (mT 1 M K) fun i => wg_r 1 100 N (mT 2 M K) fun k => mR (cb_z (vq_fraud (mv M n h nb) i k)) M K
  | _ => False
def pt_X10_fraud : cb_PT := cb_m 46 2 sp_X10_fraud
theorem rc_X10_fraud : cb_rc cb_tb RX10 pt_X10_fraud := cb_m_rc rfl rfl
def md_X10_fraud : cb_D := (RX10, cX10_fraud, 3, (some .boolean), (0, 0, 7, 157), [
  (0, .aload_n 0, 1, 0, 0, 0, 0),
  (1, .iconst 0, 1, 0, 0, 0, 0),
  (2, .putfield 126, 3, 0, 10, 0, 1328),
  (5, .aload_n 0, 1, 0, 0, 0, 0),
  (6, .aload_n 0, 1, 0, 0, 0, 0),
  (7, .iload_n 1, 1, 0, 1, 0, 0),
  (8, .invokevirtual 267, 3, 0, 0, 0, 0),
  (11, .ifCond .ne 7, 3, 0, 18, 0, 0),
  (14, .iconst 1, 1, 1, 0, 0, 0),
  (15, .goto 4, 3, 0, 19, 0, 0),
  (18, .iconst 0, 1, 0, 0, 0, 0),
  (19, .iconst 1, 1, 1, 0, 0, 0),
  (20, .invokevirtual 200, 3, 0, 1, 0, 0),
  (23, .ifCond .ne 23, 3, 0, 46, 0, 0),
  (26, .aload_n 0, 1, 0, 0, 0, 0),
  (27, .iload_n 2, 1, 0, 2, 0, 0),
  (28, .invokestatic 295, 3, 0, 2, 0, 0),
  (31, .ifCond .ne 7, 3, 0, 38, 0, 0),
  (34, .iconst 1, 1, 1, 0, 0, 0),
  (35, .goto 4, 3, 0, 39, 0, 0),
  (38, .iconst 0, 1, 0, 0, 0, 0),
  (39, .iconst 2, 1, 2, 0, 0, 0),
  (40, .invokevirtual 200, 3, 0, 1, 0, 0),
  (43, .ifCond .eq 5, 3, 0, 48, 0, 0),
  (46, .iconst 0, 1, 0, 0, 0, 0),
  (47, .ireturn, 1, 0, 0, 0, 0),
  (48, .aload_n 0, 1, 0, 0, 0, 0),
  (49, .aload_n 0, 1, 0, 0, 0, 0),
  (50, .invokevirtual 308, 3, 0, 3, 0, 0),
  (53, .iload_n 2, 1, 0, 2, 0, 0),
  (54, .invokevirtual 311, 3, 0, 4, 0, 0),
  (57, .iload_n 1, 1, 0, 1, 0, 0),
  (58, .ishr, 1, 0, 0, 0, 0),
  (59, .iconst 1, 1, 1, 0, 0, 0),
  (60, .iand, 1, 0, 0, 0, 0),
  (61, .iconst 1, 1, 1, 0, 0, 0),
  (62, .if_icmp .ne 22, 3, 0, 84, 0, 0),
  (65, .aload_n 0, 1, 0, 0, 0, 0),
  (66, .iconst 1, 1, 1, 0, 0, 0),
  (67, .iload_n 1, 1, 0, 1, 0, 0),
  (68, .ishl, 1, 0, 0, 0, 0),
  (69, .iload_n 2, 1, 0, 2, 0, 0),
  (70, .invokevirtual 311, 3, 0, 4, 0, 0),
  (73, .iload_n 1, 1, 0, 1, 0, 0),
  (74, .ishr, 1, 0, 0, 0, 0),
  (75, .iconst 1, 1, 1, 0, 0, 0),
  (76, .iand, 1, 0, 0, 0, 0),
  (77, .ifCond .ne 7, 3, 0, 84, 0, 0),
  (80, .iconst 1, 1, 1, 0, 0, 0),
  (81, .goto 4, 3, 0, 85, 0, 0),
  (84, .iconst 0, 1, 0, 0, 0, 0),
  (85, .ireturn, 1, 0, 0, 0, 0)],
  [(0, 267, 2, 0, 0, pt_X10_isClock), (0, 200, 3, 0, 0, pt_X10_bad), (1, 295, 1, 0, 0, pt_X10_areDays), (0, 308, 1, 0, 0, pt_X10_all), (0, 311, 3, 0, 0, pt_X10_rightBy)], [])
set_option maxRecDepth 100000 in
theorem vd_X10_fraud : md_X10_fraud.cd.all (cb_vE md_X10_fraud) = true := by decide +kernel
theorem wd_X10_fraud : cb_wd yX10_fraud md_X10_fraud := ⟨cb_tw (i := 1811) (by decide +kernel), cb_tw (i := 11) (by decide +kernel), by decide, by decide⟩
theorem cs_X10_fraud : ∀ X, cb_Bs md_X10_fraud X → ∀ g ∈ md_X10_fraud.ga, cb_CS cb_tb md_X10_fraud X g := fun X B => List.forall_mem_cons.mpr ⟨cb_csV B ok_X10_isClock wd_X10_isClock (cb_tw (i := 1581) (by decide +kernel)) (cb_tw (i := 1583) (by decide +kernel)) (cb_tp (i := 58) (by decide +kernel)) rc_X10_isClock ⟨by decide, by decide⟩ (by decide +kernel), List.forall_mem_cons.mpr ⟨cb_csV B ok_X10_bad wd_X10_bad (cb_tw (i := 1507) (by decide +kernel)) (cb_tw (i := 1509) (by decide +kernel)) (cb_tp (i := 45) (by decide +kernel)) rc_X10_bad ⟨by decide, by decide⟩ (by decide +kernel), List.forall_mem_cons.mpr ⟨cb_csS B ok_X10_areDays wd_X10_areDays (cb_tw (i := 1702) (by decide +kernel)) (cb_tw (i := 1703) (by decide +kernel)) ⟨by decide, by decide⟩ (by decide +kernel), List.forall_mem_cons.mpr ⟨cb_csV B ok_X10_all wd_X10_all (cb_tw (i := 1741) (by decide +kernel)) (cb_tw (i := 1743) (by decide +kernel)) (cb_tp (i := 78) (by decide +kernel)) rc_X10_all ⟨by decide, by decide⟩ (by decide +kernel), List.forall_mem_cons.mpr ⟨cb_csV B ok_X10_rightBy wd_X10_rightBy (cb_tw (i := 1745) (by decide +kernel)) (cb_tw (i := 1747) (by decide +kernel)) (cb_tp (i := 79) (by decide +kernel)) rc_X10_rightBy ⟨by decide, by decide⟩ (by decide +kernel), fun _ h => nomatch h⟩⟩⟩⟩⟩
theorem ok_X10_fraud : cb_MOK cb_tb yX10_fraud md_X10_fraud pt_X10_fraud := by
  refine cb_okm ⟨plainFor_of_name (by decide), rfl⟩ (by decide) cs_X10_fraud (by decide) (fun X n0 f i r M hr ha h => ?_)
  have h0 := cb_a1 (T := 46) rfl ha
  subst h0
  match r, hr, h with
  | [.inl x, .inl N], hr, h =>
    obtain ⟨n, hh, nb, hI, h⟩ := h
    obtain ⟨hn1, hn8, -⟩ := id hI.1
    refine cb_run cb_tb_ok vd_X10_fraud (cuts := []) 90 ?_
    refine And.intro (cb_on rfl) ⟨n, ⟨hn1, hn8⟩, cb_ifnz (fun q => And.intro (cb_on rfl) (bad_f rfl (by decide) (nz_f ?_))) (fun q => And.intro (cb_on rfl) (bad_t rfl (by decide) (nz_t (And.intro cb_rt0 (h.1 (mi_c_f (by omega) q) _ (mx2 M 1) rfl)))))⟩
    obtain ⟨i, hi, hx⟩ := wg_yes (by omega) ((mi_c_iff (by omega)).mp q)
    have h := h.2 i hi hx
    refine And.intro trivial (cb_ifnz (fun q => And.intro (cb_on rfl) (bad_f rfl (by decide) (ez_f ?_))) (fun q => And.intro (cb_on rfl) (bad_t rfl (by decide) (ez_t (And.intro cb_rt0 (h.1 (mi_in_f q) _ (mx2 M 2) rfl))))))
    obtain ⟨k, k1, k2, ke⟩ := mi_in_yes (lo := 1) (hi := 100) (by decide) (by decide) q
    have h := h.2 k k1 k2 ke
    have hI1 := mi_I_X (mx1 M) hI
    have eall : cb_gI (cb_sI M 46 0 0 0) 49 0 1 = nI n := hn1
    have H := h
    subst hx
    have h := H
    refine And.intro (cb_on rfl) (And.intro (cb_on rfl) ⟨n, hh, nb, k, ⟨hI1, ke, by omega⟩, fun M2 hF2 h02 => ?_⟩)
    have hX2 := (mx1 M).trans hF2
    rw [mv_X (mx1 M), eall]
    have h : mR (cb_z (wm_rgt (mv M n hh nb).w ((vq_on (mv M n hh nb) k).2.2 i) && !wm_rgt (mv M n hh nb).w (vq_al (mv M n hh nb) i k))) M (fun v M' => X.K (.inl v) (cb_aS n0, f) M') := h
    show (¬ (vq_rts (mv M n hh nb) (wm_all (nI n)) (vq_tr (mv M n hh nb) (wm_all (nI n)) k) >>> (nI i &&& 31)) &&& 1 = 1 → _) ∧ (¬ ¬ (vq_rts (mv M n hh nb) (wm_all (nI n)) (vq_tr (mv M n hh nb) (wm_all (nI n)) k) >>> (nI i &&& 31)) &&& 1 = 1 → _)
    rw [mi_sbit _ (by omega), show cb_bit (vq_rts (mv M n hh nb) (wm_all (nI n)) (vq_tr (mv M n hh nb) (wm_all (nI n)) k)) i = _ from vq_ra (V := mv M n hh nb) hn8 hi]
    refine cb_ifn1 (fun q => ?_) (fun q => And.intro (cb_on rfl) ⟨n, hh, nb, k, ⟨mi_I_X hF2 hI1, ke, by omega⟩, fun M3 hF3 h03 => ?_⟩)
    · rw [q] at h
      exact And.intro cb_rt0 (h M2 hX2 h02)
    · rw [mv_X hX2]
      show (¬ (vq_rts (mv M n hh nb) (wm_b1 i) (vq_tr (mv M n hh nb) (wm_b1 i) k) >>> (nI i &&& 31)) &&& 1 = 0 → _) ∧ (¬ ¬ (vq_rts (mv M n hh nb) (wm_b1 i) (vq_tr (mv M n hh nb) (wm_b1 i) k) >>> (nI i &&& 31)) &&& 1 = 0 → _)
      rw [mi_sbit _ (by omega), vq_rb (V := mv M n hh nb) hn8 hi]
      refine cb_ifnz (fun q1 => ?_) (fun q1 => ?_)
      · rw [q, q1] at h
        exact And.intro cb_rt0 (h M3 (hX2.trans hF3) (h03.trans h02))
      · rw [q, q1] at h
        exact And.intro cb_rt1 (h M3 (hX2.trans hF3) (h03.trans h02))
def sp_X10_sale : cb_Sp := fun _ r M K => match r with
  | [.inl x, .inl N] => ∃ n h nb, mi_I M n h nb ∧ wg_c n x (mT 1 M K) fun i => wg_r 1 100 N (mT 2 M K) fun k => mR (wq_sell (vq_sel (mv M n h nb) i) k) M K
  | _ => False
def pt_X10_sale : cb_PT := cb_m 46 2 sp_X10_sale
theorem rc_X10_sale : cb_rc cb_tb RX10 pt_X10_sale := cb_m_rc rfl rfl
def md_X10_sale : cb_D := (RX10, cX10_sale, 4, (some .int), (0, 0, 7, 157), [
  (0, .aload_n 0, 1, 0, 0, 0, 0),
  (1, .iconst 0, 1, 0, 0, 0, 0),
  (2, .putfield 126, 3, 0, 10, 0, 1328),
  (5, .aload_n 0, 1, 0, 0, 0, 0),
  (6, .aload_n 0, 1, 0, 0, 0, 0),
  (7, .iload_n 1, 1, 0, 1, 0, 0),
  (8, .invokevirtual 267, 3, 0, 0, 0, 0),
  (11, .ifCond .ne 7, 3, 0, 18, 0, 0),
  (14, .iconst 1, 1, 1, 0, 0, 0),
  (15, .goto 4, 3, 0, 19, 0, 0),
  (18, .iconst 0, 1, 0, 0, 0, 0),
  (19, .iconst 1, 1, 1, 0, 0, 0),
  (20, .invokevirtual 200, 3, 0, 1, 0, 0),
  (23, .ifCond .ne 23, 3, 0, 46, 0, 0),
  (26, .aload_n 0, 1, 0, 0, 0, 0),
  (27, .iload_n 2, 1, 0, 2, 0, 0),
  (28, .invokestatic 295, 3, 0, 2, 0, 0),
  (31, .ifCond .ne 7, 3, 0, 38, 0, 0),
  (34, .iconst 1, 1, 1, 0, 0, 0),
  (35, .goto 4, 3, 0, 39, 0, 0),
  (38, .iconst 0, 1, 0, 0, 0, 0),
  (39, .iconst 2, 1, 2, 0, 0, 0),
  (40, .invokevirtual 200, 3, 0, 1, 0, 0),
  (43, .ifCond .eq 5, 3, 0, 48, 0, 0),
  (46, .iconst 0, 1, 0, 0, 0, 0),
  (47, .ireturn, 1, 0, 0, 0, 0),
  (48, .iconst 1, 1, 1, 0, 0, 0),
  (49, .istore_n 3, 1, 0, 3, 0, 0),
  (50, .iload_n 3, 1, 0, 3, 0, 0),
  (51, .iload_n 2, 1, 0, 2, 0, 0),
  (52, .if_icmp .gt 43, 3, 0, 95, 0, 0),
  (55, .aload_n 0, 1, 0, 0, 0, 0),
  (56, .aload_n 0, 1, 0, 0, 0, 0),
  (57, .invokevirtual 308, 3, 0, 3, 0, 0),
  (60, .iload_n 3, 1, 0, 3, 0, 0),
  (61, .invokevirtual 311, 3, 0, 4, 0, 0),
  (64, .iload_n 1, 1, 0, 1, 0, 0),
  (65, .ishr, 1, 0, 0, 0, 0),
  (66, .iconst 1, 1, 1, 0, 0, 0),
  (67, .iand, 1, 0, 0, 0, 0),
  (68, .iconst 1, 1, 1, 0, 0, 0),
  (69, .if_icmp .ne 20, 3, 0, 89, 0, 0),
  (72, .aload_n 0, 1, 0, 0, 0, 0),
  (73, .iconst 1, 1, 1, 0, 0, 0),
  (74, .iload_n 1, 1, 0, 1, 0, 0),
  (75, .ishl, 1, 0, 0, 0, 0),
  (76, .iload_n 3, 1, 0, 3, 0, 0),
  (77, .invokevirtual 311, 3, 0, 4, 0, 0),
  (80, .iload_n 1, 1, 0, 1, 0, 0),
  (81, .ishr, 1, 0, 0, 0, 0),
  (82, .iconst 1, 1, 1, 0, 0, 0),
  (83, .iand, 1, 0, 0, 0, 0),
  (84, .ifCond .ne 5, 3, 0, 89, 0, 0),
  (87, .iload_n 3, 1, 0, 3, 0, 0),
  (88, .ireturn, 1, 0, 0, 0, 0),
  (89, .iinc 3 1, 3, 1, 3, 0, 0),
  (92, .goto (-42), 3, 0, 50, 0, 0),
  (95, .iconst (-1), 1, (-1), 0, 0, 0),
  (96, .ireturn, 1, 0, 0, 0, 0)],
  [(0, 267, 2, 0, 0, pt_X10_isClock), (0, 200, 3, 0, 0, pt_X10_bad), (1, 295, 1, 0, 0, pt_X10_areDays), (0, 308, 1, 0, 0, pt_X10_all), (0, 311, 3, 0, 0, pt_X10_rightBy)], [])
set_option maxRecDepth 100000 in
theorem vd_X10_sale : md_X10_sale.cd.all (cb_vE md_X10_sale) = true := by decide +kernel
theorem wd_X10_sale : cb_wd yX10_sale md_X10_sale := ⟨cb_tw (i := 1815) (by decide +kernel), cb_tw (i := 11) (by decide +kernel), by decide, by decide⟩
theorem cs_X10_sale : ∀ X, cb_Bs md_X10_sale X → ∀ g ∈ md_X10_sale.ga, cb_CS cb_tb md_X10_sale X g := fun X B => List.forall_mem_cons.mpr ⟨cb_csV B ok_X10_isClock wd_X10_isClock (cb_tw (i := 1581) (by decide +kernel)) (cb_tw (i := 1583) (by decide +kernel)) (cb_tp (i := 58) (by decide +kernel)) rc_X10_isClock ⟨by decide, by decide⟩ (by decide +kernel), List.forall_mem_cons.mpr ⟨cb_csV B ok_X10_bad wd_X10_bad (cb_tw (i := 1507) (by decide +kernel)) (cb_tw (i := 1509) (by decide +kernel)) (cb_tp (i := 45) (by decide +kernel)) rc_X10_bad ⟨by decide, by decide⟩ (by decide +kernel), List.forall_mem_cons.mpr ⟨cb_csS B ok_X10_areDays wd_X10_areDays (cb_tw (i := 1702) (by decide +kernel)) (cb_tw (i := 1703) (by decide +kernel)) ⟨by decide, by decide⟩ (by decide +kernel), List.forall_mem_cons.mpr ⟨cb_csV B ok_X10_all wd_X10_all (cb_tw (i := 1741) (by decide +kernel)) (cb_tw (i := 1743) (by decide +kernel)) (cb_tp (i := 78) (by decide +kernel)) rc_X10_all ⟨by decide, by decide⟩ (by decide +kernel), List.forall_mem_cons.mpr ⟨cb_csV B ok_X10_rightBy wd_X10_rightBy (cb_tw (i := 1745) (by decide +kernel)) (cb_tw (i := 1747) (by decide +kernel)) (cb_tp (i := 79) (by decide +kernel)) rc_X10_rightBy ⟨by decide, by decide⟩ (by decide +kernel), fun _ h => nomatch h⟩⟩⟩⟩⟩
theorem ok_X10_sale : cb_MOK cb_tb yX10_sale md_X10_sale pt_X10_sale := by
  refine cb_okm ⟨plainFor_of_name (by decide), rfl⟩ (by decide) cs_X10_sale (by decide) (fun X n0 f i r M hr ha h => ?_)
  have h0 := cb_a1 (T := 46) rfl ha
  subst h0
  match r, hr, h with
  | [.inl x, .inl N], hr, h =>
    obtain ⟨n, hh, nb, hI, h⟩ := h
    obtain ⟨hn1, hn8, -⟩ := id hI.1
    refine cb_run cb_tb_ok vd_X10_sale (cuts := [50]) 90 ?_
    refine And.intro (cb_on rfl) ⟨n, ⟨hn1, hn8⟩, cb_ifnz (fun q => And.intro (cb_on rfl) (bad_f rfl (by decide) (nz_f ?_))) (fun q => And.intro (cb_on rfl) (bad_t rfl (by decide) (nz_t (And.intro trivial (h.1 (mi_c_f (by omega) q) _ (mx2 M 1) rfl)))))⟩
    obtain ⟨i, hi, hx⟩ := wg_yes (by omega) ((mi_c_iff (by omega)).mp q)
    have h := h.2 i hi hx
    refine And.intro trivial (cb_ifnz (fun q => And.intro (cb_on rfl) (bad_f rfl (by decide) (ez_f ?_))) (fun q => And.intro (cb_on rfl) (bad_t rfl (by decide) (ez_t (And.intro trivial (h.1 (mi_in_f q) _ (mx2 M 2) rfl))))))
    obtain ⟨k, k1, k2, ke⟩ := mi_in_yes (lo := 1) (hi := 100) (by decide) (by decide) q
    have h := h.2 k k1 k2 ke
    have H := h
    subst hx
    have h := H
    obtain ⟨V, hV⟩ : ∃ V, V = mv M n hh nb := ⟨_, rfl⟩
    have hVn : V.n = n := by rw [hV]; rfl
    rw [← hV] at h
    have loop : ∀ j, j ≤ k → ∀ (y : Int32) (M2 : cb_M), y = nI (j + 1) → cb_fr fr_X M M2 → cb_gI M2 46 0 0 = 0 → (List.range j).any (vq_sel V i) = false → cb_Gd cb_tb md_X10_sale X 50 [some (cb_r 46 0), some (cb_i (nI i)), some (cb_i (N)), some (cb_i (y))] [] (cb_aS n0, f) M2 0 0 := by
      refine cb_up (fun j => ∀ (y : Int32) (M2 : cb_M), y = nI (j + 1) → cb_fr fr_X M M2 → cb_gI M2 46 0 0 = 0 → (List.range j).any (vq_sel V i) = false → cb_Gd cb_tb md_X10_sale X 50 [some (cb_r 46 0), some (cb_i (nI i)), some (cb_i (N)), some (cb_i (y))] [] (cb_aS n0, f) M2 0 0) ?_ ?_
      · intro y M2 hy hF h0 hz
        refine cb_run cb_tb_ok vd_X10_sale (cuts := [50]) 90 ?_
        refine And.intro (fun _ => And.intro trivial (cb_eqK (h M2 hF h0) ?_)) (fun q => absurd (show N < y by rw [hy, ke]; exact nI_lt (by omega) (by omega)) q)
        rw [wq_sell_none hz]
      · intro j hj ih y M2 hy hF h0 hz
        have hI2 := mi_I_X hF hI
        have e1 : cb_gI M2 49 0 1 = nI n := hI2.1.1
        have nx : ∀ M3, cb_fr fr_X M2 M3 → cb_gI M3 46 0 0 = cb_gI M2 46 0 0 → vq_sel V i j = false → cb_Gd cb_tb md_X10_sale X 50 [some (cb_r 46 0), some (cb_i (nI i)), some (cb_i (N)), some (cb_i ((y + 1)))] [] (cb_aS n0, f) M3 0 0 := fun M3 hF3 h03 q => ih _ M3 (by rw [hy, nI_1]) (hF.trans hF3) (h03.trans h0) (by rw [cb_any_succ, hz, q]; rfl)
        have esel : vq_sel V i j = (wm_rgt V.w ((vq_on V (j + 1)).2.2 i) && !wm_rgt V.w (vq_al V i (j + 1))) := rfl
        refine cb_run cb_tb_ok vd_X10_sale (cuts := [50]) 90 ?_
        refine And.intro (fun q => absurd q (show ¬ N < y by rw [hy, ke]; exact Int32.not_lt.mpr (nI_le (by omega) (by omega)))) (fun _ => And.intro (cb_on rfl) (And.intro (cb_on rfl) ⟨n, hh, nb, j + 1, ⟨hI2, hy, by omega⟩, fun M3 hF3 h03 => ?_⟩))
        rw [mv_X hF, e1, ← hV]
        show (¬ (vq_rts V (wm_all (nI n)) (vq_tr V (wm_all (nI n)) (j + 1)) >>> (nI i &&& 31)) &&& 1 = 1 → _) ∧ (¬ ¬ (vq_rts V (wm_all (nI n)) (vq_tr V (wm_all (nI n)) (j + 1)) >>> (nI i &&& 31)) &&& 1 = 1 → _)
        rw [mi_sbit _ (by omega), ← hVn, vq_ra (V := V) (by omega) (by omega)]
        refine cb_ifn1 (fun q => nx M3 hF3 h03 ?_) (fun q => And.intro (cb_on rfl) ⟨n, hh, nb, j + 1, ⟨mi_I_X hF3 hI2, hy, by omega⟩, fun M4 hF4 h04 => ?_⟩)
        · rw [esel, q]
          rfl
        · rw [mv_X hF3, mv_X hF, ← hV]
          show (¬ (vq_rts V (wm_b1 i) (vq_tr V (wm_b1 i) (j + 1)) >>> (nI i &&& 31)) &&& 1 = 0 → _) ∧ (¬ ¬ (vq_rts V (wm_b1 i) (vq_tr V (wm_b1 i) (j + 1)) >>> (nI i &&& 31)) &&& 1 = 0 → _)
          rw [mi_sbit _ (by omega), vq_rb (V := V) (by omega) (by omega)]
          refine cb_ifnz (fun q1 => nx M4 (hF3.trans hF4) (h04.trans h03) ?_) (fun q1 => And.intro trivial (cb_eqK (h M4 ((hF.trans hF3).trans hF4) ((h04.trans h03).trans h0)) ?_))
          · rw [esel, q, q1]
            rfl
          · have : vq_sel V i j = true := by rw [esel, q, q1]; rfl
            rw [hy]
            unfold wq_sell
            rw [cb_find_some hj this (fun a ha => ?_)]
            cases z : vq_sel V i a with
            | false => rfl
            | true =>
              have := cb_any_hit (f := vq_sel V i) ha z
              rw [this] at hz
              cases hz
    exact loop 0 (Nat.zero_le _) _ _ rfl (mx1 M) rfl rfl
