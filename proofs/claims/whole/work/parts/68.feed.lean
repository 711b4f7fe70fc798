/-! ===== the reference: undo, count, fault, feed ===== -/
def fr_U (t j : Nat) : Bool := Nat.beq t 69 || (Nat.beq t 70 || (Nat.beq t 46 && (Nat.beq j 0 || Nat.beq j 33)))
def sp_X10_undo : cb_Sp := fun _ r M K => match r with
  | [.inl N] => ∃ n h nb d, (mi_I M n h nb ∧ cb_gI M 46 0 33 = nI d ∧ d ≤ 400) ∧ wg_r 1 400 N (mT 1 M K) fun k => (d = 0 → mR 0 M K) ∧ (0 < d → ∀ M', cb_fr fr_U M M' → cb_gI M' 46 0 0 = 0 → cb_gI M' 46 0 33 = nI (d - min k d) → (∀ i, i < n → cb_gI M' 69 0 i = cb_gI M 75 (d - min k d) i ∧ cb_gI M' 70 0 i = cb_gI M 77 (d - min k d) i) → K (some (cb_i (nI (min k d)))) M')
  | _ => False
def pt_X10_undo : cb_PT := cb_m 46 1 sp_X10_undo
theorem rc_X10_undo : cb_rc cb_tb RX10 pt_X10_undo := cb_m_rc rfl rfl
def md_X10_undo : cb_D := (RX10, cX10_undo, 4, (some .int), (0, 0, 1, 22), [
  (0, .aload_n 0, 1, 0, 0, 0, 0),
  (1, .iconst 0, 1, 0, 0, 0, 0),
  (2, .putfield 126, 3, 0, 10, 0, 1328),
  (5, .aload_n 0, 1, 0, 0, 0, 0),
  (6, .iload_n 1, 1, 0, 1, 0, 0),
  (7, .iconst 1, 1, 1, 0, 0, 0),
  (8, .sipush 400, 3, 400, 0, 0, 0),
  (11, .invokestatic 160, 3, 0, 0, 0, 0),
  (14, .ifCond .ne 7, 3, 0, 21, 0, 0),
  (17, .iconst 1, 1, 1, 0, 0, 0),
  (18, .goto 4, 3, 0, 22, 0, 0),
  (21, .iconst 0, 1, 0, 0, 0, 0),
  (22, .iconst 1, 1, 1, 0, 0, 0),
  (23, .invokevirtual 200, 3, 0, 1, 0, 0),
  (26, .ifCond .eq 5, 3, 0, 31, 0, 0),
  (29, .iconst 0, 1, 0, 0, 0, 0),
  (30, .ireturn, 1, 0, 0, 0, 0),
  (31, .iload_n 1, 1, 0, 1, 0, 0),
  (32, .aload_n 0, 1, 0, 0, 0, 0),
  (33, .getfield 210, 3, 0, 10, 33, 1361),
  (36, .if_icmp .ge 7, 3, 0, 43, 0, 0),
  (39, .iload_n 1, 1, 0, 1, 0, 0),
  (40, .goto 7, 3, 0, 47, 0, 0),
  (43, .aload_n 0, 1, 0, 0, 0, 0),
  (44, .getfield 210, 3, 0, 10, 33, 1361),
  (47, .istore_n 2, 1, 0, 2, 0, 0),
  (48, .iload_n 2, 1, 0, 2, 0, 0),
  (49, .ifCond .ne 5, 3, 0, 54, 0, 0),
  (52, .iconst 0, 1, 0, 0, 0, 0),
  (53, .ireturn, 1, 0, 0, 0, 0),
  (54, .aload_n 0, 1, 0, 0, 0, 0),
  (55, .dup, 1, 0, 0, 0, 0),
  (56, .getfield 210, 3, 0, 10, 33, 1361),
  (59, .iload_n 2, 1, 0, 2, 0, 0),
  (60, .isub, 1, 0, 0, 0, 0),
  (61, .putfield 210, 3, 0, 10, 33, 1361),
  (64, .iconst 0, 1, 0, 0, 0, 0),
  (65, .istore_n 3, 1, 0, 3, 0, 0),
  (66, .iload_n 3, 1, 0, 3, 0, 0),
  (67, .aload_n 0, 1, 0, 0, 0, 0),
  (68, .getfield 20, 3, 0, 10, 10, 1338),
  (71, .iconst 1, 1, 1, 0, 0, 0),
  (72, .iaload, 1, 0, 0, 0, 0),
  (73, .if_icmp .ge 43, 3, 0, 116, 0, 0),
  (76, .aload_n 0, 1, 0, 0, 0, 0),
  (77, .getfield 70, 3, 0, 10, 26, 1354),
  (80, .iload_n 3, 1, 0, 3, 0, 0),
  (81, .aload_n 0, 1, 0, 0, 0, 0),
  (82, .getfield 85, 3, 0, 10, 31, 1359),
  (85, .aload_n 0, 1, 0, 0, 0, 0),
  (86, .getfield 210, 3, 0, 10, 33, 1361),
  (89, .aaload, 1, 0, 0, 0, 0),
  (90, .iload_n 3, 1, 0, 3, 0, 0),
  (91, .iaload, 1, 0, 0, 0, 0),
  (92, .iastore, 1, 0, 0, 0, 0),
  (93, .aload_n 0, 1, 0, 0, 0, 0),
  (94, .getfield 73, 3, 0, 10, 27, 1355),
  (97, .iload_n 3, 1, 0, 3, 0, 0),
  (98, .aload_n 0, 1, 0, 0, 0, 0),
  (99, .getfield 88, 3, 0, 10, 32, 1360),
  (102, .aload_n 0, 1, 0, 0, 0, 0),
  (103, .getfield 210, 3, 0, 10, 33, 1361),
  (106, .aaload, 1, 0, 0, 0, 0),
  (107, .iload_n 3, 1, 0, 3, 0, 0),
  (108, .iaload, 1, 0, 0, 0, 0),
  (109, .iastore, 1, 0, 0, 0, 0),
  (110, .iinc 3 1, 3, 1, 3, 0, 0),
  (113, .goto (-47), 3, 0, 66, 0, 0),
  (116, .iload_n 2, 1, 0, 2, 0, 0),
  (117, .ireturn, 1, 0, 0, 0, 0)],
  [(1, 160, 3, 0, 0, pt_X10_in), (0, 200, 3, 0, 0, pt_X10_bad)], [])
set_option maxRecDepth 100000 in
theorem vd_X10_undo : md_X10_undo.cd.all (cb_vE md_X10_undo) = true := by decide +kernel
theorem wd_X10_undo : cb_wd yX10_undo md_X10_undo := ⟨cb_tw (i := 1662) (by decide +kernel), cb_tw (i := 11) (by decide +kernel), by decide, by decide⟩
theorem cs_X10_undo : ∀ X, cb_Bs md_X10_undo X → ∀ g ∈ md_X10_undo.ga, cb_CS cb_tb md_X10_undo X g := fun X B => List.forall_mem_cons.mpr ⟨cb_csS B ok_X10_in wd_X10_in (cb_tw (i := 1504) (by decide +kernel)) (cb_tw (i := 1505) (by decide +kernel)) ⟨by decide, by decide⟩ (by decide +kernel), List.forall_mem_cons.mpr ⟨cb_csV B ok_X10_bad wd_X10_bad (cb_tw (i := 1507) (by decide +kernel)) (cb_tw (i := 1509) (by decide +kernel)) (cb_tp (i := 45) (by decide +kernel)) rc_X10_bad ⟨by decide, by decide⟩ (by decide +kernel), fun _ h => nomatch h⟩⟩
theorem ok_X10_undo : cb_MOK cb_tb yX10_undo md_X10_undo pt_X10_undo := by
  refine cb_okm ⟨plainFor_of_name (by decide), rfl⟩ (by decide) cs_X10_undo (by decide) (fun X n0 f i r M hr ha h => ?_)
  have h0 := cb_a1 (T := 46) rfl ha
  subst h0
  match r, hr, h with
  | [.inl N], hr, h =>
    obtain ⟨n, hh, nb, d, ⟨hI, hday, hd4⟩, h⟩ := h
    obtain ⟨hn1, hn8, -⟩ := id hI.1
    refine cb_run cb_tb_ok vd_X10_undo (cuts := [47]) 90 ?_
    refine cb_ifnz (fun q => And.intro (cb_on rfl) (bad_f rfl (by decide) (ez_f ?_))) (fun q => And.intro (cb_on rfl) (bad_t rfl (by decide) (ez_t (And.intro trivial (h.1 (mi_in_f q) _ (mx2 M 1) rfl)))))
    obtain ⟨k, k1, k2, ke⟩ := mi_in_yes (lo := 1) (hi := 400) (by decide) (by decide) q
    have h := h.2 k k1 k2 ke
    have go : ∀ v : Int32, v = nI (min k d) → cb_Gd cb_tb md_X10_undo X 47 [some (cb_r 46 0), some (cb_i N), none, none] [cb_i v] (cb_aS n0, f) (cb_sI M 46 0 0 0) 0 0 := by
      intro v hv
      subst hv
      have e9 : ∀ M2, cb_fr fr_U M M2 → cb_gI M2 46 0 33 = nI (d - min k d) → vp_in (cb_gI M2 46 0 33) 401 ∧ (cb_gI M2 46 0 33).toNatClampNeg = d - min k d := fun M2 _ e => by
        rw [e]
        exact ⟨vp_in_nI (by omega) (by decide), nI_clamp (by omega)⟩
      have loop : ∀ j, j ≤ n → ∀ (z : Int32) (M2 : cb_M), z = nI j → 0 < d → cb_fr fr_U M M2 → cb_gI M2 46 0 0 = 0 → cb_gI M2 46 0 33 = nI (d - min k d) → (∀ i, i < j → cb_gI M2 69 0 i = cb_gI M 75 (d - min k d) i ∧ cb_gI M2 70 0 i = cb_gI M 77 (d - min k d) i) → cb_Gd cb_tb md_X10_undo X 66 [some (cb_r 46 0), some (cb_i (N)), some (cb_i (nI (min k d))), some (cb_i (z))] [] (cb_aS n0, f) M2 0 0 := by
        refine cb_up (fun j => ∀ (z : Int32) (M2 : cb_M), z = nI j → 0 < d → cb_fr fr_U M M2 → cb_gI M2 46 0 0 = 0 → cb_gI M2 46 0 33 = nI (d - min k d) → (∀ i, i < j → cb_gI M2 69 0 i = cb_gI M 75 (d - min k d) i ∧ cb_gI M2 70 0 i = cb_gI M 77 (d - min k d) i) → cb_Gd cb_tb md_X10_undo X 66 [some (cb_r 46 0), some (cb_i (N)), some (cb_i (nI (min k d))), some (cb_i (z))] [] (cb_aS n0, f) M2 0 0) ?_ ?_
        · intro z M2 hz hd0 hF h0 h33 hv
          refine cb_run cb_tb_ok vd_X10_undo (cuts := [66]) 90 ?_
          exact And.intro (mi_v 1 (by decide)) (cb_lout hz ((hF.1 49 0 1 rfl).trans hn1) (And.intro trivial (h.2 hd0 M2 hF h0 h33 hv)))
        · intro j hj ih z M2 hz hd0 hF h0 h33 hv
          have hz8 : vp_in z 8 := by rw [hz]; exact cb_in8 hj hn8 (by decide)
          have hzc : z.toNatClampNeg = j := by rw [hz]; exact nI_clamp (by omega)
          obtain ⟨v4, vc4⟩ := e9 M2 hF h33
          have a5 : cb_aS n0 75 (d - min k d) = true := by
            show Nat.blt (d - min k d) 401 = true
            exact Nat.blt_eq.mpr (by omega)
          have a7 : cb_aS n0 77 (d - min k d) = true := by
            show Nat.blt (d - min k d) 401 = true
            exact Nat.blt_eq.mpr (by omega)
          refine cb_run cb_tb_ok vd_X10_undo (cuts := [66]) 90 ?_
          refine And.intro (mi_v 1 (by decide)) (cb_lin hz ((hF.1 49 0 1 rfl).trans hn1) hj (by omega) (And.intro v4 (cb_av.of (by rw [vc4]; exact a5) (And.intro hz8 (And.intro hz8 (And.intro v4 (cb_av.of (by show cb_aS n0 77 (cb_gI M2 46 0 33).toNatClampNeg = true; rw [vc4]; exact a7) (And.intro hz8 (And.intro hz8 ?_)))))))))
          show cb_Gd cb_tb md_X10_undo X 66 [some (cb_r 46 0), some (cb_i (N)), some (cb_i (nI (min k d))), some (cb_i (z + 1))] [] (cb_aS n0, f) (cb_sI (cb_sI M2 69 0 z.toNatClampNeg (cb_gI M2 75 (cb_gI M2 46 0 33).toNatClampNeg z.toNatClampNeg)) 70 0 z.toNatClampNeg (cb_gI M2 77 (cb_gI M2 46 0 33).toNatClampNeg z.toNatClampNeg)) 0 0
          rw [vc4, hzc, hF.1 75 _ j rfl, hF.1 77 _ j rfl]
          refine ih _ _ (by rw [hz, nI_1]) hd0 ((hF.set _ rfl).set _ rfl) h0 h33 (fun i hi => ?_)
          by_cases q : i = j
          · subst q
            rw [cb_gs_ne (by omega), cb_gs_eq, cb_gs_eq]
            exact ⟨rfl, rfl⟩
          · rw [cb_gs_ne (by omega), cb_gs_ne (fun w => q w.2.2), cb_gs_ne (fun w => q w.2.2), cb_gs_ne (by omega)]
            exact hv i (by omega)
      refine cb_run cb_tb_ok vd_X10_undo (cuts := [66]) 90 ?_
      refine cb_ifne (fun q => ?_) (fun q => ?_)
      · have hd0 : 0 < d := by
          apply Classical.byContradiction
          intro w
          have : min k d = 0 := by omega
          rw [this] at q
          exact q rfl
        show cb_Gd cb_tb md_X10_undo X 66 [some (cb_r 46 0), some (cb_i (N)), some (cb_i (nI (min k d))), some (cb_i (0))] [] (cb_aS n0, f) (cb_sI (cb_sI M 46 0 0 0) 46 0 33 (cb_gI M 46 0 33 - nI (min k d))) 0 0
        rw [hday, ← nI_sub (Nat.min_le_right k d)]
        exact loop 0 (Nat.zero_le _) _ _ rfl hd0 (((cb_fr.refl M).set _ rfl).set _ rfl) rfl rfl (fun i hi => absurd hi (by omega))
      · have : min k d = 0 := (nI_eq (b := 0) (by omega) (by decide)).mp q
        exact And.intro trivial (h.1 (by omega) _ (mx1 M) rfl)
    refine cb_ifge (fun q => go _ ?_) (fun q => go _ ?_)
    · have q : cb_gI M 46 0 33 ≤ N := q
      rw [hday, ke] at q
      have := (nI_leI (by omega) (by omega)).mp q
      show cb_gI M 46 0 33 = _
      rw [hday, Nat.min_eq_right this]
    · have q : N < cb_gI M 46 0 33 := q
      rw [hday, ke] at q
      have := (nI_ltI (by omega) (by omega)).mp q
      rw [ke, Nat.min_eq_left (by omega)]
def sp_X10_count : cb_Sp := fun _ r M K => match r with
  | [.inl x] => mR (if x = 0 then cb_gI M 46 0 34 else if x = 1 then cb_gI M 46 0 1 else -1) M K
  | _ => False
def pt_X10_count : cb_PT := cb_m 46 1 sp_X10_count
theorem rc_X10_count : cb_rc cb_tb RX10 pt_X10_count := cb_m_rc rfl rfl
def md_X10_count : cb_D := (RX10, cX10_count, 2, (some .int), (0, 0, 0, 0), [
  (0, .aload_n 0, 1, 0, 0, 0, 0),
  (1, .iconst 0, 1, 0, 0, 0, 0),
  (2, .putfield 126, 3, 0, 10, 0, 1328),
  (5, .iload_n 1, 1, 0, 1, 0, 0),
  (6, .ifCond .ne 10, 3, 0, 16, 0, 0),
  (9, .aload_n 0, 1, 0, 0, 0, 0),
  (10, .getfield 213, 3, 0, 10, 34, 1362),
  (13, .goto 16, 3, 0, 29, 0, 0),
  (16, .iload_n 1, 1, 0, 1, 0, 0),
  (17, .iconst 1, 1, 1, 0, 0, 0),
  (18, .if_icmp .ne 10, 3, 0, 28, 0, 0),
  (21, .aload_n 0, 1, 0, 0, 0, 0),
  (22, .getfield 129, 3, 0, 10, 1, 1329),
  (25, .goto 4, 3, 0, 29, 0, 0),
  (28, .iconst (-1), 1, (-1), 0, 0, 0),
  (29, .ireturn, 1, 0, 0, 0, 0)],
  [], [])
set_option maxRecDepth 100000 in
theorem vd_X10_count : md_X10_count.cd.all (cb_vE md_X10_count) = true := by decide +kernel
theorem wd_X10_count : cb_wd yX10_count md_X10_count := ⟨cb_tw (i := 1875) (by decide +kernel), cb_tw (i := 11) (by decide +kernel), by decide, by decide⟩
theorem cs_X10_count : ∀ X, cb_Bs md_X10_count X → ∀ g ∈ md_X10_count.ga, cb_CS cb_tb md_X10_count X g := fun X B => fun _ h => nomatch h
theorem ok_X10_count : cb_MOK cb_tb yX10_count md_X10_count pt_X10_count := by
  refine cb_okm ⟨plainFor_of_name (by decide), rfl⟩ (by decide) cs_X10_count (by decide) (fun X n0 f i r M hr ha h => ?_)
  have h0 := cb_a1 (T := 46) rfl ha
  subst h0
  match r, hr, h with
  | [.inl x], hr, h =>
    have h : ∀ M', cb_fr fr_X M M' → cb_gI M' 46 0 0 = 0 → X.K (.inl (some (cb_i (if x = 0 then cb_gI M 46 0 34 else if x = 1 then cb_gI M 46 0 1 else -1)))) (cb_aS n0, f) M' := h
    refine cb_run cb_tb_ok vd_X10_count (cuts := []) 90 ?_
    refine cb_ifne (fun q => cb_ifne (fun q1 => And.intro trivial ?_) (fun q1 => And.intro trivial ?_)) (fun q => And.intro trivial ?_)
    · rw [if_neg q, if_neg q1] at h
      exact h _ (mx1 M) rfl
    · rw [if_neg q, if_pos q1] at h
      exact h _ (mx1 M) rfl
    · rw [if_pos q] at h
      exact h _ (mx1 M) rfl
def sp_X10_fault : cb_Sp := fun _ r M K => match r with
  | [] => mR (cb_gI M 46 0 3) M K
  | _ => False
def pt_X10_fault : cb_PT := cb_m 46 0 sp_X10_fault
theorem rc_X10_fault : cb_rc cb_tb RX10 pt_X10_fault := cb_m_rc rfl rfl
def md_X10_fault : cb_D := (RX10, cX10_fault, 1, (some .int), (0, 0, 0, 0), [
  (0, .aload_n 0, 1, 0, 0, 0, 0),
  (1, .iconst 0, 1, 0, 0, 0, 0),
  (2, .putfield 126, 3, 0, 10, 0, 1328),
  (5, .aload_n 0, 1, 0, 0, 0, 0),
  (6, .getfield 9, 3, 0, 10, 3, 1331),
  (9, .ireturn, 1, 0, 0, 0, 0)],
  [], [])
set_option maxRecDepth 100000 in
theorem vd_X10_fault : md_X10_fault.cd.all (cb_vE md_X10_fault) = true := by decide +kernel
theorem wd_X10_fault : cb_wd yX10_fault md_X10_fault := ⟨cb_tw (i := 1572) (by decide +kernel), cb_tw (i := 11) (by decide +kernel), by decide, by decide⟩
theorem cs_X10_fault : ∀ X, cb_Bs md_X10_fault X → ∀ g ∈ md_X10_fault.ga, cb_CS cb_tb md_X10_fault X g := fun X B => fun _ h => nomatch h
theorem ok_X10_fault : cb_MOK cb_tb yX10_fault md_X10_fault pt_X10_fault := by
  refine cb_okm ⟨plainFor_of_name (by decide), rfl⟩ (by decide) cs_X10_fault (by decide) (fun X n0 f i r M hr ha h => ?_)
  have h0 := cb_a1 (T := 46) rfl ha
  subst h0
  match r, hr, h with
  | [], hr, h =>
    refine cb_run cb_tb_ok vd_X10_fault (cuts := []) 90 ?_
    exact And.intro trivial (h _ (mx1 M) rfl)
/-! feed -/
def mf_v (a b c d e : Int32) (k : Nat) : Int32 := if k < 4 then a else if k < 8 then b else if k < 12 then c else if k < 16 then d else e
def mf_b (a b c d e : Int32) (k : Nat) : Int32 := (mf_v a b c d e k >>> ((24 - 8 * cb_rem (nI k) 4) &&& 31)) &&& 255
def fr_F (t j : Nat) : Bool := Nat.beq t 47 || (Nat.beq t 46 && (Nat.beq j 0 || Nat.beq j 1))
def sp_X10_feed : cb_Sp := fun _ r M K => match r with
  | [.inl a, .inl b, .inl c, .inl d, .inl e] => ∃ t, (cb_gI M 46 0 1 = nI t ∧ t ≤ 600) ∧ (600 < t + 20 → mR (-1) M K) ∧ (t + 20 ≤ 600 → ∀ M', cb_fr fr_F M M' → cb_gI M' 46 0 0 = 0 → cb_gI M' 46 0 1 = nI (t + 20) → (∀ j, ¬ (t ≤ j ∧ j < t + 20) → cb_gI M' 47 0 j = cb_gI M 47 0 j) → (∀ k, k < 20 → cb_gI M' 47 0 (t + k) = mf_b a b c d e k) → K (some (cb_i (nI (t + 20)))) M')
  | _ => False
def pt_X10_feed : cb_PT := cb_m 46 5 sp_X10_feed
theorem rc_X10_feed : cb_rc cb_tb RX10 pt_X10_feed := cb_m_rc rfl rfl
def md_X10_feed : cb_D := (RX10, cX10_feed, 8, (some .int), (0, 0, 0, 0), [
  (0, .aload_n 0, 1, 0, 0, 0, 0),
  (1, .iconst 0, 1, 0, 0, 0, 0),
  (2, .putfield 126, 3, 0, 10, 0, 1328),
  (5, .aload_n 0, 1, 0, 0, 0, 0),
  (6, .getfield 129, 3, 0, 10, 1, 1329),
  (9, .bipush 20, 2, 20, 0, 0, 0),
  (11, .iadd, 1, 0, 0, 0, 0),
  (12, .sipush 600, 3, 600, 0, 0, 0),
  (15, .if_icmp .le 5, 3, 0, 20, 0, 0),
  (18, .iconst (-1), 1, (-1), 0, 0, 0),
  (19, .ireturn, 1, 0, 0, 0, 0),
  (20, .iconst 0, 1, 0, 0, 0, 0),
  (21, .istore 6, 2, 0, 6, 0, 0),
  (23, .iload 6, 2, 0, 6, 0, 0),
  (25, .bipush 20, 2, 20, 0, 0, 0),
  (27, .if_icmp .ge 93, 3, 0, 120, 0, 0),
  (30, .iload 6, 2, 0, 6, 0, 0),
  (32, .iconst 4, 1, 4, 0, 0, 0),
  (33, .if_icmp .ge 7, 3, 0, 40, 0, 0),
  (36, .iload_n 1, 1, 0, 1, 0, 0),
  (37, .goto 39, 3, 0, 76, 0, 0),
  (40, .iload 6, 2, 0, 6, 0, 0),
  (42, .bipush 8, 2, 8, 0, 0, 0),
  (44, .if_icmp .ge 7, 3, 0, 51, 0, 0),
  (47, .iload_n 2, 1, 0, 2, 0, 0),
  (48, .goto 28, 3, 0, 76, 0, 0),
  (51, .iload 6, 2, 0, 6, 0, 0),
  (53, .bipush 12, 2, 12, 0, 0, 0),
  (55, .if_icmp .ge 7, 3, 0, 62, 0, 0),
  (58, .iload_n 3, 1, 0, 3, 0, 0),
  (59, .goto 17, 3, 0, 76, 0, 0),
  (62, .iload 6, 2, 0, 6, 0, 0),
  (64, .bipush 16, 2, 16, 0, 0, 0),
  (66, .if_icmp .ge 8, 3, 0, 74, 0, 0),
  (69, .iload 4, 2, 0, 4, 0, 0),
  (71, .goto 5, 3, 0, 76, 0, 0),
  (74, .iload 5, 2, 0, 5, 0, 0),
  (76, .istore 7, 2, 0, 7, 0, 0),
  (78, .aload_n 0, 1, 0, 0, 0, 0),
  (79, .getfield 13, 3, 0, 10, 8, 1336),
  (82, .aload_n 0, 1, 0, 0, 0, 0),
  (83, .getfield 129, 3, 0, 10, 1, 1329),
  (86, .iload 7, 2, 0, 7, 0, 0),
  (88, .bipush 24, 2, 24, 0, 0, 0),
  (90, .bipush 8, 2, 8, 0, 0, 0),
  (92, .iload 6, 2, 0, 6, 0, 0),
  (94, .iconst 4, 1, 4, 0, 0, 0),
  (95, .irem, 1, 0, 0, 0, 0),
  (96, .imul, 1, 0, 0, 0, 0),
  (97, .isub, 1, 0, 0, 0, 0),
  (98, .ishr, 1, 0, 0, 0, 0),
  (99, .sipush 255, 3, 255, 0, 0, 0),
  (102, .iand, 1, 0, 0, 0, 0),
  (103, .iastore, 1, 0, 0, 0, 0),
  (104, .aload_n 0, 1, 0, 0, 0, 0),
  (105, .dup, 1, 0, 0, 0, 0),
  (106, .getfield 129, 3, 0, 10, 1, 1329),
  (109, .iconst 1, 1, 1, 0, 0, 0),
  (110, .iadd, 1, 0, 0, 0, 0),
  (111, .putfield 129, 3, 0, 10, 1, 1329),
  (114, .iinc 6 1, 3, 1, 6, 0, 0),
  (117, .goto (-94), 3, 0, 23, 0, 0),
  (120, .aload_n 0, 1, 0, 0, 0, 0),
  (121, .getfield 129, 3, 0, 10, 1, 1329),
  (124, .ireturn, 1, 0, 0, 0, 0)],
  [], [])
set_option maxRecDepth 100000 in
theorem vd_X10_feed : md_X10_feed.cd.all (cb_vE md_X10_feed) = true := by decide +kernel
theorem wd_X10_feed : cb_wd yX10_feed md_X10_feed := ⟨cb_tw (i := 1499) (by decide +kernel), cb_tw (i := 11) (by decide +kernel), by decide, by decide⟩
theorem cs_X10_feed : ∀ X, cb_Bs md_X10_feed X → ∀ g ∈ md_X10_feed.ga, cb_CS cb_tb md_X10_feed X g := fun X B => fun _ h => nomatch h
theorem ok_X10_feed : cb_MOK cb_tb yX10_feed md_X10_feed pt_X10_feed := by
  refine cb_okm ⟨plainFor_of_name (by decide), rfl⟩ (by decide) cs_X10_feed (by decide) (fun X n0 f i r M hr ha h => ?_)
  have h0 := cb_a1 (T := 46) rfl ha
  subst h0
  match r, hr, h with
  | [.inl a, .inl b, .inl c, .inl d, .inl e], hr, h =>
    obtain ⟨t, ⟨ht, ht6⟩, h1, h2⟩ := h
    have e20 : cb_gI M 46 0 1 + 20 = nI (t + 20) := by rw [ht, show (20 : Int32) = nI 20 from rfl, nI_add]
    refine cb_run cb_tb_ok vd_X10_feed (cuts := [23]) 90 ?_
    refine And.intro (fun q => ?_) (fun q => ?_)
    · have q : cb_gI M 46 0 1 + 20 ≤ 600 := q
      rw [e20] at q
      have hle : t + 20 ≤ 600 := Nat.not_lt.mp (fun w => absurd q (Int32.not_le.mpr (show nI 600 < nI (t + 20) from nI_lt w (by omega))))
      have h2 := h2 hle
      have loop : ∀ k, k ≤ 20 → ∀ (y : Int32) (v : Option cb_V) (M2 : cb_M), y = nI k → cb_fr fr_F M M2 → cb_gI M2 46 0 0 = 0 → cb_gI M2 46 0 1 = nI (t + k) → (∀ j, ¬ (t ≤ j ∧ j < t + 20) → cb_gI M2 47 0 j = cb_gI M 47 0 j) → (∀ l, l < k → cb_gI M2 47 0 (t + l) = mf_b a b c d e l) → cb_Gd cb_tb md_X10_feed X 23 [some (cb_r 46 0), some (cb_i (a)), some (cb_i (b)), some (cb_i (c)), some (cb_i (d)), some (cb_i (e)), some (cb_i (y)), v] [] (cb_aS n0, f) M2 0 0 := by
        refine cb_up (fun k => ∀ (y : Int32) (v : Option cb_V) (M2 : cb_M), y = nI k → cb_fr fr_F M M2 → cb_gI M2 46 0 0 = 0 → cb_gI M2 46 0 1 = nI (t + k) → (∀ j, ¬ (t ≤ j ∧ j < t + 20) → cb_gI M2 47 0 j = cb_gI M 47 0 j) → (∀ l, l < k → cb_gI M2 47 0 (t + l) = mf_b a b c d e l) → cb_Gd cb_tb md_X10_feed X 23 [some (cb_r 46 0), some (cb_i (a)), some (cb_i (b)), some (cb_i (c)), some (cb_i (d)), some (cb_i (e)), some (cb_i (y)), v] [] (cb_aS n0, f) M2 0 0) ?_ ?_
        · intro y v M2 hy hF h0 ht1 hs hv
          refine cb_run cb_tb_ok vd_X10_feed (cuts := [23]) 90 ?_
          exact cb_lout (N := 20) hy rfl (And.intro trivial (cb_eqK (h2 M2 hF h0 ht1 hs hv) ht1))
        · intro k hk ih y v M2 hy hF h0 ht1 hs hv
          subst hy
          have hxi : vp_in (cb_gI M2 46 0 1) 600 := by rw [ht1]; exact vp_in_nI (by omega) (by decide)
          have hxc : (cb_gI M2 46 0 1).toNatClampNeg = t + k := by rw [ht1]; exact nI_clamp (by omega)
          have put : ∀ x : Int32, x = mf_v a b c d e k → cb_Gd cb_tb md_X10_feed X 76 [some (cb_r 46 0), some (cb_i a), some (cb_i b), some (cb_i c), some (cb_i d), some (cb_i e), some (cb_i (nI k)), v] [cb_i x] (cb_aS n0, f) M2 0 0 := by
            intro x hx
            refine cb_run cb_tb_ok vd_X10_feed (cuts := [23]) 90 ?_
            refine And.intro (show ¬ (4 : Int32) = 0 by decide) (And.intro hxi ?_)
            show cb_Gd cb_tb md_X10_feed X 23 [some (cb_r 46 0), some (cb_i a), some (cb_i b), some (cb_i c), some (cb_i d), some (cb_i e), some (cb_i (nI k + 1)), some (cb_i x)] [] (cb_aS n0, f) (cb_sI (cb_sI M2 47 0 (cb_gI M2 46 0 1).toNatClampNeg ((x >>> ((24 - 8 * cb_rem (nI k) 4) &&& 31)) &&& 255)) 46 0 1 (cb_gI M2 46 0 1 + 1)) 0 0
            rw [hxc, ht1]
            refine ih _ _ _ (nI_1 k) ((hF.set _ rfl).set _ rfl) h0 ?_ (fun j hj => ?_) (fun l hl => ?_)
            · rw [cb_gs_eq, nI_1]
              rfl
            · rw [cb_gs_ne (by omega), cb_gs_ne (by omega)]
              exact hs j hj
            · rw [cb_gs_ne (by omega)]
              by_cases q : l = k
              · subst q
                rw [cb_gs_eq, hx]
                rfl
              · rw [cb_gs_ne (by omega)]
                exact hv l (by omega)
          have le : ∀ m, m < 100 → (nI m ≤ nI k ↔ m ≤ k) := fun m hm => nI_leI (by omega) (by omega)
          refine cb_run cb_tb_ok vd_X10_feed (cuts := [23, 76]) 90 ?_
          refine cb_lin (N := 20) (n := 20) rfl rfl hk (by decide) (And.intro (fun q => And.intro (fun q1 => And.intro (fun q2 => And.intro (fun q3 => put _ ?_) (fun q3 => put _ ?_)) (fun q2 => put _ ?_)) (fun q1 => put _ ?_)) (fun q => put _ ?_))
          · have := (le 16 (by decide)).mp q3
            unfold mf_v
            rw [if_neg (by omega), if_neg (by omega), if_neg (by omega), if_neg (by omega)]
          · have a3 : ¬ 16 ≤ k := fun w => q3 ((le 16 (by decide)).mpr w)
            have := (le 12 (by decide)).mp q2
            unfold mf_v
            rw [if_neg (by omega), if_neg (by omega), if_neg (by omega), if_pos (by omega)]
          · have a3 : ¬ 12 ≤ k := fun w => q2 ((le 12 (by decide)).mpr w)
            have := (le 8 (by decide)).mp q1
            unfold mf_v
            rw [if_neg (by omega), if_neg (by omega), if_pos (by omega)]
          · have a3 : ¬ 8 ≤ k := fun w => q1 ((le 8 (by decide)).mpr w)
            have := (le 4 (by decide)).mp q
            unfold mf_v
            rw [if_neg (by omega), if_pos (by omega)]
          · have a3 : ¬ 4 ≤ k := fun w => q ((le 4 (by decide)).mpr w)
            unfold mf_v
            rw [if_pos (by omega)]
      exact loop 0 (Nat.zero_le _) _ _ _ rfl ((cb_fr.refl M).set _ rfl) rfl ht (fun _ _ => rfl) (fun l hl => absurd hl (by omega))
    · have q : ¬ cb_gI M 46 0 1 + 20 ≤ 600 := q
      rw [e20] at q
      have hlt : 600 < t + 20 := Nat.not_le.mp (fun w => q (show nI (t + 20) ≤ nI 600 from nI_le w (by decide)))
      exact And.intro trivial (h1 hlt _ (mx1 M) rfl)
/-- the bytes are the same -/
theorem mf_sh : ∀ k, k < 20 → (24 : Int32) - 8 * cb_rem (nI k) 4 = nI (24 - 8 * (k % 4)) := by decide +kernel
theorem wf_bit (x : Int32) {k i : Nat} (hk : k < 4) (hi : i < 8) : cb_bit (wf_b x k) i = cb_bit x (24 - 8 * k + i) := by
  unfold wf_b
  have e : vp_nar .byte (cb_ush x (nI (24 - 8 * k))).toInt8.toInt32 = (cb_ush x (nI (24 - 8 * k))).toInt8.toInt32.toInt8.toInt32 := rfl
  rw [e, ← mi_bit_ush x (k := 24 - 8 * k) (by omega)]
  unfold cb_bit
  have t8 : ∀ y : Int32, y.toInt8.toInt32.toBitVec.getLsbD i = y.toBitVec.getLsbD i := fun y => by
    rw [Int8.toBitVec_toInt32, BitVec.getLsbD_signExtend, Int32.toBitVec_toInt8, BitVec.getLsbD_signExtend, decide_eq_true (show i < 32 by omega), if_pos hi, decide_eq_true hi, if_pos (show i < 32 by omega)]
    rfl
  rw [t8, t8]
theorem mf_wf (a b c d e : Int32) {k : Nat} (hk : k < 20) : mf_b a b c d e k = wf_b (mf_v a b c d e k) (k % 4) &&& 255 := by
  unfold mf_b
  rw [mf_sh k hk]
  refine cb_bit_ext (fun i hi => ?_)
  rw [cb_bit_and, cb_bit_and]
  have z : ∀ i, i < 32 → ¬ i < 8 → cb_bit 255 i = false := by decide
  by_cases q : i < 8
  · rw [mi_bit_shr _ (by omega) (by omega), wf_bit _ (by omega) q]
  · rw [z i hi q, Bool.and_false, Bool.and_false]
