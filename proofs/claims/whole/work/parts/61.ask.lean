/-! ===== the reference: groups, bound ===== -/
def sp_X10_groups : cb_Sp := fun _ r M K => match r with
  | [] => ∃ n h nb, mi_I M n h nb ∧ mR (vq_groups (mv M n h nb)) M K
  | _ => False
def wl_Rg (p : Nat → Nat → Bool) (i j x y : Nat) : Prop := y < x ∧ p x y = true ∧ (x < i ∨ (x = i ∧ y < j))
def wl_Rb (n : Nat) (p : Nat → Nat → Bool) (i j x y : Nat) : Prop := y < n ∧ p x y = true ∧ (x < i ∨ (x = i ∧ y < j))
theorem wl_Rg_yes {p : Nat → Nat → Bool} {i j : Nat} (hj : j < i) (h : p i j = true) (x y : Nat) : wl_Rg p i (j + 1) x y ↔ wl_Rg p i j x y ∨ (x = i ∧ y = j) := by
  unfold wl_Rg
  constructor
  · rintro ⟨h1, h2, h3⟩
    by_cases e : x = i ∧ y = j
    · exact Or.inr e
    · exact Or.inl ⟨h1, h2, by omega⟩
  · rintro (⟨h1, h2, h3⟩ | ⟨rfl, rfl⟩)
    · exact ⟨h1, h2, by omega⟩
    · exact ⟨hj, h, by omega⟩
theorem wl_Rg_no {p : Nat → Nat → Bool} {i j : Nat} (h : p i j = false) : wl_Rg p i (j + 1) = wl_Rg p i j := by
  funext x y
  refine propext ⟨?_, ?_⟩
  · rintro ⟨h1, h2, h3⟩
    by_cases e : x = i ∧ y = j
    · rw [e.1, e.2, h] at h2
      cases h2
    · exact ⟨h1, h2, by omega⟩
  · rintro ⟨h1, h2, h3⟩
    exact ⟨h1, h2, by omega⟩
theorem wl_Rg_out {p : Nat → Nat → Bool} {i : Nat} : wl_Rg p i i = wl_Rg p (i + 1) 0 := by
  funext x y
  refine propext ⟨?_, ?_⟩
  · rintro ⟨h1, h2, h3⟩
    exact ⟨h1, h2, by omega⟩
  · rintro ⟨h1, h2, h3⟩
    exact ⟨h1, h2, by omega⟩
theorem wl_Rb_yes {n : Nat} {p : Nat → Nat → Bool} {i j : Nat} (hj : j < n) (h : p i j = true) (x y : Nat) : wl_Rb n p i (j + 1) x y ↔ wl_Rb n p i j x y ∨ (x = i ∧ y = j) := by
  unfold wl_Rb
  constructor
  · rintro ⟨h1, h2, h3⟩
    by_cases e : x = i ∧ y = j
    · exact Or.inr e
    · exact Or.inl ⟨h1, h2, by omega⟩
  · rintro (⟨h1, h2, h3⟩ | ⟨rfl, rfl⟩)
    · exact ⟨h1, h2, by omega⟩
    · exact ⟨hj, h, by omega⟩
theorem wl_Rb_no {n : Nat} {p : Nat → Nat → Bool} {i j : Nat} (h : p i j = false) : wl_Rb n p i (j + 1) = wl_Rb n p i j := by
  funext x y
  refine propext ⟨?_, ?_⟩
  · rintro ⟨h1, h2, h3⟩
    by_cases e : x = i ∧ y = j
    · rw [e.1, e.2, h] at h2
      cases h2
    · exact ⟨h1, h2, by omega⟩
  · rintro ⟨h1, h2, h3⟩
    exact ⟨h1, h2, by omega⟩
theorem wl_Rb_out {n : Nat} {p : Nat → Nat → Bool} {i : Nat} : wl_Rb n p i n = wl_Rb n p (i + 1) 0 := by
  funext x y
  refine propext ⟨?_, ?_⟩
  · rintro ⟨h1, h2, h3⟩
    exact ⟨h1, h2, by omega⟩
  · rintro ⟨h1, h2, h3⟩
    exact ⟨h1, h2, by omega⟩
def pt_X10_groups : cb_PT := cb_m 46 0 sp_X10_groups
theorem rc_X10_groups : cb_rc cb_tb RX10 pt_X10_groups := cb_m_rc rfl rfl
def md_X10_groups : cb_D := (RX10, cX10_groups, 3, (some .int), (0, 0, 3, 65), [
  (0, .aload_n 0, 1, 0, 0, 0, 0),
  (1, .iconst 0, 1, 0, 0, 0, 0),
  (2, .putfield 126, 3, 0, 10, 0, 1328),
  (5, .iconst 0, 1, 0, 0, 0, 0),
  (6, .istore_n 1, 1, 0, 1, 0, 0),
  (7, .iload_n 1, 1, 0, 1, 0, 0),
  (8, .aload_n 0, 1, 0, 0, 0, 0),
  (9, .getfield 20, 3, 0, 10, 10, 1338),
  (12, .iconst 1, 1, 1, 0, 0, 0),
  (13, .iaload, 1, 0, 0, 0, 0),
  (14, .if_icmp .ge 16, 3, 0, 30, 0, 0),
  (17, .aload_n 0, 1, 0, 0, 0, 0),
  (18, .getfield 110, 3, 0, 10, 46, 1374),
  (21, .iload_n 1, 1, 0, 1, 0, 0),
  (22, .iload_n 1, 1, 0, 1, 0, 0),
  (23, .iastore, 1, 0, 0, 0, 0),
  (24, .iinc 1 1, 3, 1, 1, 0, 0),
  (27, .goto (-20), 3, 0, 7, 0, 0),
  (30, .iconst 0, 1, 0, 0, 0, 0),
  (31, .istore_n 1, 1, 0, 1, 0, 0),
  (32, .iload_n 1, 1, 0, 1, 0, 0),
  (33, .aload_n 0, 1, 0, 0, 0, 0),
  (34, .getfield 20, 3, 0, 10, 10, 1338),
  (37, .iconst 1, 1, 1, 0, 0, 0),
  (38, .iaload, 1, 0, 0, 0, 0),
  (39, .if_icmp .ge 47, 3, 0, 86, 0, 0),
  (42, .iconst 0, 1, 0, 0, 0, 0),
  (43, .istore_n 2, 1, 0, 2, 0, 0),
  (44, .iload_n 2, 1, 0, 2, 0, 0),
  (45, .iload_n 1, 1, 0, 1, 0, 0),
  (46, .if_icmp .ge 34, 3, 0, 80, 0, 0),
  (49, .aload_n 0, 1, 0, 0, 0, 0),
  (50, .getfield 70, 3, 0, 10, 26, 1354),
  (53, .iload_n 1, 1, 0, 1, 0, 0),
  (54, .iaload, 1, 0, 0, 0, 0),
  (55, .aload_n 0, 1, 0, 0, 0, 0),
  (56, .getfield 70, 3, 0, 10, 26, 1354),
  (59, .iload_n 2, 1, 0, 2, 0, 0),
  (60, .iaload, 1, 0, 0, 0, 0),
  (61, .invokestatic 280, 3, 0, 0, 0, 0),
  (64, .iconst 2, 1, 2, 0, 0, 0),
  (65, .if_icmp .ne 9, 3, 0, 74, 0, 0),
  (68, .aload_n 0, 1, 0, 0, 0, 0),
  (69, .iload_n 1, 1, 0, 1, 0, 0),
  (70, .iload_n 2, 1, 0, 2, 0, 0),
  (71, .invokevirtual 289, 3, 0, 1, 0, 0),
  (74, .iinc 2 1, 3, 1, 2, 0, 0),
  (77, .goto (-33), 3, 0, 44, 0, 0),
  (80, .iinc 1 1, 3, 1, 1, 0, 0),
  (83, .goto (-51), 3, 0, 32, 0, 0),
  (86, .aload_n 0, 1, 0, 0, 0, 0),
  (87, .invokevirtual 292, 3, 0, 2, 0, 0),
  (90, .ireturn, 1, 0, 0, 0, 0)],
  [(1, 280, 2, 0, 0, pt_X10_stepBy), (0, 289, 3, 0, 0, pt_X10_joins), (0, 292, 1, 0, 0, pt_X10_sets)], [])
set_option maxRecDepth 100000 in
theorem vd_X10_groups : md_X10_groups.cd.all (cb_vE md_X10_groups) = true := by decide +kernel
theorem wd_X10_groups : cb_wd yX10_groups md_X10_groups := ⟨cb_tw (i := 1685) (by decide +kernel), cb_tw (i := 11) (by decide +kernel), by decide, by decide⟩
theorem cs_X10_groups : ∀ X, cb_Bs md_X10_groups X → ∀ g ∈ md_X10_groups.ga, cb_CS cb_tb md_X10_groups X g := fun X B => List.forall_mem_cons.mpr ⟨cb_csS B ok_X10_stepBy wd_X10_stepBy (cb_tw (i := 1667) (by decide +kernel)) (cb_tw (i := 1668) (by decide +kernel)) ⟨by decide, by decide⟩ (by decide +kernel), List.forall_mem_cons.mpr ⟨cb_csV B ok_X10_joins wd_X10_joins (cb_tw (i := 1686) (by decide +kernel)) (cb_tw (i := 1688) (by decide +kernel)) (cb_tp (i := 73) (by decide +kernel)) rc_X10_joins ⟨by decide, by decide⟩ (by decide +kernel), List.forall_mem_cons.mpr ⟨cb_csV B ok_X10_sets wd_X10_sets (cb_tw (i := 1690) (by decide +kernel)) (cb_tw (i := 1692) (by decide +kernel)) (cb_tp (i := 74) (by decide +kernel)) rc_X10_sets ⟨by decide, by decide⟩ (by decide +kernel), fun _ h => nomatch h⟩⟩⟩
theorem ok_X10_groups : cb_MOK cb_tb yX10_groups md_X10_groups pt_X10_groups := by
  refine cb_okm ⟨plainFor_of_name (by decide), rfl⟩ (by decide) cs_X10_groups (by decide) (fun X n0 f i r M hr ha h => ?_)
  have h0 := cb_a1 (T := 46) rfl ha
  subst h0
  match r, hr, h with
  | [], hr, h =>
    obtain ⟨n, hh, nb, hI, h⟩ := h
    obtain ⟨hG, -, hp, -⟩ := id hI
    obtain ⟨hn1, hn8, -⟩ := id hG
    obtain ⟨V, hV⟩ : ∃ V, V = mv M n hh nb := ⟨_, rfl⟩
    have hVn : V.n = n := by rw [hV]; rfl
    rw [← hV] at h
    have hVp : ∀ i, i < n → V.s.2.1 i = cb_gI M 69 0 i := fun i hi => by rw [hV]; exact wn_tr_lt hi
    obtain ⟨p, hpd⟩ : ∃ p : Nat → Nat → Bool, p = wn_in V.s.2.1 := ⟨_, rfl⟩
    have hfin : ∀ L : wm_F, wl_L n L (wl_Rg p n 0) → ∀ x y, x < n → y < n → (L x = L y ↔ wl_cn n (wl_E (wn_in V.s.2.1)) x y) := fun L hL x y hx hy => by
      refine wl_L_iff hL (fun u v hu hv q => ?_) (fun u v hu hv q => ?_) hx hy
      · obtain ⟨q1, q2, -⟩ := q
        rw [hpd, wn_in_sym (by rw [hVp u hu]; exact (hp u hu).2) (by rw [hVp v hv]; exact (hp v hv).2)] at q2
        refine Or.inl ?_
        unfold wl_E
        rw [decide_eq_true q1, q2]
        simp
      · unfold wl_E at q
        rw [Bool.or_eq_true, Bool.and_eq_true, Bool.and_eq_true, decide_eq_true_eq, decide_eq_true_eq] at q
        rcases q with ⟨q1, q2⟩ | ⟨q1, q2⟩
        · refine Or.inr ⟨q1, ?_, by omega⟩
          rw [hpd, wn_in_sym (by rw [hVp v hv]; exact (hp v hv).2) (by rw [hVp u hu]; exact (hp u hu).2)]
          exact q2
        · refine Or.inl ⟨q1, ?_, by omega⟩
          rw [hpd, wn_in_sym (by rw [hVp u hu]; exact (hp u hu).2) (by rw [hVp v hv]; exact (hp v hv).2)]
          exact q2
    have inner : ∀ i, i < n → (∀ (v : Option cb_V) (M2 : cb_M), cb_fr fr_X M M2 → cb_gI M2 46 0 0 = 0 → wl_L n (cb_gI M2 84 0) (wl_Rg p (i + 1) 0) → cb_Gd cb_tb md_X10_groups X 80 [some (cb_r 46 0), some (cb_i (nI i)), v] [] (cb_aS n0, f) M2 0 0) →
        ∀ j, j ≤ i → ∀ (y : Int32) (M2 : cb_M), y = nI j → cb_fr fr_X M M2 → cb_gI M2 46 0 0 = 0 → wl_L n (cb_gI M2 84 0) (wl_Rg p i j) → cb_Gd cb_tb md_X10_groups X 44 [some (cb_r 46 0), some (cb_i (nI i)), some (cb_i (y))] [] (cb_aS n0, f) M2 0 0 := by
      intro i hi hout
      have hic : (nI i).toNatClampNeg = i := nI_clamp (by omega)
      have hi8 : vp_in (nI i) 8 := cb_in8 hi hn8 (by decide)
      refine cb_up (fun j => ∀ (y : Int32) (M2 : cb_M), y = nI j → cb_fr fr_X M M2 → cb_gI M2 46 0 0 = 0 → wl_L n (cb_gI M2 84 0) (wl_Rg p i j) → cb_Gd cb_tb md_X10_groups X 44 [some (cb_r 46 0), some (cb_i (nI i)), some (cb_i (y))] [] (cb_aS n0, f) M2 0 0) ?_ ?_
      · intro y M2 hy hF h0 hL
        refine cb_run cb_tb_ok vd_X10_groups (cuts := [44, 80]) 90 ?_
        exact cb_lout hy rfl (hout _ M2 hF h0 (by rw [← wl_Rg_out]; exact hL))
      · intro j hj ih y M2 hy hF h0 hL
        subst hy
        have hjn : j < n := by omega
        have hjc : (nI j).toNatClampNeg = j := nI_clamp (by omega)
        have hj8 : vp_in (nI j) 8 := cb_in8 hjn hn8 (by decide)
        have yes : p i j = true → cb_Gd cb_tb md_X10_groups X 68 [some (cb_r 46 0), some (cb_i (nI i)), some (cb_i (nI j))] [] (cb_aS n0, f) M2 0 0 := fun q => by
          refine cb_run cb_tb_ok vd_X10_groups (cuts := [44]) 90 ?_
          refine And.intro (cb_on rfl) ⟨n, i, j, ⟨(hF.1 49 0 1 rfl).trans hn1, hn8, rfl, hi, rfl, hjn⟩, fun M3 hF3 hv3 => ?_⟩
          exact ih _ M3 (nI_1 j) (hF.trans (hF3.mono fr_84_X)) ((hF3.1 46 0 0 rfl).trans h0) (wl_L_join hi hjn hL (wl_Rg_yes hj q) hv3)
        have no : p i j = false → cb_Gd cb_tb md_X10_groups X 74 [some (cb_r 46 0), some (cb_i (nI i)), some (cb_i (nI j))] [] (cb_aS n0, f) M2 0 0 := fun q => by
          refine cb_run cb_tb_ok vd_X10_groups (cuts := [44]) 90 ?_
          refine ih _ M2 (nI_1 j) hF h0 ?_
          rw [wl_Rg_no q]
          exact hL
        refine cb_run cb_tb_ok vd_X10_groups (cuts := [44, 68, 74]) 90 ?_
        refine cb_lin rfl rfl hj (by omega) (And.intro hi8 (And.intro hj8 (And.intro ?_ ?_)))
        · rw [hic, hjc, hF.1 69 0 i rfl, hF.1 69 0 j rfl]
          exact ⟨(hp i hi).2, (hp j hjn).2⟩
        · rw [hic, hjc, hF.1 69 0 i rfl, hF.1 69 0 j rfl]
          have e : p i j = decide (wm_beat (wm_ap (cb_gI M 69 0 i) (cb_gI M 69 0 j)) = 2) := by
            rw [hpd]
            unfold wn_in
            rw [hVp i hi, hVp j hjn]
          exact cb_ifne (fun q => no (by rw [e, decide_eq_false q])) (fun q => yes (by rw [e, decide_eq_true q]))
    have outer : ∀ i, i ≤ n → ∀ (y : Int32) (v : Option cb_V) (M2 : cb_M), y = nI i → cb_fr fr_X M M2 → cb_gI M2 46 0 0 = 0 → wl_L n (cb_gI M2 84 0) (wl_Rg p i 0) → cb_Gd cb_tb md_X10_groups X 32 [some (cb_r 46 0), some (cb_i (y)), v] [] (cb_aS n0, f) M2 0 0 := by
      refine cb_up (fun i => ∀ (y : Int32) (v : Option cb_V) (M2 : cb_M), y = nI i → cb_fr fr_X M M2 → cb_gI M2 46 0 0 = 0 → wl_L n (cb_gI M2 84 0) (wl_Rg p i 0) → cb_Gd cb_tb md_X10_groups X 32 [some (cb_r 46 0), some (cb_i (y)), v] [] (cb_aS n0, f) M2 0 0) ?_ ?_
      · intro y v M2 hy hF h0 hL
        refine cb_run cb_tb_ok vd_X10_groups (cuts := [32, 44]) 90 ?_
        refine And.intro (mi_v 1 (by decide)) (cb_lout hy ((hF.1 49 0 1 rfl).trans hn1) (And.intro (cb_on rfl) ⟨n, _, ⟨(hF.1 49 0 1 rfl).trans hn1, hn8, hfin _ hL⟩, And.intro trivial (cb_eqK (h M2 hF h0) ?_)⟩))
        unfold vq_groups
        rw [hVn]
      · intro i hi ih y v M2 hy hF h0 hL
        subst hy
        refine cb_run cb_tb_ok vd_X10_groups (cuts := [32, 44]) 90 ?_
        refine And.intro (mi_v 1 (by decide)) (cb_lin rfl ((hF.1 49 0 1 rfl).trans hn1) hi (by omega) ?_)
        refine inner i hi (fun v M3 hF3 h03 hL3 => ?_) 0 (Nat.zero_le _) _ M2 rfl hF h0 hL
        refine cb_run cb_tb_ok vd_X10_groups (cuts := [32]) 90 ?_
        exact ih _ _ M3 (nI_1 i) hF3 h03 hL3
    have first : ∀ j, j ≤ n → ∀ (y : Int32) (M2 : cb_M), y = nI j → cb_fr fr_X M M2 → cb_gI M2 46 0 0 = 0 → (∀ x, x < j → cb_gI M2 84 0 x = nI x) → cb_Gd cb_tb md_X10_groups X 7 [some (cb_r 46 0), some (cb_i (y)), none] [] (cb_aS n0, f) M2 0 0 := by
      refine cb_up (fun j => ∀ (y : Int32) (M2 : cb_M), y = nI j → cb_fr fr_X M M2 → cb_gI M2 46 0 0 = 0 → (∀ x, x < j → cb_gI M2 84 0 x = nI x) → cb_Gd cb_tb md_X10_groups X 7 [some (cb_r 46 0), some (cb_i (y)), none] [] (cb_aS n0, f) M2 0 0) ?_ ?_
      · intro y M2 hy hF h0 hL
        refine cb_run cb_tb_ok vd_X10_groups (cuts := [7, 32]) 90 ?_
        refine And.intro (mi_v 1 (by decide)) (cb_lout hy ((hF.1 49 0 1 rfl).trans hn1) ?_)
        exact outer 0 (Nat.zero_le _) _ _ M2 rfl hF h0 (wl_L_0 (by omega) hL (fun x y w => by have := w.2.2; omega))
      · intro j hj ih y M2 hy hF h0 hL
        have hy8 : vp_in y 8 := by rw [hy]; exact cb_in8 hj hn8 (by decide)
        have hyc : y.toNatClampNeg = j := by rw [hy]; exact nI_clamp (by omega)
        refine cb_run cb_tb_ok vd_X10_groups (cuts := [7, 32]) 90 ?_
        refine And.intro (mi_v 1 (by decide)) (cb_lin hy ((hF.1 49 0 1 rfl).trans hn1) hj (by omega) (And.intro hy8 ?_))
        refine ih _ _ (by rw [hy, nI_1]) (hF.set _ rfl) h0 (fun x hx => ?_)
        show cb_gI (cb_sI M2 84 0 y.toNatClampNeg y) 84 0 x = _
        rw [hyc, hy]
        by_cases e : x = j
        · rw [e, cb_gs_eq]
        · rw [cb_gs_ne (fun w => e w.2.2)]
          exact hL x (by omega)
    exact cb_run cb_tb_ok vd_X10_groups (cuts := [7]) 40 (first 0 (Nat.zero_le _) _ _ rfl (mx1 M) rfl (fun x hx => absurd hx (by omega)))
def sp_X10_bound : cb_Sp := fun _ r M K => match r with
  | [] => ∃ n h nb, mi_I M n h nb ∧ mR (vq_bound (mv M n h nb)) M K
  | _ => False
def pt_X10_bound : cb_PT := cb_m 46 0 sp_X10_bound
theorem rc_X10_bound : cb_rc cb_tb RX10 pt_X10_bound := cb_m_rc rfl rfl
def md_X10_bound : cb_D := (RX10, cX10_bound, 3, (some .int), (0, 0, 2, 44), [
  (0, .aload_n 0, 1, 0, 0, 0, 0),
  (1, .iconst 0, 1, 0, 0, 0, 0),
  (2, .putfield 126, 3, 0, 10, 0, 1328),
  (5, .iconst 0, 1, 0, 0, 0, 0),
  (6, .istore_n 1, 1, 0, 1, 0, 0),
  (7, .iload_n 1, 1, 0, 1, 0, 0),
  (8, .aload_n 0, 1, 0, 0, 0, 0),
  (9, .getfield 20, 3, 0, 10, 10, 1338),
  (12, .iconst 1, 1, 1, 0, 0, 0),
  (13, .iaload, 1, 0, 0, 0, 0),
  (14, .if_icmp .ge 16, 3, 0, 30, 0, 0),
  (17, .aload_n 0, 1, 0, 0, 0, 0),
  (18, .getfield 110, 3, 0, 10, 46, 1374),
  (21, .iload_n 1, 1, 0, 1, 0, 0),
  (22, .iload_n 1, 1, 0, 1, 0, 0),
  (23, .iastore, 1, 0, 0, 0, 0),
  (24, .iinc 1 1, 3, 1, 1, 0, 0),
  (27, .goto (-20), 3, 0, 7, 0, 0),
  (30, .iconst 0, 1, 0, 0, 0, 0),
  (31, .istore_n 1, 1, 0, 1, 0, 0),
  (32, .iload_n 1, 1, 0, 1, 0, 0),
  (33, .aload_n 0, 1, 0, 0, 0, 0),
  (34, .getfield 20, 3, 0, 10, 10, 1338),
  (37, .iconst 1, 1, 1, 0, 0, 0),
  (38, .iaload, 1, 0, 0, 0, 0),
  (39, .if_icmp .ge 47, 3, 0, 86, 0, 0),
  (42, .iconst 0, 1, 0, 0, 0, 0),
  (43, .istore_n 2, 1, 0, 2, 0, 0),
  (44, .iload_n 2, 1, 0, 2, 0, 0),
  (45, .aload_n 0, 1, 0, 0, 0, 0),
  (46, .getfield 20, 3, 0, 10, 10, 1338),
  (49, .iconst 1, 1, 1, 0, 0, 0),
  (50, .iaload, 1, 0, 0, 0, 0),
  (51, .if_icmp .ge 29, 3, 0, 80, 0, 0),
  (54, .iload_n 1, 1, 0, 1, 0, 0),
  (55, .iload_n 2, 1, 0, 2, 0, 0),
  (56, .if_icmp .eq 18, 3, 0, 74, 0, 0),
  (59, .aload_n 0, 1, 0, 0, 0, 0),
  (60, .iload_n 1, 1, 0, 1, 0, 0),
  (61, .iload_n 2, 1, 0, 2, 0, 0),
  (62, .invokevirtual 239, 3, 0, 0, 0, 0),
  (65, .ifCond .le 9, 3, 0, 74, 0, 0),
  (68, .aload_n 0, 1, 0, 0, 0, 0),
  (69, .iload_n 1, 1, 0, 1, 0, 0),
  (70, .iload_n 2, 1, 0, 2, 0, 0),
  (71, .invokevirtual 289, 3, 0, 1, 0, 0),
  (74, .iinc 2 1, 3, 1, 2, 0, 0),
  (77, .goto (-33), 3, 0, 44, 0, 0),
  (80, .iinc 1 1, 3, 1, 1, 0, 0),
  (83, .goto (-51), 3, 0, 32, 0, 0),
  (86, .aload_n 0, 1, 0, 0, 0, 0),
  (87, .invokevirtual 292, 3, 0, 2, 0, 0),
  (90, .ireturn, 1, 0, 0, 0, 0)],
  [(0, 239, 3, 0, 0, pt_X10_hearingOf), (0, 289, 3, 0, 0, pt_X10_joins), (0, 292, 1, 0, 0, pt_X10_sets)], [])
set_option maxRecDepth 100000 in
theorem vd_X10_bound : md_X10_bound.cd.all (cb_vE md_X10_bound) = true := by decide +kernel
theorem wd_X10_bound : cb_wd yX10_bound md_X10_bound := ⟨cb_tw (i := 1697) (by decide +kernel), cb_tw (i := 11) (by decide +kernel), by decide, by decide⟩
theorem cs_X10_bound : ∀ X, cb_Bs md_X10_bound X → ∀ g ∈ md_X10_bound.ga, cb_CS cb_tb md_X10_bound X g := fun X B => List.forall_mem_cons.mpr ⟨cb_csV B ok_X10_hearingOf wd_X10_hearingOf (cb_tw (i := 1609) (by decide +kernel)) (cb_tw (i := 1611) (by decide +kernel)) (cb_tp (i := 64) (by decide +kernel)) rc_X10_hearingOf ⟨by decide, by decide⟩ (by decide +kernel), List.forall_mem_cons.mpr ⟨cb_csV B ok_X10_joins wd_X10_joins (cb_tw (i := 1686) (by decide +kernel)) (cb_tw (i := 1688) (by decide +kernel)) (cb_tp (i := 73) (by decide +kernel)) rc_X10_joins ⟨by decide, by decide⟩ (by decide +kernel), List.forall_mem_cons.mpr ⟨cb_csV B ok_X10_sets wd_X10_sets (cb_tw (i := 1690) (by decide +kernel)) (cb_tw (i := 1692) (by decide +kernel)) (cb_tp (i := 74) (by decide +kernel)) rc_X10_sets ⟨by decide, by decide⟩ (by decide +kernel), fun _ h => nomatch h⟩⟩⟩
theorem ok_X10_bound : cb_MOK cb_tb yX10_bound md_X10_bound pt_X10_bound := by
  refine cb_okm ⟨plainFor_of_name (by decide), rfl⟩ (by decide) cs_X10_bound (by decide) (fun X n0 f i r M hr ha h => ?_)
  have h0 := cb_a1 (T := 46) rfl ha
  subst h0
  match r, hr, h with
  | [], hr, h =>
    obtain ⟨n, hh, nb, hI, h⟩ := h
    obtain ⟨hG, -, hp, -⟩ := id hI
    obtain ⟨hn1, hn8, -⟩ := id hG
    obtain ⟨V, hV⟩ : ∃ V, V = mv M n hh nb := ⟨_, rfl⟩
    have hVn : V.n = n := by rw [hV]; rfl
    rw [← hV] at h
    obtain ⟨p, hpd⟩ : ∃ p : Nat → Nat → Bool, p = fun u v => decide (¬ u = v) && decide (0 < (vc V).he u v) := ⟨_, rfl⟩
    have hfin : ∀ L : wm_F, wl_L n L (wl_Rb n p n 0) → ∀ x y, x < n → y < n → (L x = L y ↔ wl_cn n (wl_E fun a b => decide (0 < (vc V).he a b) || decide (0 < (vc V).he b a)) x y) := fun L hL x y hx hy => by
      refine wl_L_iff hL (fun u v hu hv q => ?_) (fun u v hu hv q => ?_) hx hy
      · obtain ⟨-, q2, -⟩ := q
        rw [hpd] at q2
        have q2 : (decide (¬ u = v) && decide (0 < (vc V).he u v)) = true := q2
        rw [Bool.and_eq_true] at q2
        have q3 := of_decide_eq_true q2.1
        refine Or.inl ?_
        show (decide (u < v) && (decide (0 < (vc V).he u v) || decide (0 < (vc V).he v u)) || decide (v < u) && (decide (0 < (vc V).he v u) || decide (0 < (vc V).he u v))) = true
        by_cases z : u < v
        · rw [decide_eq_true z, q2.2]
          rfl
        · rw [decide_eq_true (show v < u by omega), q2.2]
          simp
      · unfold wl_E at q
        rw [Bool.or_eq_true, Bool.and_eq_true, Bool.and_eq_true, decide_eq_true_eq, decide_eq_true_eq, Bool.or_eq_true, Bool.or_eq_true] at q
        have mk : ∀ a b, a < n → b < n → ¬ a = b → decide (0 < (vc V).he a b) = true → wl_Rb n p n 0 a b := fun a b h1 h2 h3 h4 => ⟨h2, by rw [hpd]; show (decide (¬ a = b) && decide (0 < (vc V).he a b)) = true; rw [decide_eq_true h3, h4]; rfl, by omega⟩
        rcases q with ⟨q1, q2 | q2⟩ | ⟨q1, q2 | q2⟩
        · exact Or.inl (mk u v hu hv (by omega) q2)
        · exact Or.inr (mk v u hv hu (by omega) q2)
        · exact Or.inr (mk v u hv hu (by omega) q2)
        · exact Or.inl (mk u v hu hv (by omega) q2)
    have inner : ∀ i, i < n → (∀ (v : Option cb_V) (M2 : cb_M), cb_fr fr_X M M2 → cb_gI M2 46 0 0 = 0 → wl_L n (cb_gI M2 84 0) (wl_Rb n p (i + 1) 0) → cb_Gd cb_tb md_X10_bound X 80 [some (cb_r 46 0), some (cb_i (nI i)), v] [] (cb_aS n0, f) M2 0 0) →
        ∀ j, j ≤ n → ∀ (y : Int32) (M2 : cb_M), y = nI j → cb_fr fr_X M M2 → cb_gI M2 46 0 0 = 0 → wl_L n (cb_gI M2 84 0) (wl_Rb n p i j) → cb_Gd cb_tb md_X10_bound X 44 [some (cb_r 46 0), some (cb_i (nI i)), some (cb_i (y))] [] (cb_aS n0, f) M2 0 0 := by
      intro i hi hout
      have hic : (nI i).toNatClampNeg = i := nI_clamp (by omega)
      have hi8 : vp_in (nI i) 8 := cb_in8 hi hn8 (by decide)
      refine cb_up (fun j => ∀ (y : Int32) (M2 : cb_M), y = nI j → cb_fr fr_X M M2 → cb_gI M2 46 0 0 = 0 → wl_L n (cb_gI M2 84 0) (wl_Rb n p i j) → cb_Gd cb_tb md_X10_bound X 44 [some (cb_r 46 0), some (cb_i (nI i)), some (cb_i (y))] [] (cb_aS n0, f) M2 0 0) ?_ ?_
      · intro y M2 hy hF h0 hL
        refine cb_run cb_tb_ok vd_X10_bound (cuts := [44, 80]) 90 ?_
        exact And.intro (mi_v 1 (by decide)) (cb_lout hy ((hF.1 49 0 1 rfl).trans hn1) (hout _ M2 hF h0 (by rw [← wl_Rb_out]; exact hL)))
      · intro j hj ih y M2 hy hF h0 hL
        subst hy
        have hjn : j < n := by omega
        have hjc : (nI j).toNatClampNeg = j := nI_clamp (by omega)
        have hj8 : vp_in (nI j) 8 := cb_in8 hjn hn8 (by decide)
        have yes : p i j = true → cb_Gd cb_tb md_X10_bound X 68 [some (cb_r 46 0), some (cb_i (nI i)), some (cb_i (nI j))] [] (cb_aS n0, f) M2 0 0 := fun q => by
          refine cb_run cb_tb_ok vd_X10_bound (cuts := [44]) 90 ?_
          refine And.intro (cb_on rfl) ⟨n, i, j, ⟨(hF.1 49 0 1 rfl).trans hn1, hn8, rfl, hi, rfl, hjn⟩, fun M3 hF3 hv3 => ?_⟩
          exact ih _ M3 (nI_1 j) (hF.trans (hF3.mono fr_84_X)) ((hF3.1 46 0 0 rfl).trans h0) (wl_L_join hi hjn hL (wl_Rb_yes hjn q) hv3)
        have no : p i j = false → cb_Gd cb_tb md_X10_bound X 74 [some (cb_r 46 0), some (cb_i (nI i)), some (cb_i (nI j))] [] (cb_aS n0, f) M2 0 0 := fun q => by
          refine cb_run cb_tb_ok vd_X10_bound (cuts := [44]) 90 ?_
          refine ih _ M2 (nI_1 j) hF h0 ?_
          rw [wl_Rb_no q]
          exact hL
        refine cb_run cb_tb_ok vd_X10_bound (cuts := [44, 68, 74]) 90 ?_
        have e : p i j = (decide (¬ i = j) && decide (0 < wm_hear (mk_h M2) i j)) := by
          rw [hpd]
          show (decide (¬ i = j) && decide (0 < (vc V).he i j)) = _
          rw [hV, ← mv_c hI, mk_h_X hF, show (mk_c M n).he i j = wm_hear (mk_h M) i j from if_pos ⟨hi, hjn⟩]
        refine And.intro (mi_v 1 (by decide)) (cb_lin rfl ((hF.1 49 0 1 rfl).trans hn1) hj (by omega) (And.intro (fun q => no ?_) (fun q => And.intro (cb_on rfl) ⟨n, i, j, ⟨mk_G_X hF hG, rfl, hi, rfl, hjn⟩, And.intro (fun q1 => no ?_) (fun q1 => yes ?_)⟩)))
        · have q : i = j := (nI_eq (by omega) (by omega)).mp q
          rw [e, decide_eq_false (fun w => w q)]
          rfl
        · have q1 : wm_hear (mk_h M2) i j ≤ 0 := q1
          rw [e, decide_eq_false (fun w => absurd q1 (Int32.not_le.mpr w)), Bool.and_false]
        · have q1 : ¬ wm_hear (mk_h M2) i j ≤ 0 := q1
          have q : ¬ nI i = nI j := q
          have q : ¬ i = j := fun w => q (by rw [w])
          rw [e, decide_eq_true q, decide_eq_true (Int32.not_le.mp q1)]
          rfl
    have outer : ∀ i, i ≤ n → ∀ (y : Int32) (v : Option cb_V) (M2 : cb_M), y = nI i → cb_fr fr_X M M2 → cb_gI M2 46 0 0 = 0 → wl_L n (cb_gI M2 84 0) (wl_Rb n p i 0) → cb_Gd cb_tb md_X10_bound X 32 [some (cb_r 46 0), some (cb_i (y)), v] [] (cb_aS n0, f) M2 0 0 := by
      refine cb_up (fun i => ∀ (y : Int32) (v : Option cb_V) (M2 : cb_M), y = nI i → cb_fr fr_X M M2 → cb_gI M2 46 0 0 = 0 → wl_L n (cb_gI M2 84 0) (wl_Rb n p i 0) → cb_Gd cb_tb md_X10_bound X 32 [some (cb_r 46 0), some (cb_i (y)), v] [] (cb_aS n0, f) M2 0 0) ?_ ?_
      · intro y v M2 hy hF h0 hL
        refine cb_run cb_tb_ok vd_X10_bound (cuts := [32, 44]) 90 ?_
        refine And.intro (mi_v 1 (by decide)) (cb_lout hy ((hF.1 49 0 1 rfl).trans hn1) (And.intro (cb_on rfl) ⟨n, _, ⟨(hF.1 49 0 1 rfl).trans hn1, hn8, hfin _ hL⟩, And.intro trivial (cb_eqK (h M2 hF h0) ?_)⟩))
        unfold vq_bound
        rw [hVn]
      · intro i hi ih y v M2 hy hF h0 hL
        subst hy
        refine cb_run cb_tb_ok vd_X10_bound (cuts := [32, 44]) 90 ?_
        refine And.intro (mi_v 1 (by decide)) (cb_lin rfl ((hF.1 49 0 1 rfl).trans hn1) hi (by omega) ?_)
        refine inner i hi (fun v M3 hF3 h03 hL3 => ?_) 0 (Nat.zero_le _) _ M2 rfl hF h0 hL
        refine cb_run cb_tb_ok vd_X10_bound (cuts := [32]) 90 ?_
        exact ih _ _ M3 (nI_1 i) hF3 h03 hL3
    have first : ∀ j, j ≤ n → ∀ (y : Int32) (M2 : cb_M), y = nI j → cb_fr fr_X M M2 → cb_gI M2 46 0 0 = 0 → (∀ x, x < j → cb_gI M2 84 0 x = nI x) → cb_Gd cb_tb md_X10_bound X 7 [some (cb_r 46 0), some (cb_i (y)), none] [] (cb_aS n0, f) M2 0 0 := by
      refine cb_up (fun j => ∀ (y : Int32) (M2 : cb_M), y = nI j → cb_fr fr_X M M2 → cb_gI M2 46 0 0 = 0 → (∀ x, x < j → cb_gI M2 84 0 x = nI x) → cb_Gd cb_tb md_X10_bound X 7 [some (cb_r 46 0), some (cb_i (y)), none] [] (cb_aS n0, f) M2 0 0) ?_ ?_
      · intro y M2 hy hF h0 hL
        refine cb_run cb_tb_ok vd_X10_bound (cuts := [7, 32]) 90 ?_
        refine And.intro (mi_v 1 (by decide)) (cb_lout hy ((hF.1 49 0 1 rfl).trans hn1) ?_)
        exact outer 0 (Nat.zero_le _) _ _ M2 rfl hF h0 (wl_L_0 (by omega) hL (fun x y w => by have := w.2.2; omega))
      · intro j hj ih y M2 hy hF h0 hL
        have hy8 : vp_in y 8 := by rw [hy]; exact cb_in8 hj hn8 (by decide)
        have hyc : y.toNatClampNeg = j := by rw [hy]; exact nI_clamp (by omega)
        refine cb_run cb_tb_ok vd_X10_bound (cuts := [7, 32]) 90 ?_
        refine And.intro (mi_v 1 (by decide)) (cb_lin hy ((hF.1 49 0 1 rfl).trans hn1) hj (by omega) (And.intro hy8 ?_))
        refine ih _ _ (by rw [hy, nI_1]) (hF.set _ rfl) h0 (fun x hx => ?_)
        show cb_gI (cb_sI M2 84 0 y.toNatClampNeg y) 84 0 x = _
        rw [hyc, hy]
        by_cases e : x = j
        · rw [e, cb_gs_eq]
        · rw [cb_gs_ne (fun w => e w.2.2)]
          exact hL x (by omega)
    exact cb_run cb_tb_ok vd_X10_bound (cuts := [7]) 40 (first 0 (Nat.zero_le _) _ _ rfl (mx1 M) rfl (fun x hx => absurd hx (by omega)))
