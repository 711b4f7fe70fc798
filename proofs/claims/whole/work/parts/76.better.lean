/-! ===== the reference: things hung otherwise; better ===== -/
def fr_J (t j : Nat) : Bool := Nat.beq t 64 || (Nat.beq t 65 || (Nat.beq t 72 || (Nat.beq t 73 || fr_X t j)))
theorem fr_X_J : ∀ t j, fr_X t j = true → fr_J t j = true := fun t j h => by unfold fr_J; rw [h]; simp
theorem vcc_cong {V : wV} {bd pl bd' pl' : wm_F} (e : ∀ i, i < V.n → bd i = bd' i ∧ pl i = pl' i) : vcc V bd pl = vcc V bd' pl' := by
  have eh : (fun i j => if i < V.n ∧ j < V.n then wm_hear (vh V bd pl) i j else 0) = fun i j => if i < V.n ∧ j < V.n then wm_hear (vh V bd' pl') i j else 0 := by
    funext i j
    by_cases q : i < V.n ∧ j < V.n
    · rw [if_pos q, if_pos q]
      have b1 : (vh V bd pl).bd i = (vh V bd' pl').bd i := (e i q.1).1
      have b2 : (vh V bd pl).bd j = (vh V bd' pl').bd j := (e j q.2).1
      have p1 : (vh V bd pl).pl i = (vh V bd' pl').pl i := (e i q.1).2
      have p2 : (vh V bd pl).pl j = (vh V bd' pl').pl j := (e j q.2).2
      unfold wm_hear
      rw [b1, b2, p1, p2]
      rfl
    · rw [if_neg q, if_neg q]
  unfold vcc
  rw [eh, wn_tr_ext (fun i hi => (e i hi).1)]
theorem mv_J {M M' : cb_M} (h : cb_fr fr_J M M') (n hh nb : Nat) : (∀ b p, vcc (mv M' n hh nb) b p = vcc (mv M n hh nb) b p) ∧ (mv M' n hh nb).dp = (mv M n hh nb).dp ∧ (mv M' n hh nb).s = (mv M n hh nb).s ∧ (mv M' n hh nb).w = (mv M n hh nb).w ∧ (mv M' n hh nb).wt = (mv M n hh nb).wt := by
  have e : ∀ i j, cb_gI M' 63 i j = cb_gI M 63 i j := fun i j => h.1 63 i j rfl
  have k1 : (mv M' n hh nb).kd = (mv M n hh nb).kd := by show wn_tr n (cb_gI M' 68 0) = wn_tr n (cb_gI M 68 0); rw [h.fn 68 0 (fun _ => rfl)]
  have k2 : (mv M' n hh nb).wt = (mv M n hh nb).wt := by show wn_tr n (cb_gI M' 67 0) = wn_tr n (cb_gI M 67 0); rw [h.fn 67 0 (fun _ => rfl)]
  have k3 : (mv M' n hh nb).ky = (mv M n hh nb).ky := by show wn_tr n (cb_gI M' 55 0) = wn_tr n (cb_gI M 55 0); rw [h.fn 55 0 (fun _ => rfl)]
  have k4 : (mv M' n hh nb).rt = (mv M n hh nb).rt := by show wn_tr n (cb_gI M' 66 0) = wn_tr n (cb_gI M 66 0); rw [h.fn 66 0 (fun _ => rfl)]
  have k5 : (mv M' n hh nb).th = (mv M n hh nb).th := by show wn_tr nb (cb_gI M' 51 0) = wn_tr nb (cb_gI M 51 0); rw [h.fn 51 0 (fun _ => rfl)]
  have k6 : (mv M' n hh nb).hr = (mv M n hh nb).hr := by
    show (fun i j => if i < n ∧ j < n then cb_gI M' 63 i j else 0) = fun i j => if i < n ∧ j < n then cb_gI M 63 i j else 0
    simp only [e]
  have k7 : (mv M' n hh nb).dp = (mv M n hh nb).dp := by show wn_tr 400 (cb_gI M' 53 0) = wn_tr 400 (cb_gI M 53 0); rw [h.fn 53 0 (fun _ => rfl)]
  have k8 : (mv M' n hh nb).s = (mv M n hh nb).s := by
    show mk_b M' n = mk_b M n
    unfold mk_b
    rw [h.1 46 0 33 rfl, h.fn 69 0 (fun _ => rfl), h.fn 70 0 (fun _ => rfl)]
  refine ⟨fun b p => ?_, k7, k8, h.1 49 0 3 rfl, k2⟩
  unfold vcc vh
  rw [k1, k2, k3, k4, k5, k6]
  rfl
theorem mv_ht {M M' : cb_M} {n hh nb : Nat} (h : cb_fr fr_J M M') (hn : n ≤ 8) {bd pl : wm_F} (e : ∀ i, i < n → cb_gI M' 64 0 i = bd i ∧ cb_gI M' 65 0 i = pl i) (k : Nat) : vq_tr (mv M' n hh nb) (wm_all (nI n)) k = vq_ht (mv M n hh nb) bd pl k := by
  obtain ⟨h1, h2, h3, -⟩ := mv_J h n hh nb
  unfold vq_tr vq_ht vc
  rw [h1, h2, h3]
  have : vcc (mv M n hh nb) (mv M' n hh nb).bd (mv M' n hh nb).pl = vcc (mv M n hh nb) bd pl := vcc_cong (fun i hi => ⟨(wn_tr_lt hi).trans (e i hi).1, (wn_tr_lt hi).trans (e i hi).2⟩)
  rw [this]
  rfl
theorem mi_J {M M' : cb_M} {n hh nb : Nat} (hI : mi_I M n hh nb) (h : cb_fr fr_J M M') (hc : ∀ i, i < n → vp_in (cb_gI M' 64 0 i) nb ∧ vp_in (cb_gI M' 65 0 i) 20) (hk : ∀ l, l < hh → vp_in (cb_gI M' 72 0 l) nb ∧ vp_in (cb_gI M' 73 0 l) 20) : mi_I M' n hh nb := by
  obtain ⟨⟨g1, g2, g3⟩, ⟨g4, g5, g6, g7⟩, g8, -, g10, g11, g12, g13, g14⟩ := hI
  refine ⟨⟨(h.1 49 0 1 rfl).trans g1, g2, fun i hi => ⟨vp_in_mono (hc i hi).1 g7, (hc i hi).2, ?_, ?_⟩⟩, ⟨(h.1 49 0 2 rfl).trans g4, g5, (h.1 49 0 0 rfl).trans g6, g7⟩, fun i hi => ⟨(hc i hi).1, ?_⟩, hk, ?_, ?_, (h.1 46 0 41 rfl).trans g12, (h.1 46 0 44 rfl).trans g13, (h.1 46 0 45 rfl).trans g14⟩
  · rw [h.1 67 0 i rfl]
    exact (g3 i hi).2.2.1
  · rw [h.1 55 0 i rfl]
    exact (g3 i hi).2.2.2
  · rw [h.1 69 0 i rfl]
    exact (g8 i hi).2
  · rw [h.1 49 0 4 rfl]
    exact g10
  · rw [h.1 46 0 33 rfl]
    exact g11
theorem md_swap_J (M : cb_M) (i l : Nat) : cb_fr fr_J M (md_swap M i l) := ((((cb_fr.refl M).set _ rfl).set _ rfl).set _ rfl).set _ rfl
theorem md_swap_c (M : cb_M) (i l a : Nat) : cb_gI (md_swap M i l) 64 0 a = (if a = i then cb_gI M 72 0 l else cb_gI M 64 0 a) ∧ cb_gI (md_swap M i l) 65 0 a = if a = i then cb_gI M 73 0 l else cb_gI M 65 0 a := by
  unfold md_swap
  refine ⟨?_, ?_⟩
  · rw [cb_gs_ne (by omega), cb_gs_ne (by omega), cb_gs_ne (by omega)]
    by_cases e : a = i
    · subst e
      rw [cb_gs_eq, if_pos rfl]
    · rw [cb_gs_ne (fun w => e w.2.2), if_neg e]
  · rw [cb_gs_ne (by omega), cb_gs_ne (by omega)]
    by_cases e : a = i
    · subst e
      rw [cb_gs_eq, if_pos rfl]
    · rw [cb_gs_ne (fun w => e w.2.2), cb_gs_ne (by omega), if_neg e]
theorem md_swap_h (M : cb_M) (i l a : Nat) : cb_gI (md_swap M i l) 72 0 a = (if a = l then cb_gI M 64 0 i else cb_gI M 72 0 a) ∧ cb_gI (md_swap M i l) 73 0 a = if a = l then cb_gI M 65 0 i else cb_gI M 73 0 a := by
  unfold md_swap
  refine ⟨?_, ?_⟩
  · rw [cb_gs_ne (by omega)]
    by_cases e : a = l
    · subst e
      rw [cb_gs_eq, if_pos rfl]
    · rw [cb_gs_ne (fun w => e w.2.2), cb_gs_ne (by omega), cb_gs_ne (by omega), if_neg e]
  · by_cases e : a = l
    · subst e
      rw [cb_gs_eq, if_pos rfl]
    · rw [cb_gs_ne (fun w => e w.2.2), cb_gs_ne (by omega), cb_gs_ne (by omega), cb_gs_ne (by omega), if_neg e]
theorem md_swap_I {M : cb_M} {n hh nb i l : Nat} (hI : mi_I M n hh nb) (hi : i < n) (hl : l < hh) : mi_I (md_swap M i l) n hh nb := by
  obtain ⟨⟨-, -, g3⟩, -, g8, g9, -⟩ := id hI
  refine mi_J hI (md_swap_J M i l) (fun a ha => ?_) (fun a ha => ?_)
  · rw [(md_swap_c M i l a).1, (md_swap_c M i l a).2]
    by_cases e : a = i
    · rw [if_pos e, if_pos e]
      exact g9 l hl
    · rw [if_neg e, if_neg e]
      exact ⟨(g8 a ha).1, (g3 a ha).2.1⟩
  · rw [(md_swap_h M i l a).1, (md_swap_h M i l a).2]
    by_cases e : a = l
    · rw [if_pos e, if_pos e]
      exact ⟨(g8 i hi).1, (g3 i hi).2.1⟩
    · rw [if_neg e, if_neg e]
      exact g9 a ha
/-- hung back -/
theorem md_back {M M' : cb_M} {i l : Nat} (h : cb_fr fr_X (md_swap M i l) M') : cb_fr fr_X M (md_swap M' i l) := by
  refine ⟨fun t a j q => ?_, h.2⟩
  have f64 : ∀ j, cb_gI M' 64 0 j = _ := fun j => (h.1 64 0 j rfl).trans (md_swap_c M i l j).1
  have f65 : ∀ j, cb_gI M' 65 0 j = _ := fun j => (h.1 65 0 j rfl).trans (md_swap_c M i l j).2
  have f72 : ∀ j, cb_gI M' 72 0 j = _ := fun j => (h.1 72 0 j rfl).trans (md_swap_h M i l j).1
  have f73 : ∀ j, cb_gI M' 73 0 j = _ := fun j => (h.1 73 0 j rfl).trans (md_swap_h M i l j).2
  by_cases e : (t = 64 ∨ t = 65 ∨ t = 72 ∨ t = 73) ∧ a = 0
  · obtain ⟨e, rfl⟩ := e
    rcases e with rfl | rfl | rfl | rfl
    · rw [(md_swap_c M' i l j).1, f72, if_pos rfl, f64]
      by_cases q : j = i
      · rw [if_pos q, q]
      · rw [if_neg q, if_neg q]
    · rw [(md_swap_c M' i l j).2, f73, if_pos rfl, f65]
      by_cases q : j = i
      · rw [if_pos q, q]
      · rw [if_neg q, if_neg q]
    · rw [(md_swap_h M' i l j).1, f64, if_pos rfl, f72]
      by_cases q : j = l
      · rw [if_pos q, q]
      · rw [if_neg q, if_neg q]
    · rw [(md_swap_h M' i l j).2, f65, if_pos rfl, f73]
      by_cases q : j = l
      · rw [if_pos q, q]
      · rw [if_neg q, if_neg q]
  · have g1 : cb_gI (md_swap M' i l) t a j = cb_gI M' t a j := by
      unfold md_swap
      rw [cb_gs_ne (by omega), cb_gs_ne (by omega), cb_gs_ne (by omega), cb_gs_ne (by omega)]
    have g2 : cb_gI (md_swap M i l) t a j = cb_gI M t a j := by
      unfold md_swap
      rw [cb_gs_ne (by omega), cb_gs_ne (by omega), cb_gs_ne (by omega), cb_gs_ne (by omega)]
    rw [g1, h.1 t a j q, g2]
theorem wq_r_all {w : Int32} {s : wm_S} {n : Nat} (hn : n ≤ 8) : ∃ c, c < 256 ∧ wq_r w (wm_all (nI n)) s n = nI c := by
  have e : wq_r w (wm_all (nI n)) s n = wm_mask (fun i => wm_rgt w (s.2.2 i)) n := by
    refine cb_bit_ext (fun i hi => ?_)
    rw [wq_r_bit hn, wm_mask_bit _ n (by omega)]
    by_cases q : i < n
    · rw [wm_all_bit n hn i (by omega), decide_eq_true q, Bool.and_true]
    · rw [decide_eq_false q]
      simp
  obtain ⟨c, hc, hm⟩ := wm_mask_nI (p := fun i => wm_rgt w (s.2.2 i)) hn
  exact ⟨c, Nat.lt_of_lt_of_le hc (Nat.pow_le_pow_right (n := 2) (by decide) hn), by rw [e, hm]⟩
theorem wq_r_ones {w : Int32} {s : wm_S} {n : Nat} (hn : n ≤ 8) : mi_ones (wq_r w (wm_all (nI n)) s n) = wm_bc (wq_r w (wm_all (nI n)) s n) := by
  obtain ⟨c, hc, e⟩ := wq_r_all (w := w) (s := s) hn
  rw [e, mi_ones_bc c hc]
def sp_X10_better : cb_Sp := fun _ r M K => match r with
  | [.inl N, .inl what] => ∃ n h nb, mi_I M n h nb ∧ wg_r 1 100 N (mT 1 M K) fun k => wg_i 0 1 what (mT 1 M K) (mR (wb_res what (vq_better (mv M n h nb) k)) M K)
  | _ => False
theorem mi_what {what : Int32} {hi : Nat} (hh : hi < 2 ^ 31) (h : ¬ (what < 0 ∨ nI hi < what)) : ∃ k, k ≤ hi ∧ what = nI k := by
  obtain ⟨k, -, k2, e⟩ := wg_r_yes (lo := 0) (hi := hi) hh h (Nat.zero_le _)
  exact ⟨k, k2, e⟩
def pt_X10_better : cb_PT := cb_m 46 2 sp_X10_better
theorem rc_X10_better : cb_rc cb_tb RX10 pt_X10_better := cb_m_rc rfl rfl
def md_X10_better : cb_D := (RX10, cX10_better, 8, (some .int), (0, 0, 7, 157), [
  (0, .aload_n 0, 1, 0, 0, 0, 0),
  (1, .iconst 0, 1, 0, 0, 0, 0),
  (2, .putfield 126, 3, 0, 10, 0, 1328),
  (5, .aload_n 0, 1, 0, 0, 0, 0),
  (6, .iload_n 1, 1, 0, 1, 0, 0),
  (7, .invokestatic 295, 3, 0, 0, 0, 0),
  (10, .ifCond .eq 12, 3, 0, 22, 0, 0),
  (13, .iload_n 2, 1, 0, 2, 0, 0),
  (14, .iconst 0, 1, 0, 0, 0, 0),
  (15, .iconst 1, 1, 1, 0, 0, 0),
  (16, .invokestatic 160, 3, 0, 1, 0, 0),
  (19, .ifCond .ne 7, 3, 0, 26, 0, 0),
  (22, .iconst 1, 1, 1, 0, 0, 0),
  (23, .goto 4, 3, 0, 27, 0, 0),
  (26, .iconst 0, 1, 0, 0, 0, 0),
  (27, .iconst 1, 1, 1, 0, 0, 0),
  (28, .invokevirtual 200, 3, 0, 2, 0, 0),
  (31, .ifCond .eq 5, 3, 0, 36, 0, 0),
  (34, .iconst 0, 1, 0, 0, 0, 0),
  (35, .ireturn, 1, 0, 0, 0, 0),
  (36, .iconst (-1), 1, (-1), 0, 0, 0),
  (37, .istore_n 3, 1, 0, 3, 0, 0),
  (38, .aload_n 0, 1, 0, 0, 0, 0),
  (39, .aload_n 0, 1, 0, 0, 0, 0),
  (40, .invokevirtual 308, 3, 0, 3, 0, 0),
  (43, .iload_n 1, 1, 0, 1, 0, 0),
  (44, .invokevirtual 311, 3, 0, 4, 0, 0),
  (47, .invokestatic 314, 3, 0, 5, 0, 0),
  (50, .istore 4, 2, 0, 4, 0, 0),
  (52, .iconst 0, 1, 0, 0, 0, 0),
  (53, .istore 5, 2, 0, 5, 0, 0),
  (55, .iload 5, 2, 0, 5, 0, 0),
  (57, .aload_n 0, 1, 0, 0, 0, 0),
  (58, .getfield 20, 3, 0, 10, 10, 1338),
  (61, .iconst 1, 1, 1, 0, 0, 0),
  (62, .iaload, 1, 0, 0, 0, 0),
  (63, .if_icmp .ge 82, 3, 0, 145, 0, 0),
  (66, .iconst 0, 1, 0, 0, 0, 0),
  (67, .istore 6, 2, 0, 6, 0, 0),
  (69, .iload 6, 2, 0, 6, 0, 0),
  (71, .aload_n 0, 1, 0, 0, 0, 0),
  (72, .getfield 20, 3, 0, 10, 10, 1338),
  (75, .iconst 2, 1, 2, 0, 0, 0),
  (76, .iaload, 1, 0, 0, 0, 0),
  (77, .if_icmp .ge 62, 3, 0, 139, 0, 0),
  (80, .aload_n 0, 1, 0, 0, 0, 0),
  (81, .iload 5, 2, 0, 5, 0, 0),
  (83, .iload 6, 2, 0, 6, 0, 0),
  (85, .invokevirtual 301, 3, 0, 6, 0, 0),
  (88, .aload_n 0, 1, 0, 0, 0, 0),
  (89, .aload_n 0, 1, 0, 0, 0, 0),
  (90, .invokevirtual 308, 3, 0, 3, 0, 0),
  (93, .iload_n 1, 1, 0, 1, 0, 0),
  (94, .invokevirtual 311, 3, 0, 4, 0, 0),
  (97, .invokestatic 314, 3, 0, 5, 0, 0),
  (100, .istore 7, 2, 0, 7, 0, 0),
  (102, .aload_n 0, 1, 0, 0, 0, 0),
  (103, .iload 5, 2, 0, 5, 0, 0),
  (105, .iload 6, 2, 0, 6, 0, 0),
  (107, .invokevirtual 301, 3, 0, 6, 0, 0),
  (110, .iload 7, 2, 0, 7, 0, 0),
  (112, .iload 4, 2, 0, 4, 0, 0),
  (114, .if_icmp .gt 6, 3, 0, 120, 0, 0),
  (117, .goto 16, 3, 0, 133, 0, 0),
  (120, .bipush 100, 2, 100, 0, 0, 0),
  (122, .iload 5, 2, 0, 5, 0, 0),
  (124, .imul, 1, 0, 0, 0, 0),
  (125, .iload 6, 2, 0, 6, 0, 0),
  (127, .iadd, 1, 0, 0, 0, 0),
  (128, .istore_n 3, 1, 0, 3, 0, 0),
  (129, .iload 7, 2, 0, 7, 0, 0),
  (131, .istore 4, 2, 0, 4, 0, 0),
  (133, .iinc 6 1, 3, 1, 6, 0, 0),
  (136, .goto (-67), 3, 0, 69, 0, 0),
  (139, .iinc 5 1, 3, 1, 5, 0, 0),
  (142, .goto (-87), 3, 0, 55, 0, 0),
  (145, .iload_n 2, 1, 0, 2, 0, 0),
  (146, .ifCond .eq 8, 3, 0, 154, 0, 0),
  (149, .iload_n 3, 1, 0, 3, 0, 0),
  (150, .iconst (-1), 1, (-1), 0, 0, 0),
  (151, .if_icmp .ne 7, 3, 0, 158, 0, 0),
  (154, .iload_n 3, 1, 0, 3, 0, 0),
  (155, .goto 5, 3, 0, 160, 0, 0),
  (158, .iload 4, 2, 0, 4, 0, 0),
  (160, .ireturn, 1, 0, 0, 0, 0)],
  [(1, 295, 1, 0, 0, pt_X10_areDays), (1, 160, 3, 0, 0, pt_X10_in), (0, 200, 3, 0, 0, pt_X10_bad), (0, 308, 1, 0, 0, pt_X10_all), (0, 311, 3, 0, 0, pt_X10_rightBy), (1, 314, 1, 0, 0, pt_X10_ones), (0, 301, 3, 0, 0, pt_X10_hangsOn)], [])
set_option maxRecDepth 100000 in
theorem vd_X10_better : md_X10_better.cd.all (cb_vE md_X10_better) = true := by decide +kernel
theorem wd_X10_better : cb_wd yX10_better md_X10_better := ⟨cb_tw (i := 1827) (by decide +kernel), cb_tw (i := 11) (by decide +kernel), by decide, by decide⟩
theorem cs_X10_better : ∀ X, cb_Bs md_X10_better X → ∀ g ∈ md_X10_better.ga, cb_CS cb_tb md_X10_better X g := fun X B => List.forall_mem_cons.mpr ⟨cb_csS B ok_X10_areDays wd_X10_areDays (cb_tw (i := 1702) (by decide +kernel)) (cb_tw (i := 1703) (by decide +kernel)) ⟨by decide, by decide⟩ (by decide +kernel), List.forall_mem_cons.mpr ⟨cb_csS B ok_X10_in wd_X10_in (cb_tw (i := 1504) (by decide +kernel)) (cb_tw (i := 1505) (by decide +kernel)) ⟨by decide, by decide⟩ (by decide +kernel), List.forall_mem_cons.mpr ⟨cb_csV B ok_X10_bad wd_X10_bad (cb_tw (i := 1507) (by decide +kernel)) (cb_tw (i := 1509) (by decide +kernel)) (cb_tp (i := 45) (by decide +kernel)) rc_X10_bad ⟨by decide, by decide⟩ (by decide +kernel), List.forall_mem_cons.mpr ⟨cb_csV B ok_X10_all wd_X10_all (cb_tw (i := 1741) (by decide +kernel)) (cb_tw (i := 1743) (by decide +kernel)) (cb_tp (i := 78) (by decide +kernel)) rc_X10_all ⟨by decide, by decide⟩ (by decide +kernel), List.forall_mem_cons.mpr ⟨cb_csV B ok_X10_rightBy wd_X10_rightBy (cb_tw (i := 1745) (by decide +kernel)) (cb_tw (i := 1747) (by decide +kernel)) (cb_tp (i := 79) (by decide +kernel)) rc_X10_rightBy ⟨by decide, by decide⟩ (by decide +kernel), List.forall_mem_cons.mpr ⟨cb_csS B ok_X10_ones wd_X10_ones (cb_tw (i := 1753) (by decide +kernel)) (cb_tw (i := 1754) (by decide +kernel)) ⟨by decide, by decide⟩ (by decide +kernel), List.forall_mem_cons.mpr ⟨cb_csV B ok_X10_hangsOn wd_X10_hangsOn (cb_tw (i := 1713) (by decide +kernel)) (cb_tw (i := 1715) (by decide +kernel)) (cb_tp (i := 76) (by decide +kernel)) rc_X10_hangsOn ⟨by decide, by decide⟩ (by decide +kernel), fun _ h => nomatch h⟩⟩⟩⟩⟩⟩⟩
theorem ok_X10_better : cb_MOK cb_tb yX10_better md_X10_better pt_X10_better := by
  refine cb_okm ⟨plainFor_of_name (by decide), rfl⟩ (by decide) cs_X10_better (by decide) (fun X n0 f i r M hr ha h => ?_)
  have h0 := cb_a1 (T := 46) rfl ha
  subst h0
  match r, hr, h with
  | [.inl N, .inl what], hr, h =>
    obtain ⟨n, hh, nb, hI, h⟩ := h
    obtain ⟨hG, ⟨hh1, hh6, -⟩, -⟩ := id hI
    obtain ⟨hn1, hn8, -⟩ := id hG
    refine cb_run cb_tb_ok vd_X10_better (cuts := [55]) 90 ?_
    refine And.intro trivial (cb_ifz (fun q => And.intro (cb_on rfl) (bad_t rfl (by decide) (ez_t (And.intro trivial (h.1 (mi_in_f q) _ (mx2 M 1) rfl))))) (fun q => ?_))
    obtain ⟨k, k1, k2, ke⟩ := mi_in_yes (lo := 1) (hi := 100) (by decide) (by decide) q
    have h := h.2 k k1 k2 ke
    refine cb_ifnz (fun q => And.intro (cb_on rfl) (bad_f rfl (by decide) (ez_f ?_))) (fun q => And.intro (cb_on rfl) (bad_t rfl (by decide) (ez_t (And.intro trivial (h.1 (mi_in_f q) _ (mx2 M 1) rfl)))))
    have h := h.2 (mi_in_t q)
    obtain ⟨V, hV⟩ : ∃ V, V = mv M n hh nb := ⟨_, rfl⟩
    have hVn : V.n = n := by rw [hV]; rfl
    have hVh : V.h = hh := by rw [hV]; rfl
    have hwh : ¬ (what < 0 ∨ 1 < what) := mi_in_t (by assumption)
    rw [← hV] at h
    obtain ⟨st0, hst0⟩ : ∃ st0 : Int32 × Int32, st0 = (wm_bc (vq_rts V (wm_all (nI V.n)) (vq_on V k)), -1) := ⟨_, rfl⟩
    obtain ⟨F, hF0⟩ : ∃ F, F = vq_bn V k := ⟨_, rfl⟩
    have hres : vq_better V k = wb_out F hh st0 n := by
      unfold vq_better
      rw [hVn, hVh, hst0, hVn, hF0]
    rw [hres] at h
    have hI1 := mi_I_X (mx1 M) hI
    have fin : ∀ (v5 v6 v7 : Option cb_V) (st : Int32 × Int32) M2, st = wb_out F hh st0 n → cb_fr fr_X M M2 → cb_gI M2 46 0 0 = 0 → cb_Gd cb_tb md_X10_better X 145 [some (cb_r 46 0), some (cb_i (N)), some (cb_i (what)), some (cb_i (st.2)), some (cb_i (st.1)), v5, v6, v7] [] (cb_aS n0, f) M2 0 0 := by
      intro v5 v6 v7 st M2 hst hF h0
      have h := h M2 hF h0
      rw [← hst] at h
      unfold wb_res at h
      obtain ⟨z, hz, rfl⟩ := mi_what (hi := 1) (by decide) hwh
      refine cb_run cb_tb_ok vd_X10_better (cuts := []) 90 ?_
      refine And.intro (fun q => And.intro trivial ?_) (fun q => cb_ifne (fun q1 => And.intro trivial ?_) (fun q1 => And.intro trivial ?_))
      · have q : nI z = 0 := q
        rw [if_neg (fun w => by rw [q] at w; exact absurd w.1 (by decide))] at h
        exact h
      · have q : ¬ nI z = 0 := q
        have : z = 1 := by
          apply Classical.byContradiction
          intro w
          exact q (by rw [show z = 0 by omega]; rfl)
        rw [if_pos ⟨by rw [this]; rfl, q1⟩] at h
        exact h
      · rw [if_neg (fun w => w.2 q1)] at h
        exact h
    have out : ∀ a, a ≤ n → ∀ (y : Int32) (v6 v7 : Option cb_V) (st : Int32 × Int32) (M2 : cb_M), y = nI a → st = wb_out F hh st0 a → cb_fr fr_X M M2 → cb_gI M2 46 0 0 = 0 → cb_Gd cb_tb md_X10_better X 55 [some (cb_r 46 0), some (cb_i (N)), some (cb_i (what)), some (cb_i (st.2)), some (cb_i (st.1)), some (cb_i (y)), v6, v7] [] (cb_aS n0, f) M2 0 0 := by
      refine cb_up (fun a => ∀ (y : Int32) (v6 v7 : Option cb_V) (st : Int32 × Int32) (M2 : cb_M), y = nI a → st = wb_out F hh st0 a → cb_fr fr_X M M2 → cb_gI M2 46 0 0 = 0 → cb_Gd cb_tb md_X10_better X 55 [some (cb_r 46 0), some (cb_i (N)), some (cb_i (what)), some (cb_i (st.2)), some (cb_i (st.1)), some (cb_i (y)), v6, v7] [] (cb_aS n0, f) M2 0 0) ?_ ?_
      · intro y v6 v7 st M2 hy hst hF h0
        refine cb_run cb_tb_ok vd_X10_better (cuts := [55, 145]) 90 ?_
        exact And.intro (mi_v 1 (by decide)) (cb_lout hy ((hF.1 49 0 1 rfl).trans hn1) (fin _ _ _ st M2 hst hF h0))
      · intro a ha' ih y v6 v7 st M2 hy hst hF h0
        have inn : ∀ g, g ≤ hh → ∀ (x : Int32) (v7 : Option cb_V) (s2 : Int32 × Int32) (M3 : cb_M), x = nI g → s2 = wb_in F a st g → cb_fr fr_X M M3 → cb_gI M3 46 0 0 = 0 → cb_Gd cb_tb md_X10_better X 69 [some (cb_r 46 0), some (cb_i (N)), some (cb_i (what)), some (cb_i (s2.2)), some (cb_i (s2.1)), some (cb_i (y)), some (cb_i (x)), v7] [] (cb_aS n0, f) M3 0 0 := by
          refine cb_up (fun g => ∀ (x : Int32) (v7 : Option cb_V) (s2 : Int32 × Int32) (M3 : cb_M), x = nI g → s2 = wb_in F a st g → cb_fr fr_X M M3 → cb_gI M3 46 0 0 = 0 → cb_Gd cb_tb md_X10_better X 69 [some (cb_r 46 0), some (cb_i (N)), some (cb_i (what)), some (cb_i (s2.2)), some (cb_i (s2.1)), some (cb_i (y)), some (cb_i (x)), v7] [] (cb_aS n0, f) M3 0 0) ?_ ?_
          · intro x v7 s2 M3 hx hs2 hF3 h03
            refine cb_run cb_tb_ok vd_X10_better (cuts := [55, 69]) 90 ?_
            refine And.intro (mi_v 2 (by decide)) (cb_lout hx ((hF3.1 49 0 2 rfl).trans hh1) ?_)
            exact ih _ _ _ s2 M3 (by rw [hy]; exact nI_1 a) (by rw [hs2, hst]; rfl) hF3 h03
          · intro g hg ih2 x v7 s2 M3 hx hs2 hF3 h03
            have hI3 := mi_I_X hF3 hI
            have hIs := md_swap_I hI3 ha' hg
            refine cb_run cb_tb_ok vd_X10_better (cuts := [69]) 90 ?_
            refine And.intro (mi_v 2 (by decide)) (cb_lin hx ((hF3.1 49 0 2 rfl).trans hh1) hg (by omega) (And.intro (cb_on rfl) ⟨a, g, ⟨hy, by omega, hx, by omega⟩, ?_⟩))
            refine And.intro (cb_on rfl) (And.intro (cb_on rfl) ⟨n, hh, nb, k, ⟨hIs, ke, by omega⟩, fun M4 hF4 h04 => And.intro trivial (And.intro (cb_on rfl) ⟨a, g, ⟨hy, by omega, hx, by omega⟩, ?_⟩)⟩)
            have hF5 := hF3.trans (md_back hF4)
            have h05 : cb_gI (md_swap M4 a g) 46 0 0 = 0 := (h04 : cb_gI M4 46 0 0 = _).trans h03
            have eall : wm_all (cb_gI (md_swap M3 a g) 49 0 1) = wm_all (nI n) := by rw [show cb_gI (md_swap M3 a g) 49 0 1 = nI n from (hF3.1 49 0 1 rfl).trans hn1]
            have hFJ : cb_fr fr_J M (md_swap M3 a g) := (hF3.mono fr_X_J).trans (md_swap_J M3 a g)
            have ev : mi_ones (vq_rts (mv (md_swap M3 a g) n hh nb) (wm_all (cb_gI (md_swap M3 a g) 49 0 1)) (vq_tr (mv (md_swap M3 a g) n hh nb) (wm_all (cb_gI (md_swap M3 a g) 49 0 1)) k)) = F a g := by
              rw [eall, hF0]
              unfold vq_bn
              rw [hVn, hV]
              unfold vq_rts
              rw [(mv_J hFJ n hh nb).2.2.2.1, mv_ht hFJ hn8 (bd := wm_upd (mv M n hh nb).bd a ((mv M n hh nb).hb g)) (pl := wm_upd (mv M n hh nb).pl a ((mv M n hh nb).hp g)) (fun i hi => ?_) k]
              · exact wq_r_ones hn8
              · rw [(md_swap_c M3 a g i).1, (md_swap_c M3 a g i).2]
                unfold wm_upd
                by_cases q : i = a
                · rw [if_pos q, if_pos q, if_pos q, if_pos q, hF3.1 72 0 g rfl, hF3.1 73 0 g rfl]
                  exact ⟨(wn_tr_lt hg).symm, (wn_tr_lt hg).symm⟩
                · rw [if_neg q, if_neg q, if_neg q, if_neg q, hF3.1 64 0 i rfl, hF3.1 65 0 i rfl]
                  exact ⟨(wn_tr_lt hi).symm, (wn_tr_lt hi).symm⟩
            rw [ev]
            have hw : wb_in F a st (g + 1) = if s2.1 < F a g then (F a g, 100 * nI a + nI g) else s2 := by rw [wb_in, hs2]
            refine And.intro (fun q => ?_) (fun q => ?_)
            · have q : s2.1 < F a g := q
              rw [if_pos q] at hw
              have z := fun v7 => ih2 (x + 1) v7 (F a g, 100 * nI a + nI g) (md_swap M4 a g) (by rw [hx]; exact nI_1 g) hw.symm hF5 h05
              have e9 : (100 : Int32) * nI a + nI g = 100 * y + x := by rw [hy, hx]
              rw [e9] at z
              exact z _
            · have q : ¬ s2.1 < F a g := q
              rw [if_neg q] at hw
              exact ih2 _ _ s2 _ (by rw [hx]; exact nI_1 g) hw.symm hF5 h05
        refine cb_run cb_tb_ok vd_X10_better (cuts := [55, 69]) 90 ?_
        refine And.intro (mi_v 1 (by decide)) (cb_lin hy ((hF.1 49 0 1 rfl).trans hn1) ha' (by omega) ?_)
        exact inn 0 (Nat.zero_le _) _ _ st M2 rfl rfl hF h0
    refine And.intro (cb_on rfl) (And.intro (cb_on rfl) ⟨n, hh, nb, k, ⟨hI1, ke, by omega⟩, fun M2 hF2 h02 => And.intro trivial ?_⟩)
    have e0 : mi_ones (vq_rts (mv (cb_sI M 46 0 0 0) n hh nb) (wm_all (cb_gI (cb_sI M 46 0 0 0) 49 0 1)) (vq_tr (mv (cb_sI M 46 0 0 0) n hh nb) (wm_all (cb_gI (cb_sI M 46 0 0 0) 49 0 1)) k)) = st0.1 := by
      rw [show cb_gI (cb_sI M 46 0 0 0) 49 0 1 = nI n from hn1, mv_X (mx1 M), ← hV, hst0, hVn]
      have := vq_tr_all (V := V) (by rw [hVn]; exact hn8) k
      rw [hVn] at this
      rw [this]
      unfold vq_rts
      rw [hVn]
      exact wq_r_ones hn8
    rw [e0]
    have e1 : (-1 : Int32) = st0.2 := by rw [hst0]
    have z := out 0 (Nat.zero_le _) 0 none none st0 M2 rfl rfl ((mx1 M).trans hF2) h02
    rw [← e1] at z
    exact z
