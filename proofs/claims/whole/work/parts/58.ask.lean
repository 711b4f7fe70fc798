/-! ===== the reference: clock, hang, book, standing, beginnings ===== -/
theorem mk_h_X {M M' : cb_M} (h : cb_fr fr_X M M') : mk_h M' = mk_h M := by
  have e : (fun i j => cb_gI M' 63 i j) = fun i j => cb_gI M 63 i j := funext fun i => funext fun j => h.1 63 i j rfl
  unfold mk_h
  rw [e, h.fn 68 0 (fun _ => rfl), h.fn 64 0 (fun _ => rfl), h.fn 65 0 (fun _ => rfl), h.fn 67 0 (fun _ => rfl), h.fn 51 0 (fun _ => rfl), h.fn 55 0 (fun _ => rfl), h.fn 66 0 (fun _ => rfl)]
theorem mk_c_X {M M' : cb_M} (h : cb_fr fr_X M M') (n : Nat) : mk_c M' n = mk_c M n := by
  unfold mk_c
  rw [mk_h_X h, h.fn 68 0 (fun _ => rfl), h.fn 64 0 (fun _ => rfl), h.fn 67 0 (fun _ => rfl), h.fn 55 0 (fun _ => rfl), h.fn 66 0 (fun _ => rfl)]
theorem mk_b_X {M M' : cb_M} (h : cb_fr fr_X M M') (n : Nat) : mk_b M' n = mk_b M n := by
  unfold mk_b
  rw [h.1 46 0 33 rfl, h.fn 69 0 (fun _ => rfl), h.fn 70 0 (fun _ => rfl)]
theorem mk_G_X {M M' : cb_M} (h : cb_fr fr_X M M') {n : Nat} (hG : mk_G M n) : mk_G M' n := by
  unfold mk_G at *
  rw [h.1 49 0 1 rfl, h.fn 64 0 (fun _ => rfl), h.fn 65 0 (fun _ => rfl), h.fn 67 0 (fun _ => rfl), h.fn 55 0 (fun _ => rfl)]
  exact hG
theorem cb_sI_self (M : cb_M) (t i j : Nat) : cb_sI M t i j (cb_gI M t i j) = M := by
  refine Prod.ext (funext fun t' => funext fun i' => funext fun j' => ?_) rfl
  show (if t' = t ∧ i' = i ∧ j' = j then cb_gI M t i j else M.1 t' i' j') = M.1 t' i' j'
  split
  · rename_i h
    obtain ⟨rfl, rfl, rfl⟩ := h
    rfl
  · rfl
theorem cb_fr.re {S : Nat → Nat → Bool} {M M1 : cb_M} {t i j : Nat} {v : Int32} (h : cb_fr S (cb_sI M t i j v) M1) (w : Int32) : cb_fr S (cb_sI M t i j w) (cb_sI M1 t i j w) := by
  refine ⟨fun t' i' j' q => ?_, h.2⟩
  by_cases e : t' = t ∧ i' = i ∧ j' = j
  · obtain ⟨rfl, rfl, rfl⟩ := e
    rw [cb_gs_eq, cb_gs_eq]
  · rw [cb_gs_ne e, cb_gs_ne e, h.1 t' i' j' q, cb_gs_ne e]
/-- days gone with one begun otherwise -/
theorem mg_pon {M M0 : cb_M} {n h nb i : Nat} {p : Int32} (hI : mi_I M n h nb) (hF0 : cb_fr fr_X (cb_sI M 69 0 i p) M0) (hp0 : wm_ph p) (hi : i < n) {K : Option cb_V → cb_M → Prop} {N : Int32} {k : Nat} (hN : N = nI k) (hk : k ≤ 400) (hK : ∀ M', cb_fr fr_n M0 M' → mk_P M' n → mk_s M' n = vq_pon (mv M n h nb) i p k → K none M') : sp_X10_goesOn 0 [.inl N] M0 K := by
  obtain ⟨hG, -, hp, -, -, ⟨d, hd, hday⟩, hu, hw, hpr⟩ := id hI
  have hpr' : cb_gI M0 46 0 45 = 0 := (hF0.1 46 0 45 rfl).trans hpr
  have hu' : cb_gI M0 46 0 41 = 255 := (hF0.1 46 0 41 rfl).trans hu
  have hw' : cb_gI M0 46 0 44 = 0 := (hF0.1 46 0 44 rfl).trans hw
  refine ⟨n, k, d, ⟨mk_G_X hF0 hG, fun a ha => ?_, hN, by omega, (hF0.1 46 0 33 rfl).trans hday, by omega, hpr'⟩, fun M' hF hP hs _ => hK M' hF hP ?_⟩
  · rw [hF0.1 69 0 a rfl]
    by_cases e : a = i
    · subst e
      rw [cb_gs_eq]
      exact hp0
    · rw [cb_gs_ne (fun w => e w.2.2)]
      exact (hp a ha).2
  · rw [hs hw', mk_c_X hF0, mk_b_X hF0, mu_all hG.2.1 hu' hpr', hF0.fn 53 0 (fun _ => rfl)]
    unfold vq_pon
    rw [← mv_c hI]
    show wn_days (mk_c M n) (wu_all n) (cb_gI M 53 0) (mk_b (cb_sI M 69 0 i p) n) k = wn_days (mk_c M n) (wu_all n) (wn_tr 400 (cb_gI M 53 0)) (wt_set (mk_b M n) i p) k
    rw [wn_days_tr]
    congr 1
    unfold mk_b wt_set
    refine Prod.ext rfl (Prod.ext (funext fun a => ?_) rfl)
    show wn_tr n (cb_gI (cb_sI M 69 0 i p) 69 0) a = if a = i then p else wn_tr n (cb_gI M 69 0) a
    unfold wn_tr
    by_cases e : a = i
    · subst e
      rw [if_pos hi, cb_gs_eq, if_pos rfl]
    · rw [cb_gs_ne (fun w => e w.2.2), if_neg e]
def md_swap (M : cb_M) (i l : Nat) : cb_M := cb_sI (cb_sI (cb_sI (cb_sI M 64 0 i (cb_gI M 72 0 l)) 65 0 i (cb_gI M 73 0 l)) 72 0 l (cb_gI M 64 0 i)) 73 0 l (cb_gI M 65 0 i)
def sp_X10_hangsOn : cb_Sp := fun _ r M K => match r with
  | [.inl x, .inl y] => ∃ i l, (x = nI i ∧ i < 8 ∧ y = nI l ∧ l < 6) ∧ K none (md_swap M i l)
  | _ => False
def pt_X10_hangsOn : cb_PT := cb_m 46 2 sp_X10_hangsOn
theorem rc_X10_hangsOn : cb_rc cb_tb RX10 pt_X10_hangsOn := cb_m_rc rfl rfl
def md_X10_hangsOn : cb_D := (RX10, cX10_hangsOn, 5, none, (0, 0, 0, 0), [
  (0, .aload_n 0, 1, 0, 0, 0, 0),
  (1, .getfield 55, 3, 0, 10, 21, 1349),
  (4, .iload_n 1, 1, 0, 1, 0, 0),
  (5, .iaload, 1, 0, 0, 0, 0),
  (6, .istore_n 3, 1, 0, 3, 0, 0),
  (7, .aload_n 0, 1, 0, 0, 0, 0),
  (8, .getfield 58, 3, 0, 10, 22, 1350),
  (11, .iload_n 1, 1, 0, 1, 0, 0),
  (12, .iaload, 1, 0, 0, 0, 0),
  (13, .istore 4, 2, 0, 4, 0, 0),
  (15, .aload_n 0, 1, 0, 0, 0, 0),
  (16, .getfield 55, 3, 0, 10, 21, 1349),
  (19, .iload_n 1, 1, 0, 1, 0, 0),
  (20, .aload_n 0, 1, 0, 0, 0, 0),
  (21, .getfield 79, 3, 0, 10, 29, 1357),
  (24, .iload_n 2, 1, 0, 2, 0, 0),
  (25, .iaload, 1, 0, 0, 0, 0),
  (26, .iastore, 1, 0, 0, 0, 0),
  (27, .aload_n 0, 1, 0, 0, 0, 0),
  (28, .getfield 58, 3, 0, 10, 22, 1350),
  (31, .iload_n 1, 1, 0, 1, 0, 0),
  (32, .aload_n 0, 1, 0, 0, 0, 0),
  (33, .getfield 82, 3, 0, 10, 30, 1358),
  (36, .iload_n 2, 1, 0, 2, 0, 0),
  (37, .iaload, 1, 0, 0, 0, 0),
  (38, .iastore, 1, 0, 0, 0, 0),
  (39, .aload_n 0, 1, 0, 0, 0, 0),
  (40, .getfield 79, 3, 0, 10, 29, 1357),
  (43, .iload_n 2, 1, 0, 2, 0, 0),
  (44, .iload_n 3, 1, 0, 3, 0, 0),
  (45, .iastore, 1, 0, 0, 0, 0),
  (46, .aload_n 0, 1, 0, 0, 0, 0),
  (47, .getfield 82, 3, 0, 10, 30, 1358),
  (50, .iload_n 2, 1, 0, 2, 0, 0),
  (51, .iload 4, 2, 0, 4, 0, 0),
  (53, .iastore, 1, 0, 0, 0, 0),
  (54, .return_, 1, 0, 0, 0, 0)],
  [], [])
set_option maxRecDepth 100000 in
theorem vd_X10_hangsOn : md_X10_hangsOn.cd.all (cb_vE md_X10_hangsOn) = true := by decide +kernel
theorem wd_X10_hangsOn : cb_wd yX10_hangsOn md_X10_hangsOn := ⟨cb_tw (i := 1716) (by decide +kernel), cb_tw (i := 11) (by decide +kernel), by decide, by decide⟩
theorem cs_X10_hangsOn : ∀ X, cb_Bs md_X10_hangsOn X → ∀ g ∈ md_X10_hangsOn.ga, cb_CS cb_tb md_X10_hangsOn X g := fun X B => fun _ h => nomatch h
theorem ok_X10_hangsOn : cb_MOK cb_tb yX10_hangsOn md_X10_hangsOn pt_X10_hangsOn := by
  refine cb_okm ⟨plainFor_of_name (by decide), rfl⟩ (by decide) cs_X10_hangsOn (by decide) (fun X n0 f i r M hr ha h => ?_)
  have h0 := cb_a1 (T := 46) rfl ha
  subst h0
  match r, hr, h with
  | [.inl x, .inl y], hr, h =>
    obtain ⟨i, l, ⟨hx, hi, hy, hl⟩, h⟩ := h
    have hx8 : vp_in x 8 := by rw [hx]; exact vp_in_nI hi (by decide)
    have hxc : x.toNatClampNeg = i := by rw [hx]; exact nI_clamp (by omega)
    have hy8 : vp_in y 6 := by rw [hy]; exact vp_in_nI hl (by decide)
    have hyc : y.toNatClampNeg = l := by rw [hy]; exact nI_clamp (by omega)
    refine cb_run cb_tb_ok vd_X10_hangsOn (cuts := []) 90 ?_
    refine And.intro hx8 (And.intro hx8 (And.intro hy8 (And.intro hx8 (And.intro hy8 (And.intro hx8 (And.intro hy8 (And.intro hy8 (And.intro rfl ?_))))))))
    refine cb_eqN (M' := md_swap M x.toNatClampNeg y.toNatClampNeg) h ?_
    rw [hxc, hyc]
def sp_X10_hang : cb_Sp := fun _ r M K => match r with
  | [.inl x, .inl y] => ∃ n h nb, mi_I M n h nb ∧ wg_c n x (mT 1 M K) fun i => wg_c h y (mT 1 M K) fun l => K (some (cb_i 1)) (md_swap (cb_sI M 46 0 0 0) i l)
  | _ => False
def pt_X10_hang : cb_PT := cb_m 46 2 sp_X10_hang
theorem rc_X10_hang : cb_rc cb_tb RX10 pt_X10_hang := cb_m_rc rfl rfl
def md_X10_hang : cb_D := (RX10, cX10_hang, 3, (some .int), (0, 0, 2, 43), [
  (0, .aload_n 0, 1, 0, 0, 0, 0),
  (1, .iconst 0, 1, 0, 0, 0, 0),
  (2, .putfield 126, 3, 0, 10, 0, 1328),
  (5, .aload_n 0, 1, 0, 0, 0, 0),
  (6, .aload_n 0, 1, 0, 0, 0, 0),
  (7, .iload_n 1, 1, 0, 1, 0, 0),
  (8, .invokevirtual 267, 3, 0, 0, 0, 0),
  (11, .ifCond .eq 11, 3, 0, 22, 0, 0),
  (14, .aload_n 0, 1, 0, 0, 0, 0),
  (15, .iload_n 2, 1, 0, 2, 0, 0),
  (16, .invokevirtual 298, 3, 0, 1, 0, 0),
  (19, .ifCond .ne 7, 3, 0, 26, 0, 0),
  (22, .iconst 1, 1, 1, 0, 0, 0),
  (23, .goto 4, 3, 0, 27, 0, 0),
  (26, .iconst 0, 1, 0, 0, 0, 0),
  (27, .iconst 1, 1, 1, 0, 0, 0),
  (28, .invokevirtual 200, 3, 0, 2, 0, 0),
  (31, .ifCond .eq 5, 3, 0, 36, 0, 0),
  (34, .iconst 0, 1, 0, 0, 0, 0),
  (35, .ireturn, 1, 0, 0, 0, 0),
  (36, .aload_n 0, 1, 0, 0, 0, 0),
  (37, .iload_n 1, 1, 0, 1, 0, 0),
  (38, .iload_n 2, 1, 0, 2, 0, 0),
  (39, .invokevirtual 301, 3, 0, 3, 0, 0),
  (42, .iconst 1, 1, 1, 0, 0, 0),
  (43, .ireturn, 1, 0, 0, 0, 0)],
  [(0, 267, 2, 0, 0, pt_X10_isClock), (0, 298, 2, 0, 0, pt_X10_isHook), (0, 200, 3, 0, 0, pt_X10_bad), (0, 301, 3, 0, 0, pt_X10_hangsOn)], [])
set_option maxRecDepth 100000 in
theorem vd_X10_hang : md_X10_hang.cd.all (cb_vE md_X10_hang) = true := by decide +kernel
theorem wd_X10_hang : cb_wd yX10_hang md_X10_hang := ⟨cb_tw (i := 1708) (by decide +kernel), cb_tw (i := 11) (by decide +kernel), by decide, by decide⟩
theorem cs_X10_hang : ∀ X, cb_Bs md_X10_hang X → ∀ g ∈ md_X10_hang.ga, cb_CS cb_tb md_X10_hang X g := fun X B => List.forall_mem_cons.mpr ⟨cb_csV B ok_X10_isClock wd_X10_isClock (cb_tw (i := 1581) (by decide +kernel)) (cb_tw (i := 1583) (by decide +kernel)) (cb_tp (i := 58) (by decide +kernel)) rc_X10_isClock ⟨by decide, by decide⟩ (by decide +kernel), List.forall_mem_cons.mpr ⟨cb_csV B ok_X10_isHook wd_X10_isHook (cb_tw (i := 1709) (by decide +kernel)) (cb_tw (i := 1711) (by decide +kernel)) (cb_tp (i := 75) (by decide +kernel)) rc_X10_isHook ⟨by decide, by decide⟩ (by decide +kernel), List.forall_mem_cons.mpr ⟨cb_csV B ok_X10_bad wd_X10_bad (cb_tw (i := 1507) (by decide +kernel)) (cb_tw (i := 1509) (by decide +kernel)) (cb_tp (i := 45) (by decide +kernel)) rc_X10_bad ⟨by decide, by decide⟩ (by decide +kernel), List.forall_mem_cons.mpr ⟨cb_csV B ok_X10_hangsOn wd_X10_hangsOn (cb_tw (i := 1713) (by decide +kernel)) (cb_tw (i := 1715) (by decide +kernel)) (cb_tp (i := 76) (by decide +kernel)) rc_X10_hangsOn ⟨by decide, by decide⟩ (by decide +kernel), fun _ h => nomatch h⟩⟩⟩⟩
theorem ok_X10_hang : cb_MOK cb_tb yX10_hang md_X10_hang pt_X10_hang := by
  refine cb_okm ⟨plainFor_of_name (by decide), rfl⟩ (by decide) cs_X10_hang (by decide) (fun X n0 f i r M hr ha h => ?_)
  have h0 := cb_a1 (T := 46) rfl ha
  subst h0
  match r, hr, h with
  | [.inl x, .inl y], hr, h =>
    obtain ⟨n, hh, nb, hI, h⟩ := h
    obtain ⟨hG, ⟨hh1, hh6, -⟩, -⟩ := id hI
    obtain ⟨hn1, hn8, -⟩ := id hG
    refine cb_run cb_tb_ok vd_X10_hang (cuts := []) 90 ?_
    refine And.intro (cb_on rfl) ⟨n, ⟨hn1, hn8⟩, cb_ifz (fun q => And.intro (cb_on rfl) (bad_t rfl (by decide) (ez_t (And.intro trivial (h.1 (mi_c_f (by omega) q) _ (mx2 M 1) rfl))))) (fun q => ?_)⟩
    obtain ⟨i, hi, hx⟩ := wg_yes (by omega) ((mi_c_iff (by omega)).mp q)
    have h := h.2 i hi hx
    refine And.intro (cb_on rfl) ⟨hh, ⟨hh1, by omega⟩, cb_ifnz (fun q => And.intro (cb_on rfl) (bad_f rfl (by decide) (ez_f ?_))) (fun q => And.intro (cb_on rfl) (bad_t rfl (by decide) (ez_t (And.intro trivial (h.1 (mi_c_f (by omega) q) _ (mx2 M 1) rfl)))))⟩
    obtain ⟨l, hl, hy⟩ := wg_yes (by omega) ((mi_c_iff (by omega)).mp q)
    have h := h.2 l hl hy
    exact And.intro (cb_on rfl) ⟨i, l, ⟨hx, by omega, hy, by omega⟩, And.intro trivial h⟩
def sp_X10_book : cb_Sp := fun _ r M K => match r with
  | [.inl x, .inl off] => ∃ n h nb, mi_I M n h nb ∧ wg_c n x (mT 1 M K) fun i => (¬ off = -2147483648 → off < -99999 ∨ 99999 < off → mT 2 M K) ∧ (off = -2147483648 ∨ ¬ (off < -99999 ∨ 99999 < off) → K (some (cb_i ((mv M n h nb).bk i))) (cb_sI (cb_sI M 46 0 0 0) 71 0 i off))
  | _ => False
def pt_X10_book : cb_PT := cb_m 46 2 sp_X10_book
theorem rc_X10_book : cb_rc cb_tb RX10 pt_X10_book := cb_m_rc rfl rfl
def md_X10_book : cb_D := (RX10, cX10_book, 4, (some .int), (0, 0, 2, 43), [
  (0, .aload_n 0, 1, 0, 0, 0, 0),
  (1, .iconst 0, 1, 0, 0, 0, 0),
  (2, .putfield 126, 3, 0, 10, 0, 1328),
  (5, .aload_n 0, 1, 0, 0, 0, 0),
  (6, .aload_n 0, 1, 0, 0, 0, 0),
  (7, .iload_n 1, 1, 0, 1, 0, 0),
  (8, .invokevirtual 267, 3, 0, 0, 0, 0),
  (11, .ifCond .ne 7, 3, 0, 18, 0, 0),
  (14, .iconst 1, 1, 1, 0, 0, 0),
  (15, .goto 4, 3, 0, 19, 0, 0),
  (18, .iconst 0, 1, 0, 0, 0, 0),
  (19, .iconst 1, 1, 1, 0, 0, 0),
  (20, .invokevirtual 200, 3, 0, 1, 0, 0),
  (23, .ifCond .ne 29, 3, 0, 52, 0, 0),
  (26, .aload_n 0, 1, 0, 0, 0, 0),
  (27, .iload_n 2, 1, 0, 2, 0, 0),
  (28, .ldc 125, 2, (-2147483648), 0, 0, 1327),
  (30, .if_icmp .eq 14, 3, 0, 44, 0, 0),
  (33, .iload_n 2, 1, 0, 2, 0, 0),
  (34, .invokestatic 338, 3, 0, 2, 0, 0),
  (37, .ifCond .ne 7, 3, 0, 44, 0, 0),
  (40, .iconst 1, 1, 1, 0, 0, 0),
  (41, .goto 4, 3, 0, 45, 0, 0),
  (44, .iconst 0, 1, 0, 0, 0, 0),
  (45, .iconst 2, 1, 2, 0, 0, 0),
  (46, .invokevirtual 200, 3, 0, 1, 0, 0),
  (49, .ifCond .eq 5, 3, 0, 54, 0, 0),
  (52, .iconst 0, 1, 0, 0, 0, 0),
  (53, .ireturn, 1, 0, 0, 0, 0),
  (54, .aload_n 0, 1, 0, 0, 0, 0),
  (55, .getfield 76, 3, 0, 10, 28, 1356),
  (58, .iload_n 1, 1, 0, 1, 0, 0),
  (59, .iaload, 1, 0, 0, 0, 0),
  (60, .istore_n 3, 1, 0, 3, 0, 0),
  (61, .aload_n 0, 1, 0, 0, 0, 0),
  (62, .getfield 76, 3, 0, 10, 28, 1356),
  (65, .iload_n 1, 1, 0, 1, 0, 0),
  (66, .iload_n 2, 1, 0, 2, 0, 0),
  (67, .iastore, 1, 0, 0, 0, 0),
  (68, .iload_n 3, 1, 0, 3, 0, 0),
  (69, .ireturn, 1, 0, 0, 0, 0)],
  [(0, 267, 2, 0, 0, pt_X10_isClock), (0, 200, 3, 0, 0, pt_X10_bad), (1, 338, 1, 0, 0, pt_X10_isOff)], [])
set_option maxRecDepth 100000 in
theorem vd_X10_book : md_X10_book.cd.all (cb_vE md_X10_book) = true := by decide +kernel
theorem wd_X10_book : cb_wd yX10_book md_X10_book := ⟨cb_tw (i := 1795) (by decide +kernel), cb_tw (i := 11) (by decide +kernel), by decide, by decide⟩
theorem cs_X10_book : ∀ X, cb_Bs md_X10_book X → ∀ g ∈ md_X10_book.ga, cb_CS cb_tb md_X10_book X g := fun X B => List.forall_mem_cons.mpr ⟨cb_csV B ok_X10_isClock wd_X10_isClock (cb_tw (i := 1581) (by decide +kernel)) (cb_tw (i := 1583) (by decide +kernel)) (cb_tp (i := 58) (by decide +kernel)) rc_X10_isClock ⟨by decide, by decide⟩ (by decide +kernel), List.forall_mem_cons.mpr ⟨cb_csV B ok_X10_bad wd_X10_bad (cb_tw (i := 1507) (by decide +kernel)) (cb_tw (i := 1509) (by decide +kernel)) (cb_tp (i := 45) (by decide +kernel)) rc_X10_bad ⟨by decide, by decide⟩ (by decide +kernel), List.forall_mem_cons.mpr ⟨cb_csS B ok_X10_isOff wd_X10_isOff (cb_tw (i := 1776) (by decide +kernel)) (cb_tw (i := 1777) (by decide +kernel)) ⟨by decide, by decide⟩ (by decide +kernel), fun _ h => nomatch h⟩⟩⟩
theorem ok_X10_book : cb_MOK cb_tb yX10_book md_X10_book pt_X10_book := by
  refine cb_okm ⟨plainFor_of_name (by decide), rfl⟩ (by decide) cs_X10_book (by decide) (fun X n0 f i r M hr ha h => ?_)
  have h0 := cb_a1 (T := 46) rfl ha
  subst h0
  match r, hr, h with
  | [.inl x, .inl off], hr, h =>
    obtain ⟨n, hh, nb, hI, h⟩ := h
    obtain ⟨hn1, hn8, -⟩ := id hI.1
    refine cb_run cb_tb_ok vd_X10_book (cuts := []) 90 ?_
    refine And.intro (cb_on rfl) ⟨n, ⟨hn1, hn8⟩, cb_ifnz (fun q => And.intro (cb_on rfl) (bad_f rfl (by decide) (nz_f ?_))) (fun q => And.intro (cb_on rfl) (bad_t rfl (by decide) (nz_t (And.intro trivial (h.1 (mi_c_f (by omega) q) _ (mx2 M 1) rfl)))))⟩
    obtain ⟨i, hi, hx⟩ := wg_yes (by omega) ((mi_c_iff (by omega)).mp q)
    have h := h.2 i hi hx
    have hx8 : vp_in x 8 := by rw [hx]; exact cb_in8 hi hn8 (by decide)
    have hxc : x.toNatClampNeg = i := by rw [hx]; exact nI_clamp (by omega)
    have fin : (off = -2147483648 ∨ ¬ (off < -99999 ∨ 99999 < off)) → X.K (.inl (some (cb_i (cb_gI M 71 0 x.toNatClampNeg)))) (cb_aS n0, f) (cb_sI (cb_sI M 46 0 0 0) 71 0 x.toNatClampNeg off) := fun w => by
      have := h.2 w
      rw [hxc, show cb_gI M 71 0 i = (mv M n hh nb).bk i from (wn_tr_lt hi).symm]
      exact this
    refine And.intro (fun q1 => And.intro (cb_on rfl) (bad_f rfl (by decide) (ez_f (And.intro hx8 (And.intro hx8 (And.intro trivial (fin (Or.inl q1)))))))) (fun q1 => And.intro trivial (cb_ifnz (fun q2 => And.intro (cb_on rfl) (bad_f rfl (by decide) (ez_f (And.intro hx8 (And.intro hx8 (And.intro trivial (fin (Or.inr (mi_in_t q2))))))))) (fun q2 => And.intro (cb_on rfl) (bad_t rfl (by decide) (ez_t (And.intro trivial (h.1 q1 (mi_in_f q2) _ (mx2 M 2) rfl)))))))
theorem mk_s_b_P {M M1 : cb_M} {n : Nat} (hs : mk_s M1 n = mk_b M n) (hp : ∀ i, i < n → wm_ph (cb_gI M 69 0 i)) : mk_P M1 n := by
  rw [mk_P_s, hs]
  intro a ha
  show wm_ph (wn_tr n (cb_gI M 69 0) a)
  rw [wn_tr_lt ha]
  exact hp a ha
def sp_X10_clock : cb_Sp := fun _ r M K => match r with
  | [.inl x, .inl y] => ∃ n h nb, mi_I M n h nb ∧ wg_c n x (mT 1 M K) fun i => wg_r 0 8 y (mT 2 M K) fun k => mR (vq_clock (mv M n h nb) i k) M K
  | _ => False
def pt_X10_clock : cb_PT := cb_m 46 2 sp_X10_clock
theorem rc_X10_clock : cb_rc cb_tb RX10 pt_X10_clock := cb_m_rc rfl rfl
def md_X10_clock : cb_D := (RX10, cX10_clock, 3, (some .int), (0, 0, 2, 44), [
  (0, .aload_n 0, 1, 0, 0, 0, 0),
  (1, .iconst 0, 1, 0, 0, 0, 0),
  (2, .putfield 126, 3, 0, 10, 0, 1328),
  (5, .aload_n 0, 1, 0, 0, 0, 0),
  (6, .aload_n 0, 1, 0, 0, 0, 0),
  (7, .iload_n 1, 1, 0, 1, 0, 0),
  (8, .invokevirtual 267, 3, 0, 0, 0, 0),
  (11, .ifCond .ne 7, 3, 0, 18, 0, 0),
  (14, .iconst 1, 1, 1, 0, 0, 0),
  (15, .goto 4, 3, 0, 19, 0, 0),
  (18, .iconst 0, 1, 0, 0, 0, 0),
  (19, .iconst 1, 1, 1, 0, 0, 0),
  (20, .invokevirtual 200, 3, 0, 1, 0, 0),
  (23, .ifCond .ne 26, 3, 0, 49, 0, 0),
  (26, .aload_n 0, 1, 0, 0, 0, 0),
  (27, .iload_n 2, 1, 0, 2, 0, 0),
  (28, .iconst 0, 1, 0, 0, 0, 0),
  (29, .bipush 8, 2, 8, 0, 0, 0),
  (31, .invokestatic 160, 3, 0, 2, 0, 0),
  (34, .ifCond .ne 7, 3, 0, 41, 0, 0),
  (37, .iconst 1, 1, 1, 0, 0, 0),
  (38, .goto 4, 3, 0, 42, 0, 0),
  (41, .iconst 0, 1, 0, 0, 0, 0),
  (42, .iconst 2, 1, 2, 0, 0, 0),
  (43, .invokevirtual 200, 3, 0, 1, 0, 0),
  (46, .ifCond .eq 5, 3, 0, 51, 0, 0),
  (49, .iconst 0, 1, 0, 0, 0, 0),
  (50, .ireturn, 1, 0, 0, 0, 0),
  (51, .aload_n 0, 1, 0, 0, 0, 0),
  (52, .invokevirtual 261, 3, 0, 3, 0, 0),
  (55, .iload_n 2, 1, 0, 2, 0, 0),
  (56, .tableswitch 115 0 7 #[48, 55, 62, 69, 76, 83, 90, 97], 48, 0, 0, 0, 0),
  (104, .aload_n 0, 1, 0, 0, 0, 0),
  (105, .getfield 55, 3, 0, 10, 21, 1349),
  (108, .iload_n 1, 1, 0, 1, 0, 0),
  (109, .iaload, 1, 0, 0, 0, 0),
  (110, .ireturn, 1, 0, 0, 0, 0),
  (111, .aload_n 0, 1, 0, 0, 0, 0),
  (112, .getfield 58, 3, 0, 10, 22, 1350),
  (115, .iload_n 1, 1, 0, 1, 0, 0),
  (116, .iaload, 1, 0, 0, 0, 0),
  (117, .ireturn, 1, 0, 0, 0, 0),
  (118, .aload_n 0, 1, 0, 0, 0, 0),
  (119, .getfield 61, 3, 0, 10, 23, 1351),
  (122, .iload_n 1, 1, 0, 1, 0, 0),
  (123, .iaload, 1, 0, 0, 0, 0),
  (124, .ireturn, 1, 0, 0, 0, 0),
  (125, .aload_n 0, 1, 0, 0, 0, 0),
  (126, .getfield 64, 3, 0, 10, 24, 1352),
  (129, .iload_n 1, 1, 0, 1, 0, 0),
  (130, .iaload, 1, 0, 0, 0, 0),
  (131, .ireturn, 1, 0, 0, 0, 0),
  (132, .aload_n 0, 1, 0, 0, 0, 0),
  (133, .getfield 67, 3, 0, 10, 25, 1353),
  (136, .iload_n 1, 1, 0, 1, 0, 0),
  (137, .iaload, 1, 0, 0, 0, 0),
  (138, .ireturn, 1, 0, 0, 0, 0),
  (139, .aload_n 0, 1, 0, 0, 0, 0),
  (140, .getfield 70, 3, 0, 10, 26, 1354),
  (143, .iload_n 1, 1, 0, 1, 0, 0),
  (144, .iaload, 1, 0, 0, 0, 0),
  (145, .ireturn, 1, 0, 0, 0, 0),
  (146, .aload_n 0, 1, 0, 0, 0, 0),
  (147, .getfield 73, 3, 0, 10, 27, 1355),
  (150, .iload_n 1, 1, 0, 1, 0, 0),
  (151, .iaload, 1, 0, 0, 0, 0),
  (152, .ireturn, 1, 0, 0, 0, 0),
  (153, .aload_n 0, 1, 0, 0, 0, 0),
  (154, .iload_n 1, 1, 0, 1, 0, 0),
  (155, .aload_n 0, 1, 0, 0, 0, 0),
  (156, .getfield 210, 3, 0, 10, 33, 1361),
  (159, .invokevirtual 226, 3, 0, 4, 0, 0),
  (162, .ifCond .eq 7, 3, 0, 169, 0, 0),
  (165, .iconst 1, 1, 1, 0, 0, 0),
  (166, .goto 4, 3, 0, 170, 0, 0),
  (169, .iconst 0, 1, 0, 0, 0, 0),
  (170, .ireturn, 1, 0, 0, 0, 0),
  (171, .aload_n 0, 1, 0, 0, 0, 0),
  (172, .iload_n 1, 1, 0, 1, 0, 0),
  (173, .invokevirtual 242, 3, 0, 5, 0, 0),
  (176, .ifCond .eq 7, 3, 0, 183, 0, 0),
  (179, .iconst 1, 1, 1, 0, 0, 0),
  (180, .goto 4, 3, 0, 184, 0, 0),
  (183, .iconst 0, 1, 0, 0, 0, 0),
  (184, .ireturn, 1, 0, 0, 0, 0)],
  [(0, 267, 2, 0, 0, pt_X10_isClock), (0, 200, 3, 0, 0, pt_X10_bad), (1, 160, 3, 0, 0, pt_X10_in), (0, 261, 1, 0, 0, pt_X10_begins), (0, 226, 3, 0, 0, pt_X10_runs), (0, 242, 2, 0, 0, pt_X10_isStopped)], [(56, [(0, 104), (1, 111), (2, 118), (3, 125), (4, 132), (5, 139), (6, 146), (7, 153)], 171)])
set_option maxRecDepth 100000 in
theorem vd_X10_clock : md_X10_clock.cd.all (cb_vE md_X10_clock) = true := by decide +kernel
theorem wd_X10_clock : cb_wd yX10_clock md_X10_clock := ⟨cb_tw (i := 1580) (by decide +kernel), cb_tw (i := 11) (by decide +kernel), by decide, by decide⟩
theorem cs_X10_clock : ∀ X, cb_Bs md_X10_clock X → ∀ g ∈ md_X10_clock.ga, cb_CS cb_tb md_X10_clock X g := fun X B => List.forall_mem_cons.mpr ⟨cb_csV B ok_X10_isClock wd_X10_isClock (cb_tw (i := 1581) (by decide +kernel)) (cb_tw (i := 1583) (by decide +kernel)) (cb_tp (i := 58) (by decide +kernel)) rc_X10_isClock ⟨by decide, by decide⟩ (by decide +kernel), List.forall_mem_cons.mpr ⟨cb_csV B ok_X10_bad wd_X10_bad (cb_tw (i := 1507) (by decide +kernel)) (cb_tw (i := 1509) (by decide +kernel)) (cb_tp (i := 45) (by decide +kernel)) rc_X10_bad ⟨by decide, by decide⟩ (by decide +kernel), List.forall_mem_cons.mpr ⟨cb_csS B ok_X10_in wd_X10_in (cb_tw (i := 1504) (by decide +kernel)) (cb_tw (i := 1505) (by decide +kernel)) ⟨by decide, by decide⟩ (by decide +kernel), List.forall_mem_cons.mpr ⟨cb_csV B ok_X10_begins wd_X10_begins (cb_tw (i := 1585) (by decide +kernel)) (cb_tw (i := 1587) (by decide +kernel)) (cb_tp (i := 59) (by decide +kernel)) rc_X10_begins ⟨by decide, by decide⟩ (by decide +kernel), List.forall_mem_cons.mpr ⟨cb_csV B ok_X10_runs wd_X10_runs (cb_tw (i := 1589) (by decide +kernel)) (cb_tw (i := 1591) (by decide +kernel)) (cb_tp (i := 60) (by decide +kernel)) rc_X10_runs ⟨by decide, by decide⟩ (by decide +kernel), List.forall_mem_cons.mpr ⟨cb_csV B ok_X10_isStopped wd_X10_isStopped (cb_tw (i := 1593) (by decide +kernel)) (cb_tw (i := 1595) (by decide +kernel)) (cb_tp (i := 61) (by decide +kernel)) rc_X10_isStopped ⟨by decide, by decide⟩ (by decide +kernel), fun _ h => nomatch h⟩⟩⟩⟩⟩⟩
theorem ok_X10_clock : cb_MOK cb_tb yX10_clock md_X10_clock pt_X10_clock := by
  refine cb_okm ⟨plainFor_of_name (by decide), rfl⟩ (by decide) cs_X10_clock (by decide) (fun X n0 f i r M hr ha h => ?_)
  have h0 := cb_a1 (T := 46) rfl ha
  subst h0
  match r, hr, h with
  | [.inl x, .inl z], hr, h =>
    obtain ⟨n, hh, nb, hI, h⟩ := h
    obtain ⟨hG, -, hp, -, -, ⟨d, hd, hday⟩, hu, hw, hpr⟩ := id hI
    obtain ⟨hn1, hn8, -⟩ := id hG
    refine cb_run cb_tb_ok vd_X10_clock (cuts := []) 90 ?_
    refine And.intro (cb_on rfl) ⟨n, ⟨hn1, hn8⟩, cb_ifnz (fun q => And.intro (cb_on rfl) (bad_f rfl (by decide) (nz_f ?_))) (fun q => And.intro (cb_on rfl) (bad_t rfl (by decide) (nz_t (And.intro trivial (h.1 (mi_c_f (by omega) q) _ (mx2 M 1) rfl)))))⟩
    obtain ⟨i, hi, hx⟩ := wg_yes (by omega) ((mi_c_iff (by omega)).mp q)
    have h := h.2 i hi hx
    refine cb_ifnz (fun q => And.intro (cb_on rfl) (bad_f rfl (by decide) (ez_f ?_))) (fun q => And.intro (cb_on rfl) (bad_t rfl (by decide) (ez_t (And.intro trivial (h.1 (mi_in_f q) _ (mx2 M 2) rfl)))))
    obtain ⟨k, k1, k2, ke⟩ := mi_in_yes (lo := 0) (hi := 8) (by decide) (by decide) q
    have h := h.2 k k1 k2 ke
    have hx8 : vp_in x 8 := by rw [hx]; exact cb_in8 hi hn8 (by decide)
    have hxc : x.toNatClampNeg = i := by rw [hx]; exact nI_clamp (by omega)
    refine And.intro (cb_on rfl) ⟨n, ⟨hn1, hn8⟩, fun M1 hF1 hs1 _ => ?_⟩
    have hX1 := (mx1 M).trans (hF1.mono fr_n_X)
    have hI1 := mi_I_X hX1 hI
    have h := h M1 hX1 (hF1.1 46 0 0 rfl)
    have hs1 : mk_s M1 n = mk_b M n := hs1
    have hday1 : cb_gI M1 46 0 42 = nI d := by
      have : (mk_s M1 n).1 = (mk_b M n).1 := by rw [hs1]
      exact this.trans hday
    have hk : ∀ j, j < 10 → (z = nI j ↔ k = j) := fun j hj => by rw [ke]; exact nI_eq (by omega) (by omega)
    unfold vq_clock at h
    have hf : ∀ t, (∀ j, fr_X t j = false) → cb_gI M1 t 0 = cb_gI M t 0 := fun t ht => hX1.fn t 0 ht
    refine And.intro (fun q => ?_) (fun q0 => And.intro (fun q => ?_) (fun q1 => And.intro (fun q => ?_) (fun q2 => And.intro (fun q => ?_) (fun q3 => And.intro (fun q => ?_) (fun q4 => And.intro (fun q => ?_) (fun q5 => And.intro (fun q => ?_) (fun q6 => And.intro (fun q => ?_) (fun q7 => ?_))))))))
    · have e := (hk 0 (by decide)).mp q
      rw [if_pos e] at h
      refine And.intro hx8 (And.intro trivial (cb_eqK h ?_))
      rw [hxc, hf 64 (fun _ => rfl)]
      exact (wn_tr_lt hi).symm
    · have e := (hk 1 (by decide)).mp q
      rw [if_neg (by omega), if_pos e] at h
      refine And.intro hx8 (And.intro trivial (cb_eqK h ?_))
      rw [hxc, hf 65 (fun _ => rfl)]
      exact (wn_tr_lt hi).symm
    · have e := (hk 2 (by decide)).mp q
      rw [if_neg (by omega), if_neg (by omega), if_pos e] at h
      refine And.intro hx8 (And.intro trivial (cb_eqK h ?_))
      rw [hxc, hf 66 (fun _ => rfl)]
      exact (wn_tr_lt hi).symm
    · have e := (hk 3 (by decide)).mp q
      rw [if_neg (by omega), if_neg (by omega), if_neg (by omega), if_pos e] at h
      refine And.intro hx8 (And.intro trivial (cb_eqK h ?_))
      rw [hxc, hf 67 (fun _ => rfl)]
      exact (wn_tr_lt hi).symm
    · have e := (hk 4 (by decide)).mp q
      rw [if_neg (by omega), if_neg (by omega), if_neg (by omega), if_neg (by omega), if_pos e] at h
      refine And.intro hx8 (And.intro trivial (cb_eqK h ?_))
      rw [hxc, hf 68 (fun _ => rfl)]
      exact (wn_tr_lt hi).symm
    · have e := (hk 5 (by decide)).mp q
      rw [if_neg (by omega), if_neg (by omega), if_neg (by omega), if_neg (by omega), if_neg (by omega), if_pos e] at h
      refine And.intro hx8 (And.intro trivial (cb_eqK h ?_))
      rw [hxc, hf 69 (fun _ => rfl)]
      exact (wn_tr_lt hi).symm
    · have e := (hk 6 (by decide)).mp q
      rw [if_neg (by omega), if_neg (by omega), if_neg (by omega), if_neg (by omega), if_neg (by omega), if_neg (by omega), if_pos e] at h
      refine And.intro hx8 (And.intro trivial (cb_eqK h ?_))
      rw [hxc, hf 70 (fun _ => rfl)]
      exact (wn_tr_lt hi).symm
    · have e := (hk 7 (by decide)).mp q
      rw [if_neg (by omega), if_neg (by omega), if_neg (by omega), if_neg (by omega), if_neg (by omega), if_neg (by omega), if_neg (by omega), if_pos e] at h
      have ed : cb_gI M1 46 0 33 = nI d := (hX1.1 46 0 33 rfl).trans hday
      have e9 : (decide (¬ cb_gI M1 46 0 45 = 0) || decide (cb_rem (cb_gI M1 46 0 33) (cb_gI M1 55 0 i) < 8)) = decide ((mv M n hh nb).ky i ≤ 8 ∨ cb_rem (mv M n hh nb).s.1 ((mv M n hh nb).ky i) < 8) := by
        obtain ⟨kk, k1', k2', ek⟩ := (hG.2.2 i hi).2.2.2
        rw [hI1.2.2.2.2.2.2.2.2, ed, hX1.1 55 0 i rfl, show (mv M n hh nb).ky i = cb_gI M 55 0 i from wn_tr_lt hi, show (mv M n hh nb).s.1 = nI d from hday, ek]
        rw [show decide (¬ (0 : Int32) = 0) = false by decide, Bool.false_or]
        exact (decide_eq_decide.mpr (mk_rem (by omega) k1' k2')).symm
      rw [← e9] at h
      refine And.intro (cb_on rfl) ⟨i, ⟨hx, by omega, mk_k0 hI1.1 hi⟩, cb_ifz (fun q => ?_) (fun q => ?_)⟩
      · rw [q] at h
        exact And.intro trivial h
      · rw [q] at h
        exact And.intro trivial h
    · have n7 : ¬ k = 7 := fun w => q7 ((hk 7 (by decide)).mpr w)
      have n6 : ¬ k = 6 := fun w => q6 ((hk 6 (by decide)).mpr w)
      have n5 : ¬ k = 5 := fun w => q5 ((hk 5 (by decide)).mpr w)
      have n4 : ¬ k = 4 := fun w => q4 ((hk 4 (by decide)).mpr w)
      have n3 : ¬ k = 3 := fun w => q3 ((hk 3 (by decide)).mpr w)
      have n2 : ¬ k = 2 := fun w => q2 ((hk 2 (by decide)).mpr w)
      have n1 : ¬ k = 1 := fun w => q1 ((hk 1 (by decide)).mpr w)
      have n0' : ¬ k = 0 := fun w => q0 ((hk 0 (by decide)).mpr w)
      rw [if_neg n0', if_neg n1, if_neg n2, if_neg n3, if_neg n4, if_neg n5, if_neg n6, if_neg n7] at h
      refine And.intro (cb_on rfl) ⟨n, i, d, ⟨hI1.1, hx, hi, hday1, by omega⟩, ?_⟩
      have e9 : wn_stp (mk_c M1 n) (mk_u M1 n) (mk_s M1 n).1 (mk_s M1 n).2.1 i = wn_stp (vc (mv M n hh nb)) (wu_all (mv M n hh nb).n) (mv M n hh nb).s.1 (mv M n hh nb).s.2.1 i := by
        rw [mk_c_X hX1, mv_c hI, mu_all hn8 hI1.2.2.2.2.2.2.1 hI1.2.2.2.2.2.2.2.2, hs1]
        rfl
      rw [e9]
      refine cb_ifz (fun q => ?_) (fun q => ?_)
      · rw [q] at h
        exact And.intro trivial h
      · rw [q] at h
        exact And.intro trivial h
theorem mi_ask {what : Int32} (h : ¬ (what < 0 ∨ 2 < what)) : 2 - what = wm_ask what := by
  obtain ⟨k, -, hk, e⟩ := wg_r_yes (lo := 0) (hi := 2) (by decide) h (by decide)
  have : ∀ k, k ≤ 2 → 2 - nI k = wm_ask (nI k) := by decide
  rw [e]
  exact this k hk
def sp_X10_beginnings : cb_Sp := fun _ r M K => match r with
  | [.inl x, .inl y, .inl N, .inl what] => ∃ n h nb, mi_I M n h nb ∧ wg_p n x y (mT 1 M K) (mT 2 M K) fun i j => wg_r 1 100 N (mT 2 M K) fun k => wg_i 0 2 what (mT 2 M K) (mR (vq_beg (mv M n h nb) i j k (wm_ask what)) M K)
  | _ => False
def pt_X10_beginnings : cb_PT := cb_m 46 4 sp_X10_beginnings
theorem rc_X10_beginnings : cb_rc cb_tb RX10 pt_X10_beginnings := cb_m_rc rfl rfl
def md_X10_beginnings : cb_D := (RX10, cX10_beginnings, 8, (some .int), (0, 0, 6, 134), [
  (0, .aload_n 0, 1, 0, 0, 0, 0),
  (1, .iconst 0, 1, 0, 0, 0, 0),
  (2, .putfield 126, 3, 0, 10, 0, 1328),
  (5, .aload_n 0, 1, 0, 0, 0, 0),
  (6, .iload_n 1, 1, 0, 1, 0, 0),
  (7, .iload_n 2, 1, 0, 2, 0, 0),
  (8, .invokevirtual 270, 3, 0, 0, 0, 0),
  (11, .ifCond .ne 33, 3, 0, 44, 0, 0),
  (14, .aload_n 0, 1, 0, 0, 0, 0),
  (15, .iload_n 3, 1, 0, 3, 0, 0),
  (16, .invokestatic 295, 3, 0, 1, 0, 0),
  (19, .ifCond .eq 13, 3, 0, 32, 0, 0),
  (22, .iload 4, 2, 0, 4, 0, 0),
  (24, .iconst 0, 1, 0, 0, 0, 0),
  (25, .iconst 2, 1, 2, 0, 0, 0),
  (26, .invokestatic 160, 3, 0, 2, 0, 0),
  (29, .ifCond .ne 7, 3, 0, 36, 0, 0),
  (32, .iconst 1, 1, 1, 0, 0, 0),
  (33, .goto 4, 3, 0, 37, 0, 0),
  (36, .iconst 0, 1, 0, 0, 0, 0),
  (37, .iconst 2, 1, 2, 0, 0, 0),
  (38, .invokevirtual 200, 3, 0, 3, 0, 0),
  (41, .ifCond .eq 5, 3, 0, 46, 0, 0),
  (44, .iconst 0, 1, 0, 0, 0, 0),
  (45, .ireturn, 1, 0, 0, 0, 0),
  (46, .iconst 0, 1, 0, 0, 0, 0),
  (47, .istore 5, 2, 0, 5, 0, 0),
  (49, .aload_n 0, 1, 0, 0, 0, 0),
  (50, .getfield 70, 3, 0, 10, 26, 1354),
  (53, .iload_n 1, 1, 0, 1, 0, 0),
  (54, .iaload, 1, 0, 0, 0, 0),
  (55, .istore 6, 2, 0, 6, 0, 0),
  (57, .iconst 0, 1, 0, 0, 0, 0),
  (58, .istore 7, 2, 0, 7, 0, 0),
  (60, .iload 7, 2, 0, 7, 0, 0),
  (62, .sipush 1000, 3, 1000, 0, 0, 0),
  (65, .if_icmp .ge 54, 3, 0, 119, 0, 0),
  (68, .aload_n 0, 1, 0, 0, 0, 0),
  (69, .getfield 70, 3, 0, 10, 26, 1354),
  (72, .iload_n 1, 1, 0, 1, 0, 0),
  (73, .iload 7, 2, 0, 7, 0, 0),
  (75, .iastore, 1, 0, 0, 0, 0),
  (76, .aload_n 0, 1, 0, 0, 0, 0),
  (77, .iload_n 3, 1, 0, 3, 0, 0),
  (78, .invokevirtual 276, 3, 0, 4, 0, 0),
  (81, .iload 5, 2, 0, 5, 0, 0),
  (83, .aload_n 0, 1, 0, 0, 0, 0),
  (84, .getfield 94, 3, 0, 10, 37, 1365),
  (87, .iload_n 1, 1, 0, 1, 0, 0),
  (88, .iaload, 1, 0, 0, 0, 0),
  (89, .aload_n 0, 1, 0, 0, 0, 0),
  (90, .getfield 94, 3, 0, 10, 37, 1365),
  (93, .iload_n 2, 1, 0, 2, 0, 0),
  (94, .iaload, 1, 0, 0, 0, 0),
  (95, .invokestatic 280, 3, 0, 5, 0, 0),
  (98, .iconst 2, 1, 2, 0, 0, 0),
  (99, .iload 4, 2, 0, 4, 0, 0),
  (101, .isub, 1, 0, 0, 0, 0),
  (102, .if_icmp .ne 7, 3, 0, 109, 0, 0),
  (105, .iconst 1, 1, 1, 0, 0, 0),
  (106, .goto 4, 3, 0, 110, 0, 0),
  (109, .iconst 0, 1, 0, 0, 0, 0),
  (110, .iadd, 1, 0, 0, 0, 0),
  (111, .istore 5, 2, 0, 5, 0, 0),
  (113, .iinc 7 50, 3, 50, 7, 0, 0),
  (116, .goto (-56), 3, 0, 60, 0, 0),
  (119, .aload_n 0, 1, 0, 0, 0, 0),
  (120, .getfield 70, 3, 0, 10, 26, 1354),
  (123, .iload_n 1, 1, 0, 1, 0, 0),
  (124, .iload 6, 2, 0, 6, 0, 0),
  (126, .iastore, 1, 0, 0, 0, 0),
  (127, .iload 5, 2, 0, 5, 0, 0),
  (129, .ireturn, 1, 0, 0, 0, 0)],
  [(0, 270, 3, 0, 0, pt_X10_badPair), (1, 295, 1, 0, 0, pt_X10_areDays), (1, 160, 3, 0, 0, pt_X10_in), (0, 200, 3, 0, 0, pt_X10_bad), (0, 276, 2, 0, 0, pt_X10_goesOn), (1, 280, 2, 0, 0, pt_X10_stepBy)], [])
set_option maxRecDepth 100000 in
theorem vd_X10_beginnings : md_X10_beginnings.cd.all (cb_vE md_X10_beginnings) = true := by decide +kernel
theorem wd_X10_beginnings : cb_wd yX10_beginnings md_X10_beginnings := ⟨cb_tw (i := 1736) (by decide +kernel), cb_tw (i := 11) (by decide +kernel), by decide, by decide⟩
theorem cs_X10_beginnings : ∀ X, cb_Bs md_X10_beginnings X → ∀ g ∈ md_X10_beginnings.ga, cb_CS cb_tb md_X10_beginnings X g := fun X B => List.forall_mem_cons.mpr ⟨cb_csV B ok_X10_badPair wd_X10_badPair (cb_tw (i := 1605) (by decide +kernel)) (cb_tw (i := 1607) (by decide +kernel)) (cb_tp (i := 63) (by decide +kernel)) rc_X10_badPair ⟨by decide, by decide⟩ (by decide +kernel), List.forall_mem_cons.mpr ⟨cb_csS B ok_X10_areDays wd_X10_areDays (cb_tw (i := 1702) (by decide +kernel)) (cb_tw (i := 1703) (by decide +kernel)) ⟨by decide, by decide⟩ (by decide +kernel), List.forall_mem_cons.mpr ⟨cb_csS B ok_X10_in wd_X10_in (cb_tw (i := 1504) (by decide +kernel)) (cb_tw (i := 1505) (by decide +kernel)) ⟨by decide, by decide⟩ (by decide +kernel), List.forall_mem_cons.mpr ⟨cb_csV B ok_X10_bad wd_X10_bad (cb_tw (i := 1507) (by decide +kernel)) (cb_tw (i := 1509) (by decide +kernel)) (cb_tp (i := 45) (by decide +kernel)) rc_X10_bad ⟨by decide, by decide⟩ (by decide +kernel), List.forall_mem_cons.mpr ⟨cb_csV B ok_X10_goesOn wd_X10_goesOn (cb_tw (i := 1646) (by decide +kernel)) (cb_tw (i := 1648) (by decide +kernel)) (cb_tp (i := 68) (by decide +kernel)) rc_X10_goesOn ⟨by decide, by decide⟩ (by decide +kernel), List.forall_mem_cons.mpr ⟨cb_csS B ok_X10_stepBy wd_X10_stepBy (cb_tw (i := 1667) (by decide +kernel)) (cb_tw (i := 1668) (by decide +kernel)) ⟨by decide, by decide⟩ (by decide +kernel), fun _ h => nomatch h⟩⟩⟩⟩⟩⟩
theorem ok_X10_beginnings : cb_MOK cb_tb yX10_beginnings md_X10_beginnings pt_X10_beginnings := by
  refine cb_okm ⟨plainFor_of_name (by decide), rfl⟩ (by decide) cs_X10_beginnings (by decide) (fun X n0 f i r M hr ha h => ?_)
  have h0 := cb_a1 (T := 46) rfl ha
  subst h0
  match r, hr, h with
  | [.inl x, .inl y, .inl N, .inl what], hr, h =>
    obtain ⟨n, hh, nb, hI, h⟩ := h
    obtain ⟨hn1, hn8, -⟩ := id hI.1
    refine cb_run cb_tb_ok vd_X10_beginnings (cuts := [60]) 90 ?_
    refine And.intro (cb_on rfl) ⟨n, ⟨hn1, hn8, rfl⟩, fun w => nz_t (And.intro trivial (wg_p0 h w _ (mx2 M 1) rfl)), fun i hi hx j hj hy => ⟨fun e => nz_t (And.intro trivial (((h.2 i hi hx).2 j hj hy).1 e _ (mx2 M 2) rfl)), fun hij => nz_f ?_⟩⟩
    have h := ((h.2 i hi hx).2 j hj hy).2 hij
    refine And.intro trivial (cb_ifz (fun q => And.intro (cb_on rfl) (bad_t rfl (by decide) (ez_t (And.intro trivial (h.1 (mi_in_f q) _ (mx2 M 2) rfl))))) (fun q => ?_))
    obtain ⟨k, k1, k2, ke⟩ := mi_in_yes (lo := 1) (hi := 100) (by decide) (by decide) q
    have h := h.2 k k1 k2 ke
    refine cb_ifnz (fun q => And.intro (cb_on rfl) (bad_f rfl (by decide) (ez_f ?_))) (fun q => And.intro (cb_on rfl) (bad_t rfl (by decide) (ez_t (And.intro trivial (h.1 (mi_in_f q) _ (mx2 M 2) rfl)))))
    have h := h.2 (mi_in_t q)
    have hask := mi_ask (mi_in_t q)
    have hx8 : vp_in x 8 := by rw [hx]; exact cb_in8 hi hn8 (by decide)
    have hxc : x.toNatClampNeg = i := by rw [hx]; exact nI_clamp (by omega)
    have hy8 : vp_in y 8 := by rw [hy]; exact cb_in8 hj hn8 (by decide)
    have hyc : y.toNatClampNeg = j := by rw [hy]; exact nI_clamp (by omega)
    obtain ⟨V, hV⟩ : ∃ V, V = mv M n hh nb := ⟨_, rfl⟩
    rw [← hV] at h
    have loop : ∀ d, d ≤ 20 → ∀ (z s : Int32) (M2 : cb_M) (v : Int32), z = nI (50 * d) → s = wm_sum (fun d => if wm_beat (wm_ap ((vq_pon V i (nI (50 * d)) k).2.1 i) ((vq_pon V i (nI (50 * d)) k).2.1 j)) = wm_ask what then 1 else 0) d → cb_fr fr_X (cb_sI M 69 0 i v) M2 → cb_gI M2 46 0 0 = 0 → cb_Gd cb_tb md_X10_beginnings X 60 [some (cb_r 46 0), some (cb_i (x)), some (cb_i (y)), some (cb_i (N)), some (cb_i (what)), some (cb_i (s)), some (cb_i (cb_gI M 69 0 i)), some (cb_i (z))] [] (cb_aS n0, f) M2 0 0 := by
      refine cb_up (fun d => ∀ (z s : Int32) (M2 : cb_M) (v : Int32), z = nI (50 * d) → s = wm_sum (fun d => if wm_beat (wm_ap ((vq_pon V i (nI (50 * d)) k).2.1 i) ((vq_pon V i (nI (50 * d)) k).2.1 j)) = wm_ask what then 1 else 0) d → cb_fr fr_X (cb_sI M 69 0 i v) M2 → cb_gI M2 46 0 0 = 0 → cb_Gd cb_tb md_X10_beginnings X 60 [some (cb_r 46 0), some (cb_i (x)), some (cb_i (y)), some (cb_i (N)), some (cb_i (what)), some (cb_i (s)), some (cb_i (cb_gI M 69 0 i)), some (cb_i (z))] [] (cb_aS n0, f) M2 0 0) ?_ ?_
      · intro z s M2 v hz hs hF h0
        refine cb_run cb_tb_ok vd_X10_beginnings (cuts := [60]) 90 ?_
        refine cb_lout (N := 1000) hz rfl (And.intro hx8 (And.intro trivial (cb_eqK (v := s) (h (cb_sI M2 69 0 i (cb_gI M 69 0 i)) (cb_fr.tmp hF rfl) h0) hs) |> fun t => ?_))
        rw [hxc]
        exact t
      · intro d hd ih z s M2 v hz hs hF h0
        subst hz
        obtain ⟨-, p50⟩ := wm_fmod_50 d hd
        refine cb_run cb_tb_ok vd_X10_beginnings (cuts := [60]) 90 ?_
        refine cb_lin (N := 1000) (n := 1000) rfl rfl (by omega) (by decide) (And.intro hx8 (And.intro (cb_on rfl) ?_))
        show sp_X10_goesOn 0 [.inl N] (cb_sI M2 69 0 x.toNatClampNeg (nI (50 * d))) _
        rw [hxc]
        refine mg_pon hI (hF.re (nI (50 * d))) p50 hi ke (by omega) (fun M3 hF3 hP3 hs3 => And.intro hx8 (And.intro hy8 (And.intro ?_ ?_)))
        · rw [hxc, hyc]
          exact ⟨hP3 i hi, hP3 j hj⟩
        · have eb : wm_beat (wm_ap (cb_gI M3 80 0 x.toNatClampNeg) (cb_gI M3 80 0 y.toNatClampNeg)) = wm_beat (wm_ap ((vq_pon V i (nI (50 * d)) k).2.1 i) ((vq_pon V i (nI (50 * d)) k).2.1 j)) := by
            rw [hxc, hyc, hV, ← hs3, show (mk_s M3 n).2.1 i = cb_gI M3 80 0 i from wn_tr_lt hi, show (mk_s M3 n).2.1 j = cb_gI M3 80 0 j from wn_tr_lt hj]
          have nx := fun s' hs' => ih (nI (50 * d) + 50) s' M3 (nI (50 * d)) (by rw [show (50 : Int32) = nI 50 from rfl, nI_add]; rfl) hs' ((hF.re (nI (50 * d))).trans (hF3.mono fr_n_X)) ((hF3.1 46 0 0 rfl).trans h0)
          show (¬ wm_beat (wm_ap (cb_gI M3 80 0 x.toNatClampNeg) (cb_gI M3 80 0 y.toNatClampNeg)) = 2 - what → _) ∧ (¬ ¬ wm_beat (wm_ap (cb_gI M3 80 0 x.toNatClampNeg) (cb_gI M3 80 0 y.toNatClampNeg)) = 2 - what → _)
          rw [eb, hask]
          refine cb_ifne (fun q => nx _ ?_) (fun q => nx _ ?_)
          · rw [wm_sum, if_neg q, ← hs]
          · rw [wm_sum, if_pos q, ← hs]
    refine And.intro hx8 ?_
    show cb_Gd cb_tb md_X10_beginnings X 60 [some (cb_r 46 0), some (cb_i (x)), some (cb_i (y)), some (cb_i (N)), some (cb_i (what)), some (cb_i (0)), some (cb_i (cb_gI M 69 0 x.toNatClampNeg)), some (cb_i (0))] [] (cb_aS n0, f) (cb_sI M 46 0 0 0) 0 0
    rw [hxc]
    refine loop 0 (Nat.zero_le _) _ _ _ (cb_gI M 69 0 i) rfl rfl ?_ rfl
    rw [cb_sI_self]
    exact mx1 M
