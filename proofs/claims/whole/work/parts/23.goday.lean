/-! ===== goDay, goDays, goWinter ===== -/
theorem cb_upd_no {g : Nat → Bool} {A B f : wm_F} {j : Nat} (h : ∀ i, f i = if i < j ∧ g i = true then A i else B i) (q : g j = false) : ∀ i, f i = if i < j + 1 ∧ g i = true then A i else B i := by
  intro i
  rw [h i]
  by_cases e : i = j
  · subst e
    rw [if_neg (fun w => absurd w.1 (by omega)), if_neg (fun w => by rw [q] at w; cases w.2)]
  · have : (i < j + 1) = (i < j) := propext ⟨fun q => by omega, fun q => by omega⟩
    simp only [this]
theorem cb_upd_yes {g : Nat → Bool} {A B f f' : wm_F} {j : Nat} (h : ∀ i, f i = if i < j ∧ g i = true then A i else B i) (q : g j = true) (h1 : f' j = A j) (h2 : ∀ i, ¬ i = j → f' i = f i) : ∀ i, f' i = if i < j + 1 ∧ g i = true then A i else B i := by
  intro i
  by_cases e : i = j
  · subst e
    rw [h1, if_pos ⟨by omega, q⟩]
  · have : (i < j + 1) = (i < j) := propext ⟨fun q => by omega, fun q => by omega⟩
    rw [h2 i e, h i]
    simp only [this]
theorem wn_day_1 {c : wn_C} {u : wm_U} {damp : Int32} {s : wm_S} {i : Nat} (hi : i < c.n) (hg : wn_go c u s.1 s.2.1 i = true) : (wn_day c u damp s).2.1 i = wm_fmod (s.2.1 i + wn_by c u damp s.1 s.2.1 i) 1000 ∧ (wn_day c u damp s).2.2 i = s.2.2 i + wn_by c u damp s.1 s.2.1 i := ⟨if_pos ⟨hi, hg⟩, if_pos ⟨hi, hg⟩⟩
theorem wn_day_0 {c : wn_C} {u : wm_U} {damp : Int32} {s : wm_S} {i : Nat} (h : ¬ (i < c.n ∧ wn_go c u s.1 s.2.1 i = true)) : (wn_day c u damp s).2.1 i = s.2.1 i ∧ (wn_day c u damp s).2.2 i = s.2.2 i := ⟨if_neg h, if_neg h⟩
def sp_pullBy : cb_Sp := fun _ r M K => match r with
  | [.inl x] => ∃ P, (cb_gR M 25 0 0 = some P ∧ P < 2 ∧ vp_in x 8 ∧ 1 ≤ 100 * cb_gI M 8 P x.toNatClampNeg) ∧ K (some (cb_i (wn_cut (cb_gI M 32 0 x.toNatClampNeg) (cb_gI M 8 P x.toNatClampNeg)))) M
  | _ => False
def pt_X7_pullBy : cb_PT := cb_m 25 1 sp_pullBy
theorem rc_X7_pullBy : cb_rc cb_tb RX7 pt_X7_pullBy := cb_m_rc rfl rfl
def md_X7_pullBy : cb_D := (RX7, cX7_pullBy, 3, (some .int), (0, 0, 1, 21), [
  (0, .bipush 100, 2, 100, 0, 0, 0),
  (2, .aload_n 0, 1, 0, 0, 0, 0),
  (3, .getfield 62, 3, 0, 7, 0, 218),
  (6, .getfield 123, 3, 0, 4, 9, 104),
  (9, .iload_n 1, 1, 0, 1, 0, 0),
  (10, .iaload, 1, 0, 0, 0, 0),
  (11, .imul, 1, 0, 0, 0, 0),
  (12, .istore_n 2, 1, 0, 2, 0, 0),
  (13, .iload_n 2, 1, 0, 2, 0, 0),
  (14, .iconst 1, 1, 1, 0, 0, 0),
  (15, .if_icmp .ge 5, 3, 0, 20, 0, 0),
  (18, .iconst 0, 1, 0, 0, 0, 0),
  (19, .ireturn, 1, 0, 0, 0, 0),
  (20, .sipush (-200), 3, (-200), 0, 0, 0),
  (23, .sipush 200, 3, 200, 0, 0, 0),
  (26, .aload_n 0, 1, 0, 0, 0, 0),
  (27, .getfield 44, 3, 0, 7, 12, 250),
  (30, .iload_n 1, 1, 0, 1, 0, 0),
  (31, .iaload, 1, 0, 0, 0, 0),
  (32, .iload_n 2, 1, 0, 2, 0, 0),
  (33, .idiv, 1, 0, 0, 0, 0),
  (34, .invokestatic 168, 3, 0, 0, 0, 0),
  (37, .invokestatic 171, 3, 0, 1, 0, 0),
  (40, .ireturn, 1, 0, 0, 0, 0)],
  [(1, 168, 2, 0, 0, pt_J9_min_7cf53), (1, 171, 2, 0, 0, pt_J9_max_7cf53)], [])
set_option maxRecDepth 100000 in
theorem vd_X7_pullBy : md_X7_pullBy.cd.all (cb_vE md_X7_pullBy) = true := by decide +kernel
theorem wd_X7_pullBy : cb_wd yX7_pullBy md_X7_pullBy := ⟨cb_tw (i := 874) (by decide +kernel), cb_tw (i := 5) (by decide +kernel), by decide, by decide⟩
theorem cs_X7_pullBy : ∀ X, cb_Bs md_X7_pullBy X → ∀ g ∈ md_X7_pullBy.ga, cb_CS cb_tb md_X7_pullBy X g := fun X B => List.forall_mem_cons.mpr ⟨cb_csS B ok_J9_min_7cf53 wd_J9_min_7cf53 (cb_tw (i := 875) (by decide +kernel)) (cb_tw (i := 485) (by decide +kernel)) ⟨by decide, by decide⟩ (by decide +kernel), List.forall_mem_cons.mpr ⟨cb_csS B ok_J9_max_7cf53 wd_J9_max_7cf53 (cb_tw (i := 876) (by decide +kernel)) (cb_tw (i := 877) (by decide +kernel)) ⟨by decide, by decide⟩ (by decide +kernel), fun _ h => nomatch h⟩⟩
theorem ok_X7_pullBy : cb_MOK cb_tb yX7_pullBy md_X7_pullBy pt_X7_pullBy := by
  refine cb_okm ⟨plainFor_of_name (by decide), rfl⟩ (by decide) cs_X7_pullBy (by decide) (fun X n0 f i r M hr ha h => ?_)
  have h0 := cb_a1 (T := 25) rfl ha
  subst h0
  match r, hr, h with
  | [.inl x], hr, h =>
    obtain ⟨P, ⟨hP, hP2, hx, hw⟩, h⟩ := h
    refine cb_run cb_tb_ok vd_X7_pullBy (cuts := []) 40 ?_
    refine Exists.intro (some P) (And.intro hP (cb_av.of (cb_aPP hP2 rfl) (cb_av.of (cb_aPP hP2 rfl) (And.intro hx (And.intro (fun _ => ?_) (fun q => absurd hw q))))))
    refine And.intro hx (And.intro (fun q => ?_) (And.intro trivial (And.intro trivial (And.intro trivial (cb_eqK h rfl)))))
    rw [show 100 * cb_gI M 8 P x.toNatClampNeg = 0 from q] at hw
    exact absurd hw (by decide)
def sp_goDay : cb_Sp := fun _ r M K => match r with
  | [.inl damp] => ∃ P n m, (wk_R M P n m ∧ wk_Ph M n) ∧ ∀ M', cb_fr fr_t M M' → wt_s M' n = wn_day (wt_c M P n) (wt_u M n) damp (wt_s M n) → K none M'
  | _ => False
def pt_X7_goDay : cb_PT := cb_m 25 1 sp_goDay
theorem rc_X7_goDay : cb_rc cb_tb RX7 pt_X7_goDay := cb_m_rc rfl rfl
def md_X7_goDay : cb_D := (RX7, cX7_goDay, 5, none, (0, 0, 3, 65), [
  (0, .aload_n 0, 1, 0, 0, 0, 0),
  (1, .aload_n 0, 1, 0, 0, 0, 0),
  (2, .invokevirtual 137, 3, 0, 0, 0, 0),
  (5, .invokevirtual 143, 3, 0, 1, 0, 0),
  (8, .istore_n 2, 1, 0, 2, 0, 0),
  (9, .aload_n 0, 1, 0, 0, 0, 0),
  (10, .iload_n 2, 1, 0, 2, 0, 0),
  (11, .invokevirtual 146, 3, 0, 2, 0, 0),
  (14, .iconst 0, 1, 0, 0, 0, 0),
  (15, .istore_n 3, 1, 0, 3, 0, 0),
  (16, .iload_n 3, 1, 0, 3, 0, 0),
  (17, .aload_n 0, 1, 0, 0, 0, 0),
  (18, .getfield 9, 3, 0, 7, 2, 226),
  (21, .if_icmp .ge 59, 3, 0, 80, 0, 0),
  (24, .iload_n 2, 1, 0, 2, 0, 0),
  (25, .iload_n 3, 1, 0, 3, 0, 0),
  (26, .invokestatic 107, 3, 0, 3, 0, 0),
  (29, .iconst 1, 1, 1, 0, 0, 0),
  (30, .if_icmp .ne 44, 3, 0, 74, 0, 0),
  (33, .aload_n 0, 1, 0, 0, 0, 0),
  (34, .getfield 18, 3, 0, 7, 4, 234),
  (37, .iload_n 3, 1, 0, 3, 0, 0),
  (38, .iaload, 1, 0, 0, 0, 0),
  (39, .iload_n 1, 1, 0, 1, 0, 0),
  (40, .isub, 1, 0, 0, 0, 0),
  (41, .aload_n 0, 1, 0, 0, 0, 0),
  (42, .iload_n 3, 1, 0, 3, 0, 0),
  (43, .invokevirtual 153, 3, 0, 4, 0, 0),
  (46, .iadd, 1, 0, 0, 0, 0),
  (47, .istore 4, 2, 0, 4, 0, 0),
  (49, .aload_n 0, 1, 0, 0, 0, 0),
  (50, .getfield 25, 3, 0, 7, 6, 239),
  (53, .iload_n 3, 1, 0, 3, 0, 0),
  (54, .dup2, 1, 0, 0, 0, 0),
  (55, .iaload, 1, 0, 0, 0, 0),
  (56, .iload 4, 2, 0, 4, 0, 0),
  (58, .iadd, 1, 0, 0, 0, 0),
  (59, .iastore, 1, 0, 0, 0, 0),
  (60, .aload_n 0, 1, 0, 0, 0, 0),
  (61, .iload_n 3, 1, 0, 3, 0, 0),
  (62, .aload_n 0, 1, 0, 0, 0, 0),
  (63, .getfield 22, 3, 0, 7, 5, 236),
  (66, .iload_n 3, 1, 0, 3, 0, 0),
  (67, .iaload, 1, 0, 0, 0, 0),
  (68, .iload 4, 2, 0, 4, 0, 0),
  (70, .iadd, 1, 0, 0, 0, 0),
  (71, .invokevirtual 181, 3, 0, 5, 0, 0),
  (74, .iinc 3 1, 3, 1, 3, 0, 0),
  (77, .goto (-61), 3, 0, 16, 0, 0),
  (80, .aload_n 0, 1, 0, 0, 0, 0),
  (81, .dup, 1, 0, 0, 0, 0),
  (82, .getfield 15, 3, 0, 7, 3, 231),
  (85, .iconst 1, 1, 1, 0, 0, 0),
  (86, .iadd, 1, 0, 0, 0, 0),
  (87, .putfield 15, 3, 0, 7, 3, 231),
  (90, .return_, 1, 0, 0, 0, 0)],
  [(0, 137, 1, 0, 0, pt_X7_runningOnes), (0, 143, 2, 0, 0, pt_X7_goingAmong), (0, 146, 2, 0, 0, pt_X7_gatherDrives), (1, 107, 2, 0, 0, pt_X9_bitOf), (0, 153, 2, 0, 0, pt_X7_pullBy), (0, 181, 3, 0, 0, pt_X7_setPhase)], [])
set_option maxRecDepth 100000 in
theorem vd_X7_goDay : md_X7_goDay.cd.all (cb_vE md_X7_goDay) = true := by decide +kernel
theorem wd_X7_goDay : cb_wd yX7_goDay md_X7_goDay := ⟨cb_tw (i := 902) (by decide +kernel), cb_tw (i := 5) (by decide +kernel), by decide, by decide⟩
theorem cs_X7_goDay : ∀ X, cb_Bs md_X7_goDay X → ∀ g ∈ md_X7_goDay.ga, cb_CS cb_tb md_X7_goDay X g := fun X B => List.forall_mem_cons.mpr ⟨cb_csV B ok_X7_runningOnes wd_X7_runningOnes (cb_tw (i := 814) (by decide +kernel)) (cb_tw (i := 815) (by decide +kernel)) (cb_tw (i := 816) (by decide +kernel)) rc_X7_runningOnes ⟨by decide, by decide⟩ (by decide +kernel), List.forall_mem_cons.mpr ⟨cb_csV B ok_X7_goingAmong wd_X7_goingAmong (cb_tw (i := 855) (by decide +kernel)) (cb_tw (i := 857) (by decide +kernel)) (cb_tp (i := 25) (by decide +kernel)) rc_X7_goingAmong ⟨by decide, by decide⟩ (by decide +kernel), List.forall_mem_cons.mpr ⟨cb_csV B ok_X7_gatherDrives wd_X7_gatherDrives (cb_tw (i := 859) (by decide +kernel)) (cb_tw (i := 861) (by decide +kernel)) (cb_tp (i := 26) (by decide +kernel)) rc_X7_gatherDrives ⟨by decide, by decide⟩ (by decide +kernel), List.forall_mem_cons.mpr ⟨cb_csN (host := "WallClocks") B ok_X9_bitOf nt_X9_bitOf wd_X9_bitOf (cb_tw (i := 439) (by decide +kernel)) (cb_tw (i := 440) (by decide +kernel)) ⟨by decide, by decide⟩ (by decide +kernel), List.forall_mem_cons.mpr ⟨cb_csV B ok_X7_pullBy wd_X7_pullBy (cb_tw (i := 871) (by decide +kernel)) (cb_tw (i := 873) (by decide +kernel)) (cb_tp (i := 27) (by decide +kernel)) rc_X7_pullBy ⟨by decide, by decide⟩ (by decide +kernel), List.forall_mem_cons.mpr ⟨cb_csV B ok_X7_setPhase wd_X7_setPhase (cb_tw (i := 903) (by decide +kernel)) (cb_tw (i := 904) (by decide +kernel)) (cb_tw (i := 905) (by decide +kernel)) rc_X7_setPhase ⟨by decide, by decide⟩ (by decide +kernel), fun _ h => nomatch h⟩⟩⟩⟩⟩⟩
theorem ok_X7_goDay : cb_MOK cb_tb yX7_goDay md_X7_goDay pt_X7_goDay := by
  refine cb_okm ⟨plainFor_of_name (by decide), rfl⟩ (by decide) cs_X7_goDay (by decide) (fun X n0 f i r M hr ha h => ?_)
  have h0 := cb_a1 (T := 25) rfl ha
  subst h0
  match r, hr, h with
  | [.inl damp], hr, h =>
    obtain ⟨P, n, m, ⟨hR, hph⟩, h⟩ := h
    obtain ⟨hT, hb, hm, hpr, hwt⟩ := hR
    obtain ⟨hP, hP2, hn, hn8⟩ := id hT
    refine cb_run cb_tb_ok vd_X7_goDay (cuts := [16]) 40 ?_
    refine And.intro (cb_on rfl) ⟨P, n, hT, And.intro (cb_on rfl) ⟨P, n, hT, And.intro (cb_on rfl) ⟨m, hm, fun M2 hF2 hD => ?_⟩⟩⟩
    let go : Nat → Bool := fun i => cb_bit (wk_go M P n) i
    let by' : Nat → Int32 := fun i => cb_gI M 26 0 i - damp + wn_cut (cb_gI M2 32 0 i) (cb_gI M 8 P i)
    have loop : ∀ j, j ≤ n → ∀ (x : Int32) (M' : cb_M) (v4 : Option cb_V), x = nI j → cb_fr fr_t M M' → cb_gI M' 32 0 = cb_gI M2 32 0 → cb_gI M' 25 0 3 = cb_gI M 25 0 3 → (∀ i, cb_gI M' 27 0 i = if i < j ∧ go i = true then wm_fmod (cb_gI M 27 0 i + by' i) 1000 else cb_gI M 27 0 i) → (∀ i, cb_gI M' 28 0 i = if i < j ∧ go i = true then cb_gI M 28 0 i + by' i else cb_gI M 28 0 i) → cb_Gd cb_tb md_X7_goDay X 16 [some (cb_r 25 0), some (cb_i damp), some (cb_i (wk_go M P n)), some (cb_i x), v4] [] (cb_aS n0, f) M' 0 0 := by
      refine cb_up (fun j => ∀ (x : Int32) (M' : cb_M) (v4 : Option cb_V), x = nI j → cb_fr fr_t M M' → cb_gI M' 32 0 = cb_gI M2 32 0 → cb_gI M' 25 0 3 = cb_gI M 25 0 3 → (∀ i, cb_gI M' 27 0 i = if i < j ∧ go i = true then wm_fmod (cb_gI M 27 0 i + by' i) 1000 else cb_gI M 27 0 i) → (∀ i, cb_gI M' 28 0 i = if i < j ∧ go i = true then cb_gI M 28 0 i + by' i else cb_gI M 28 0 i) → cb_Gd cb_tb md_X7_goDay X 16 [some (cb_r 25 0), some (cb_i damp), some (cb_i (wk_go M P n)), some (cb_i x), v4] [] (cb_aS n0, f) M' 0 0) ?_ ?_
      · intro x M' v4 hx hF hdr hday h27 h28
        refine cb_run cb_tb_ok vd_X7_goDay (cuts := [16]) 60 ?_
        refine cb_lout hx ((hF.1 25 0 2 rfl).trans hn) (And.intro rfl (h _ (hF.set _ rfl) ?_))
        have hgo : ∀ i, i < n → go i = wn_go (wt_c M P n) (wt_u M n) (wt_s M n).1 (wt_s M n).2.1 i := fun i hi => wt_go hn8 hi hb
        have hby : ∀ i, i < n → go i = true → by' i = wn_by (wt_c M P n) (wt_u M n) damp (wt_s M n).1 (wt_s M n).2.1 i := by
          intro i hi hg
          unfold wn_by wn_pul
          rw [show (wt_c M P n).rt i = cb_gI M 26 0 i from wn_tr_lt hi, show (wt_c M P n).wt i = cb_gI M 8 P i from wn_tr_lt hi, ← wk_drv hn8 hb hpr hph hi hg]
          show cb_gI M 26 0 i - damp + wn_cut (cb_gI M2 32 0 i) _ = _
          rw [hD i (by omega)]
          rfl
        refine Prod.ext ?_ (Prod.ext (funext fun i => ?_) (funext fun i => ?_))
        · show cb_gI M' 25 0 3 + 1 = cb_gI M 25 0 3 + 1
          rw [hday]
        · show wn_tr n (cb_gI M' 27 0) i = (wn_day (wt_c M P n) (wt_u M n) damp (wt_s M n)).2.1 i
          by_cases hi : i < n
          · rw [wn_tr_lt hi, h27 i]
            by_cases hg : go i = true
            · rw [if_pos ⟨hi, hg⟩, (wn_day_1 (c := wt_c M P n) hi ((hgo i hi).symm.trans hg)).1, hby i hi hg, show (wt_s M n).2.1 i = cb_gI M 27 0 i from wn_tr_lt hi]
            · rw [if_neg (fun q => hg q.2), (wn_day_0 (c := wt_c M P n) (fun q => hg ((hgo i hi).trans q.2))).1]
              exact (wn_tr_lt hi).symm
          · rw [wn_tr_ge hi, (wn_day_0 (c := wt_c M P n) (fun q => hi q.1)).1]
            exact (wn_tr_ge hi).symm
        · show wn_tr n (cb_gI M' 28 0) i = (wn_day (wt_c M P n) (wt_u M n) damp (wt_s M n)).2.2 i
          by_cases hi : i < n
          · rw [wn_tr_lt hi, h28 i]
            by_cases hg : go i = true
            · rw [if_pos ⟨hi, hg⟩, (wn_day_1 (c := wt_c M P n) hi ((hgo i hi).symm.trans hg)).2, hby i hi hg, show (wt_s M n).2.2 i = cb_gI M 28 0 i from wn_tr_lt hi]
            · rw [if_neg (fun q => hg q.2), (wn_day_0 (c := wt_c M P n) (fun q => hg ((hgo i hi).trans q.2))).2]
              exact (wn_tr_lt hi).symm
          · rw [wn_tr_ge hi, (wn_day_0 (c := wt_c M P n) (fun q => hi q.1)).2]
            exact (wn_tr_ge hi).symm
      · intro j hj ih x M' v4 hx hF hdr hday h27 h28
        have hx8 : vp_in x 8 := by rw [hx]; exact cb_in8 hj hn8 (by decide)
        have hx32 : vp_in x 32 := by rw [hx]; exact cb_in8 hj (by omega) (by decide)
        have hxc : x.toNatClampNeg = j := by rw [hx]; exact nI_clamp (by omega)
        refine cb_run cb_tb_ok vd_X7_goDay (cuts := [16]) 60 ?_
        refine cb_lin hx ((hF.1 25 0 2 rfl).trans hn) hj (by omega) (And.intro hx32 (cb_ifn1 (fun q => ?_) (fun q => ?_)))
        · rw [hxc] at q
          exact ih _ _ _ (by rw [hx, nI_1]) hF hdr hday (cb_upd_no h27 q) (cb_upd_no h28 q)
        · rw [hxc] at q
          have hw8 : 1 ≤ 100 * cb_gI M' 8 P x.toNatClampNeg := by rw [hxc, hF.1 8 P j rfl]; exact hwt j hj
          refine And.intro hx8 (And.intro (cb_on rfl) ⟨P, ⟨(hF.ref 25 0 0).trans hP, hP2, hx8, hw8⟩, And.intro hx8 (And.intro hx8 (And.intro hx8 (And.intro (cb_on rfl) (And.intro hx8 ?_))))⟩)
          have eby : cb_gI M' 26 0 j - damp + wn_cut (cb_gI M' 32 0 j) (cb_gI M' 8 P j) = by' j := by rw [hF.1 26 0 j rfl, hF.1 8 P j rfl, hdr]
          refine ih _ _ _ (by rw [hx, nI_1]) ((hF.set _ rfl).set _ rfl) hdr hday (cb_upd_yes h27 q ?_ (fun i e => ?_)) (cb_upd_yes h28 q ?_ (fun i e => ?_))
          · rw [cb_gI_sI, hxc, if_pos ⟨rfl, rfl, rfl⟩]
            show wm_fmod (cb_gI M' 27 0 j + (cb_gI M' 26 0 j - damp + wn_cut (cb_gI M' 32 0 j) (cb_gI M' 8 P j))) 1000 = _
            rw [eby, h27 j, if_neg (fun w => absurd w.1 (by omega))]
          · rw [cb_gI_sI, hxc, if_neg (fun w => e w.2.2)]
            rfl
          · show cb_gI (cb_sI M' 28 0 x.toNatClampNeg _) 28 0 j = _
            rw [cb_gI_sI, hxc, if_pos ⟨rfl, rfl, rfl⟩]
            show cb_gI M' 28 0 j + (cb_gI M' 26 0 j - damp + wn_cut (cb_gI M' 32 0 j) (cb_gI M' 8 P j)) = _
            rw [eby, h28 j, if_neg (fun w => absurd w.1 (by omega))]
          · show cb_gI (cb_sI M' 28 0 x.toNatClampNeg _) 28 0 i = _
            rw [cb_gI_sI, hxc, if_neg (fun w => e w.2.2)]
    have h27 := hF2.fn 27 0 (fun _ => rfl)
    have h28 := hF2.fn 28 0 (fun _ => rfl)
    refine loop 0 (Nat.zero_le _) _ _ _ rfl (hF2.mono fr_d_t) rfl (hF2.1 25 0 3 rfl) (fun i => ?_) (fun i => ?_)
    · rw [h27, if_neg (fun w => absurd w.1 (by omega))]
    · rw [h28, if_neg (fun w => absurd w.1 (by omega))]
/-- so many days -/
def wn_days (c : wn_C) (u : wm_U) (dp : wm_F) (s : wm_S) : Nat → wm_S
  | 0 => s
  | k + 1 => wn_day c u (wm_dmp dp (wn_days c u dp s k).1) (wn_days c u dp s k)
def wn_Ph (n : Nat) (s : wm_S) : Prop := ∀ i, i < n → wm_ph (s.2.1 i)
theorem wn_day_ph {c : wn_C} {u : wm_U} {damp : Int32} {s : wm_S} (h : wn_Ph c.n s) : wn_Ph c.n (wn_day c u damp s) := by
  intro i hi
  show wm_ph (if _ then _ else _)
  split
  · exact wm_fmod_ph _
  · exact h i hi
theorem wk_Ph_s {M : cb_M} {n : Nat} : wk_Ph M n ↔ wn_Ph n (wt_s M n) := by
  constructor
  · intro h i hi
    rw [show (wt_s M n).2.1 i = cb_gI M 27 0 i from wn_tr_lt hi]
    exact h i hi
  · intro h i hi
    rw [← show (wt_s M n).2.1 i = cb_gI M 27 0 i from wn_tr_lt hi]
    exact h i hi
def sp_goDays : cb_Sp := fun _ r M K => match r with
  | [.inl N] => ∃ P n m k, (wk_R M P n m ∧ wk_Ph M n ∧ N = nI k ∧ k < 2 ^ 31) ∧ ∀ M', cb_fr fr_t M M' → wt_s M' n = wn_days (wt_c M P n) (wt_u M n) (cb_gI M 15 P) (wt_s M n) k → wk_Ph M' n → K none M'
  | _ => False
def pt_X7_goDays : cb_PT := cb_m 25 1 sp_goDays
theorem rc_X7_goDays : cb_rc cb_tb RX7 pt_X7_goDays := cb_m_rc rfl rfl
def md_X7_goDays : cb_D := (RX7, cX7_goDays, 3, none, (0, 0, 4, 89), [
  (0, .iconst 0, 1, 0, 0, 0, 0),
  (1, .istore_n 2, 1, 0, 2, 0, 0),
  (2, .iload_n 2, 1, 0, 2, 0, 0),
  (3, .iload_n 1, 1, 0, 1, 0, 0),
  (4, .if_icmp .ge 24, 3, 0, 28, 0, 0),
  (7, .aload_n 0, 1, 0, 0, 0, 0),
  (8, .aload_n 0, 1, 0, 0, 0, 0),
  (9, .getfield 62, 3, 0, 7, 0, 218),
  (12, .aload_n 0, 1, 0, 0, 0, 0),
  (13, .getfield 15, 3, 0, 7, 3, 231),
  (16, .invokevirtual 174, 3, 0, 0, 0, 0),
  (19, .invokevirtual 177, 3, 0, 1, 0, 0),
  (22, .iinc 2 1, 3, 1, 2, 0, 0),
  (25, .goto (-23), 3, 0, 2, 0, 0),
  (28, .return_, 1, 0, 0, 0, 0)],
  [(0, 174, 2, 0, 0, pt_X4_dampOn), (0, 177, 2, 0, 0, pt_X7_goDay)], [])
set_option maxRecDepth 100000 in
theorem vd_X7_goDays : md_X7_goDays.cd.all (cb_vE md_X7_goDays) = true := by decide +kernel
theorem wd_X7_goDays : cb_wd yX7_goDays md_X7_goDays := ⟨cb_tw (i := 894) (by decide +kernel), cb_tw (i := 5) (by decide +kernel), by decide, by decide⟩
theorem cs_X7_goDays : ∀ X, cb_Bs md_X7_goDays X → ∀ g ∈ md_X7_goDays.ga, cb_CS cb_tb md_X7_goDays X g := fun X B => List.forall_mem_cons.mpr ⟨cb_csV B ok_X4_dampOn wd_X4_dampOn (cb_tw (i := 895) (by decide +kernel)) (cb_tw (i := 896) (by decide +kernel)) (cb_tw (i := 897) (by decide +kernel)) rc_X4_dampOn ⟨by decide, by decide⟩ (by decide +kernel), List.forall_mem_cons.mpr ⟨cb_csV B ok_X7_goDay wd_X7_goDay (cb_tw (i := 899) (by decide +kernel)) (cb_tw (i := 900) (by decide +kernel)) (cb_tw (i := 901) (by decide +kernel)) rc_X7_goDay ⟨by decide, by decide⟩ (by decide +kernel), fun _ h => nomatch h⟩⟩
theorem ok_X7_goDays : cb_MOK cb_tb yX7_goDays md_X7_goDays pt_X7_goDays := by
  refine cb_okm ⟨plainFor_of_name (by decide), rfl⟩ (by decide) cs_X7_goDays (by decide) (fun X n0 f i r M hr ha h => ?_)
  have h0 := cb_a1 (T := 25) rfl ha
  subst h0
  match r, hr, h with
  | [.inl N], hr, h =>
    obtain ⟨P, n, m, k, ⟨hR, hph, hN, hk⟩, h⟩ := h
    have loop : ∀ j, j ≤ k → ∀ (x : Int32) (M' : cb_M), x = nI j → cb_fr fr_t M M' → wt_s M' n = wn_days (wt_c M P n) (wt_u M n) (cb_gI M 15 P) (wt_s M n) j → wk_Ph M' n → cb_Gd cb_tb md_X7_goDays X 2 [some (cb_r 25 0), some (cb_i N), some (cb_i x)] [] (cb_aS n0, f) M' 0 0 := by
      refine cb_up (fun j => ∀ (x : Int32) (M' : cb_M), x = nI j → cb_fr fr_t M M' → wt_s M' n = wn_days (wt_c M P n) (wt_u M n) (cb_gI M 15 P) (wt_s M n) j → wk_Ph M' n → cb_Gd cb_tb md_X7_goDays X 2 [some (cb_r 25 0), some (cb_i N), some (cb_i x)] [] (cb_aS n0, f) M' 0 0) ?_ ?_
      · intro x M' hx hF hs hp
        refine cb_run cb_tb_ok vd_X7_goDays (cuts := [2]) 60 ?_
        exact cb_lout hx hN (And.intro rfl (h M' hF hs hp))
      · intro j hj ih x M' hx hF hs hp
        refine cb_run cb_tb_ok vd_X7_goDays (cuts := [2]) 60 ?_
        have hR' := wk_R_fr hF hR
        refine cb_lin hx hN hj hk (Exists.intro (some P) (And.intro hR'.1.1 (And.intro (cb_on (cb_aP hR.1.2.1 rfl)) (And.intro (cb_on rfl) ⟨P, n, m, ⟨hR', hp⟩, fun M2 hF2 hs2 => ?_⟩))))
        have e : wt_s M2 n = wn_days (wt_c M P n) (wt_u M n) (cb_gI M 15 P) (wt_s M n) (j + 1) := by
          rw [hs2, wt_c_fr hF, wt_u_fr hF, hs, hF.fn 15 P (fun _ => rfl)]
          show wn_day _ _ (wm_dmp _ (wt_s M' n).1) _ = _
          rw [hs]
          rfl
        refine ih _ M2 (by rw [hx, nI_1]) (hF.trans hF2) e ?_
        rw [wk_Ph_s, hs2]
        exact wn_day_ph (c := wt_c M' P n) (wk_Ph_s.mp hp)
    exact cb_run cb_tb_ok vd_X7_goDays (cuts := [2]) 60 (loop 0 (Nat.zero_le _) _ _ rfl (cb_fr.refl M) rfl hph)
/-- so many days of a winter: the state and what was drawn last -/
def wn_lot (x : Int32) : Int32 := x * 1103515245 + 12345
def wn_win (c : wn_C) (u : wm_U) (dp : wm_F) (s : wm_S) (seed : Int32) : Nat → wm_S × Int32
  | 0 => (s, seed)
  | k + 1 => (wn_day c u (wm_dmp dp (wn_win c u dp s seed k).1.1 + (cb_ush (wn_lot (wn_win c u dp s seed k).2) 16 &&& 7)) (wn_win c u dp s seed k).1, wn_lot (wn_win c u dp s seed k).2)
def sp_goWinter : cb_Sp := fun _ r M K => match r with
  | [.inl N, .inl seed] => ∃ P n m k, (wk_R M P n m ∧ wk_Ph M n ∧ N = nI k ∧ k < 2 ^ 31) ∧ ∀ M', cb_fr fr_t M M' → wt_s M' n = (wn_win (wt_c M P n) (wt_u M n) (cb_gI M 15 P) (wt_s M n) seed k).1 → wk_Ph M' n → K none M'
  | _ => False
def pt_X7_goWinter : cb_PT := cb_m 25 2 sp_goWinter
theorem rc_X7_goWinter : cb_rc cb_tb RX7 pt_X7_goWinter := cb_m_rc rfl rfl
def md_X7_goWinter : cb_D := (RX7, cX7_goWinter, 5, none, (0, 0, 4, 89), [
  (0, .iload_n 2, 1, 0, 2, 0, 0),
  (1, .istore_n 3, 1, 0, 3, 0, 0),
  (2, .iconst 0, 1, 0, 0, 0, 0),
  (3, .istore 4, 2, 0, 4, 0, 0),
  (5, .iload 4, 2, 0, 4, 0, 0),
  (7, .iload_n 1, 1, 0, 1, 0, 0),
  (8, .if_icmp .ge 41, 3, 0, 49, 0, 0),
  (11, .iload_n 3, 1, 0, 3, 0, 0),
  (12, .ldc 180, 2, 1103515245, 0, 0, 1311),
  (14, .imul, 1, 0, 0, 0, 0),
  (15, .sipush 12345, 3, 12345, 0, 0, 0),
  (18, .iadd, 1, 0, 0, 0, 0),
  (19, .istore_n 3, 1, 0, 3, 0, 0),
  (20, .aload_n 0, 1, 0, 0, 0, 0),
  (21, .aload_n 0, 1, 0, 0, 0, 0),
  (22, .getfield 62, 3, 0, 7, 0, 218),
  (25, .aload_n 0, 1, 0, 0, 0, 0),
  (26, .getfield 15, 3, 0, 7, 3, 231),
  (29, .invokevirtual 174, 3, 0, 0, 0, 0),
  (32, .iload_n 3, 1, 0, 3, 0, 0),
  (33, .bipush 16, 2, 16, 0, 0, 0),
  (35, .iushr, 1, 0, 0, 0, 0),
  (36, .bipush 7, 2, 7, 0, 0, 0),
  (38, .iand, 1, 0, 0, 0, 0),
  (39, .iadd, 1, 0, 0, 0, 0),
  (40, .invokevirtual 177, 3, 0, 1, 0, 0),
  (43, .iinc 4 1, 3, 1, 4, 0, 0),
  (46, .goto (-41), 3, 0, 5, 0, 0),
  (49, .return_, 1, 0, 0, 0, 0)],
  [(0, 174, 2, 0, 0, pt_X4_dampOn), (0, 177, 2, 0, 0, pt_X7_goDay)], [])
set_option maxRecDepth 100000 in
theorem vd_X7_goWinter : md_X7_goWinter.cd.all (cb_vE md_X7_goWinter) = true := by decide +kernel
theorem wd_X7_goWinter : cb_wd yX7_goWinter md_X7_goWinter := ⟨cb_tw (i := 1310) (by decide +kernel), cb_tw (i := 5) (by decide +kernel), by decide, by decide⟩
theorem cs_X7_goWinter : ∀ X, cb_Bs md_X7_goWinter X → ∀ g ∈ md_X7_goWinter.ga, cb_CS cb_tb md_X7_goWinter X g := fun X B => List.forall_mem_cons.mpr ⟨cb_csV B ok_X4_dampOn wd_X4_dampOn (cb_tw (i := 895) (by decide +kernel)) (cb_tw (i := 896) (by decide +kernel)) (cb_tw (i := 897) (by decide +kernel)) rc_X4_dampOn ⟨by decide, by decide⟩ (by decide +kernel), List.forall_mem_cons.mpr ⟨cb_csV B ok_X7_goDay wd_X7_goDay (cb_tw (i := 899) (by decide +kernel)) (cb_tw (i := 900) (by decide +kernel)) (cb_tw (i := 901) (by decide +kernel)) rc_X7_goDay ⟨by decide, by decide⟩ (by decide +kernel), fun _ h => nomatch h⟩⟩
theorem ok_X7_goWinter : cb_MOK cb_tb yX7_goWinter md_X7_goWinter pt_X7_goWinter := by
  refine cb_okm ⟨plainFor_of_name (by decide), rfl⟩ (by decide) cs_X7_goWinter (by decide) (fun X n0 f i r M hr ha h => ?_)
  have h0 := cb_a1 (T := 25) rfl ha
  subst h0
  match r, hr, h with
  | [.inl N, .inl seed], hr, h =>
    obtain ⟨P, n, m, k, ⟨hR, hph, hN, hk⟩, h⟩ := h
    have loop : ∀ j, j ≤ k → ∀ (x y : Int32) (M' : cb_M), x = nI j → cb_fr fr_t M M' → (wt_s M' n, y) = wn_win (wt_c M P n) (wt_u M n) (cb_gI M 15 P) (wt_s M n) seed j → wk_Ph M' n → cb_Gd cb_tb md_X7_goWinter X 5 [some (cb_r 25 0), some (cb_i N), some (cb_i seed), some (cb_i y), some (cb_i x)] [] (cb_aS n0, f) M' 0 0 := by
      refine cb_up (fun j => ∀ (x y : Int32) (M' : cb_M), x = nI j → cb_fr fr_t M M' → (wt_s M' n, y) = wn_win (wt_c M P n) (wt_u M n) (cb_gI M 15 P) (wt_s M n) seed j → wk_Ph M' n → cb_Gd cb_tb md_X7_goWinter X 5 [some (cb_r 25 0), some (cb_i N), some (cb_i seed), some (cb_i y), some (cb_i x)] [] (cb_aS n0, f) M' 0 0) ?_ ?_
      · intro x y M' hx hF hs hp
        refine cb_run cb_tb_ok vd_X7_goWinter (cuts := [5]) 60 ?_
        refine cb_lout hx hN (And.intro rfl (h M' hF ?_ hp))
        rw [← hs]
      · intro j hj ih x y M' hx hF hs hp
        refine cb_run cb_tb_ok vd_X7_goWinter (cuts := [5]) 60 ?_
        have hR' := wk_R_fr hF hR
        refine cb_lin hx hN hj hk (Exists.intro (some P) (And.intro hR'.1.1 (And.intro (cb_on (cb_aP hR.1.2.1 rfl)) (And.intro (cb_on rfl) ⟨P, n, m, ⟨hR', hp⟩, fun M2 hF2 hs2 => ?_⟩))))
        have e1 : (wn_win (wt_c M P n) (wt_u M n) (cb_gI M 15 P) (wt_s M n) seed j).1 = wt_s M' n := by rw [← hs]
        have e2 : (wn_win (wt_c M P n) (wt_u M n) (cb_gI M 15 P) (wt_s M n) seed j).2 = y := by rw [← hs]
        have e : (wt_s M2 n, wn_lot y) = wn_win (wt_c M P n) (wt_u M n) (cb_gI M 15 P) (wt_s M n) seed (j + 1) := by
          rw [hs2, wt_c_fr hF, wt_u_fr hF, hF.fn 15 P (fun _ => rfl)]
          unfold wn_win
          rw [e1, e2]
          rfl
        refine ih _ _ M2 (by rw [hx, nI_1]) (hF.trans hF2) e ?_
        rw [wk_Ph_s, hs2]
        exact wn_day_ph (c := wt_c M' P n) (wk_Ph_s.mp hp)
    exact cb_run cb_tb_ok vd_X7_goWinter (cuts := [5]) 60 (loop 0 (Nat.zero_le _) _ _ _ rfl (cb_fr.refl M) rfl hph)
