/-! ===== the reference: its leaves ===== -/
def mi_in (v lo hi : Int32) : Bool := decide (¬ v < lo ∧ ¬ hi < v)
def pt_X10_in : cb_PT := fun As a M K => match As with
  | [.inl v, .inl lo, .inl hi] => K (.inl (some (cb_i (cb_z (mi_in v lo hi))))) a M
  | _ => False
theorem pt_in_to {As : List cb_V} {a : cb_A} {M : cb_M} {K : cb_Out → cb_A → cb_M → Prop} (h : pt_X10_in As a M K) : ∃ v lo hi, As = [cb_i v, cb_i lo, cb_i hi] ∧ K (.inl (some (cb_i (cb_z (mi_in v lo hi))))) a M := by
  unfold pt_X10_in at h
  split at h
  · exact ⟨_, _, _, rfl, h⟩
  · exact h.elim
def md_X10_in : cb_D := (RX10, cX10_in, 3, (some .boolean), (0, 0, 0, 0), [
  (0, .iload_n 0, 1, 0, 0, 0, 0),
  (1, .iload_n 1, 1, 0, 1, 0, 0),
  (2, .if_icmp .lt 12, 3, 0, 14, 0, 0),
  (5, .iload_n 0, 1, 0, 0, 0, 0),
  (6, .iload_n 2, 1, 0, 2, 0, 0),
  (7, .if_icmp .gt 7, 3, 0, 14, 0, 0),
  (10, .iconst 1, 1, 1, 0, 0, 0),
  (11, .goto 4, 3, 0, 15, 0, 0),
  (14, .iconst 0, 1, 0, 0, 0, 0),
  (15, .ireturn, 1, 0, 0, 0, 0)],
  [], [])
set_option maxRecDepth 100000 in
theorem vd_X10_in : md_X10_in.cd.all (cb_vE md_X10_in) = true := by decide +kernel
theorem wd_X10_in : cb_wd yX10_in md_X10_in := ⟨cb_tw (i := 1506) (by decide +kernel), cb_tw (i := 11) (by decide +kernel), by decide, by decide⟩
theorem cs_X10_in : ∀ X, cb_Bs md_X10_in X → ∀ g ∈ md_X10_in.ga, cb_CS cb_tb md_X10_in X g := fun X B => fun _ h => nomatch h
theorem ok_X10_in : cb_MOK cb_tb yX10_in md_X10_in pt_X10_in := by
  refine cb_of ⟨plainFor_of_name (by decide), rfl⟩ (fun As a M K h => ?_) cs_X10_in (fun _ _ _ _ _ => cb_Ts0 (by decide)) (fun X As a M h => ?_)
  · obtain ⟨v, lo, hi, rfl, -⟩ := pt_in_to h
    exact (by decide : 3 ≤ 3)
  · obtain ⟨v, lo, hi, rfl, h9⟩ := pt_in_to h
    have h := h9
    unfold mi_in at h
    refine cb_run cb_tb_ok vd_X10_in (cuts := []) 40 ?_
    refine And.intro (fun q => ?_) (fun q => And.intro (fun q1 => ?_) (fun q1 => ?_))
    · rw [decide_eq_false (fun w => w.1 q)] at h
      exact And.intro cb_rt0 h
    · rw [decide_eq_false (fun w => w.2 q1)] at h
      exact And.intro cb_rt0 h
    · have q : ¬ v < lo := q
      have q1 : ¬ hi < v := q1
      rw [decide_eq_true ⟨q, q1⟩] at h
      exact And.intro cb_rt1 h
def pt_X10_isDigit : cb_PT := cb_f1 (fun _ => True) fun x => cb_z (rd_dg x)
def md_X10_isDigit : cb_D := (RX10, cX10_isDigit, 1, (some .boolean), (0, 0, 0, 0), [
  (0, .iload_n 0, 1, 0, 0, 0, 0),
  (1, .bipush 48, 2, 48, 0, 0, 0),
  (3, .if_icmp .lt 13, 3, 0, 16, 0, 0),
  (6, .iload_n 0, 1, 0, 0, 0, 0),
  (7, .bipush 57, 2, 57, 0, 0, 0),
  (9, .if_icmp .gt 7, 3, 0, 16, 0, 0),
  (12, .iconst 1, 1, 1, 0, 0, 0),
  (13, .goto 4, 3, 0, 17, 0, 0),
  (16, .iconst 0, 1, 0, 0, 0, 0),
  (17, .ireturn, 1, 0, 0, 0, 0)],
  [], [])
set_option maxRecDepth 100000 in
theorem vd_X10_isDigit : md_X10_isDigit.cd.all (cb_vE md_X10_isDigit) = true := by decide +kernel
theorem wd_X10_isDigit : cb_wd yX10_isDigit md_X10_isDigit := ⟨cb_tw (i := 1551) (by decide +kernel), cb_tw (i := 11) (by decide +kernel), by decide, by decide⟩
theorem cs_X10_isDigit : ∀ X, cb_Bs md_X10_isDigit X → ∀ g ∈ md_X10_isDigit.ga, cb_CS cb_tb md_X10_isDigit X g := fun X B => fun _ h => nomatch h
theorem ok_X10_isDigit : cb_MOK cb_tb yX10_isDigit md_X10_isDigit pt_X10_isDigit := by
  refine cb_ok1 ⟨plainFor_of_name (by decide), rfl⟩ (by decide) cs_X10_isDigit (by decide) (fun X a M x _ h => cb_run cb_tb_ok vd_X10_isDigit (cuts := []) 40 ?_)
  have h : X.K (.inl (some (cb_i (cb_z (decide (¬ x < 48 ∧ ¬ 57 < x)))))) a M := h
  refine And.intro (fun q => And.intro cb_rt0 ?_) (fun q => And.intro (fun q1 => And.intro cb_rt0 ?_) (fun q1 => And.intro cb_rt1 ?_))
  · rw [decide_eq_false (fun w => w.1 q)] at h
    exact h
  · rw [decide_eq_false (fun w => w.2 q1)] at h
    exact h
  · rw [decide_eq_true ⟨q, q1⟩] at h
    exact h
def mi_five (a b c d e : Int32) : Int32 := if e = 0 then (if d = 0 then 27 * (27 * a + b) + c else 27 * (27 * (27 * a + b) + c) + d) else 27 * (if d = 0 then 27 * (27 * a + b) + c else 27 * (27 * (27 * a + b) + c) + d) + e
def pt_X10_five : cb_PT := fun As aa M K => match As with
  | [.inl a, .inl b, .inl c, .inl d, .inl e] => K (.inl (some (cb_i (mi_five a b c d e)))) aa M
  | _ => False
theorem pt_five_to {As : List cb_V} {aa : cb_A} {M : cb_M} {K : cb_Out → cb_A → cb_M → Prop} (h : pt_X10_five As aa M K) : ∃ a b c d e, As = [cb_i a, cb_i b, cb_i c, cb_i d, cb_i e] ∧ K (.inl (some (cb_i (mi_five a b c d e)))) aa M := by
  unfold pt_X10_five at h
  split at h
  · exact ⟨_, _, _, _, _, rfl, h⟩
  · exact h.elim
def md_X10_five : cb_D := (RX10, cX10_five, 6, (some .int), (0, 0, 0, 0), [
  (0, .bipush 27, 2, 27, 0, 0, 0),
  (2, .bipush 27, 2, 27, 0, 0, 0),
  (4, .iload_n 0, 1, 0, 0, 0, 0),
  (5, .imul, 1, 0, 0, 0, 0),
  (6, .iload_n 1, 1, 0, 1, 0, 0),
  (7, .iadd, 1, 0, 0, 0, 0),
  (8, .imul, 1, 0, 0, 0, 0),
  (9, .iload_n 2, 1, 0, 2, 0, 0),
  (10, .iadd, 1, 0, 0, 0, 0),
  (11, .istore 5, 2, 0, 5, 0, 0),
  (13, .iload_n 3, 1, 0, 3, 0, 0),
  (14, .ifCond .ne 8, 3, 0, 22, 0, 0),
  (17, .iload 5, 2, 0, 5, 0, 0),
  (19, .goto 10, 3, 0, 29, 0, 0),
  (22, .bipush 27, 2, 27, 0, 0, 0),
  (24, .iload 5, 2, 0, 5, 0, 0),
  (26, .imul, 1, 0, 0, 0, 0),
  (27, .iload_n 3, 1, 0, 3, 0, 0),
  (28, .iadd, 1, 0, 0, 0, 0),
  (29, .istore 5, 2, 0, 5, 0, 0),
  (31, .iload 4, 2, 0, 4, 0, 0),
  (33, .ifCond .ne 8, 3, 0, 41, 0, 0),
  (36, .iload 5, 2, 0, 5, 0, 0),
  (38, .goto 11, 3, 0, 49, 0, 0),
  (41, .bipush 27, 2, 27, 0, 0, 0),
  (43, .iload 5, 2, 0, 5, 0, 0),
  (45, .imul, 1, 0, 0, 0, 0),
  (46, .iload 4, 2, 0, 4, 0, 0),
  (48, .iadd, 1, 0, 0, 0, 0),
  (49, .ireturn, 1, 0, 0, 0, 0)],
  [], [])
set_option maxRecDepth 100000 in
theorem vd_X10_five : md_X10_five.cd.all (cb_vE md_X10_five) = true := by decide +kernel
theorem wd_X10_five : cb_wd yX10_five md_X10_five := ⟨cb_tw (i := 1537) (by decide +kernel), cb_tw (i := 11) (by decide +kernel), by decide, by decide⟩
theorem cs_X10_five : ∀ X, cb_Bs md_X10_five X → ∀ g ∈ md_X10_five.ga, cb_CS cb_tb md_X10_five X g := fun X B => fun _ h => nomatch h
theorem ok_X10_five : cb_MOK cb_tb yX10_five md_X10_five pt_X10_five := by
  refine cb_of ⟨plainFor_of_name (by decide), rfl⟩ (fun As a M K h => ?_) cs_X10_five (fun _ _ _ _ _ => cb_Ts0 (by decide)) (fun X As aa M h => ?_)
  · obtain ⟨a, b, c, d, e, rfl, -⟩ := pt_five_to h
    exact (by decide : 5 ≤ 6)
  · obtain ⟨a, b, c, d, e, rfl, h9⟩ := pt_five_to h
    have h := h9
    unfold mi_five at h
    refine cb_run cb_tb_ok vd_X10_five (cuts := []) 60 ?_
    refine cb_ifne (fun q => cb_ifne (fun q1 => ?_) (fun q1 => ?_)) (fun q => cb_ifne (fun q1 => ?_) (fun q1 => ?_))
    · rw [if_neg q1, if_neg q] at h
      exact And.intro trivial h
    · rw [if_pos q1, if_neg q] at h
      exact And.intro trivial h
    · rw [if_neg q1, if_pos q] at h
      exact And.intro trivial h
    · rw [if_pos q1, if_pos q] at h
      exact And.intro trivial h
def pt_X10_mostOf : cb_PT := cb_f1 (fun _ => True) fun x => if x = 0 then 4 else if x = 1 then 8 else 6
def md_X10_mostOf : cb_D := (RX10, cX10_mostOf, 1, (some .int), (0, 0, 0, 0), [
  (0, .iload_n 0, 1, 0, 0, 0, 0),
  (1, .ifCond .ne 7, 3, 0, 8, 0, 0),
  (4, .iconst 4, 1, 4, 0, 0, 0),
  (5, .goto 15, 3, 0, 20, 0, 0),
  (8, .iload_n 0, 1, 0, 0, 0, 0),
  (9, .iconst 1, 1, 1, 0, 0, 0),
  (10, .if_icmp .ne 8, 3, 0, 18, 0, 0),
  (13, .bipush 8, 2, 8, 0, 0, 0),
  (15, .goto 5, 3, 0, 20, 0, 0),
  (18, .bipush 6, 2, 6, 0, 0, 0),
  (20, .ireturn, 1, 0, 0, 0, 0)],
  [], [])
set_option maxRecDepth 100000 in
theorem vd_X10_mostOf : md_X10_mostOf.cd.all (cb_vE md_X10_mostOf) = true := by decide +kernel
theorem wd_X10_mostOf : cb_wd yX10_mostOf md_X10_mostOf := ⟨cb_tw (i := 1544) (by decide +kernel), cb_tw (i := 11) (by decide +kernel), by decide, by decide⟩
theorem cs_X10_mostOf : ∀ X, cb_Bs md_X10_mostOf X → ∀ g ∈ md_X10_mostOf.ga, cb_CS cb_tb md_X10_mostOf X g := fun X B => fun _ h => nomatch h
theorem ok_X10_mostOf : cb_MOK cb_tb yX10_mostOf md_X10_mostOf pt_X10_mostOf := by
  refine cb_ok1 ⟨plainFor_of_name (by decide), rfl⟩ (by decide) cs_X10_mostOf (by decide) (fun X a M x _ h => cb_run cb_tb_ok vd_X10_mostOf (cuts := []) 40 ?_)
  have h : X.K (.inl (some (cb_i (if x = 0 then 4 else if x = 1 then 8 else 6)))) a M := h
  refine cb_ifne (fun q => cb_ifne (fun q1 => And.intro trivial ?_) (fun q1 => And.intro trivial ?_)) (fun q => And.intro trivial ?_)
  · rw [if_neg q, if_neg q1] at h
    exact h
  · rw [if_neg q, if_pos q1] at h
    exact h
  · rw [if_pos q] at h
    exact h
def sp_X10_thrown : cb_Sp := fun _ r M K => match r with
  | [] => K (some (cb_i (cb_gI M 46 0 0))) M
  | _ => False
def pt_X10_thrown : cb_PT := cb_m 46 0 sp_X10_thrown
theorem rc_X10_thrown : cb_rc cb_tb RX10 pt_X10_thrown := cb_m_rc rfl rfl
def md_X10_thrown : cb_D := (RX10, cX10_thrown, 1, (some .int), (0, 0, 0, 0), [
  (0, .aload_n 0, 1, 0, 0, 0, 0),
  (1, .getfield 126, 3, 0, 10, 0, 1328),
  (4, .ireturn, 1, 0, 0, 0, 0)],
  [], [])
set_option maxRecDepth 100000 in
theorem vd_X10_thrown : md_X10_thrown.cd.all (cb_vE md_X10_thrown) = true := by decide +kernel
theorem wd_X10_thrown : cb_wd yX10_thrown md_X10_thrown := ⟨cb_tw (i := 1495) (by decide +kernel), cb_tw (i := 11) (by decide +kernel), by decide, by decide⟩
theorem cs_X10_thrown : ∀ X, cb_Bs md_X10_thrown X → ∀ g ∈ md_X10_thrown.ga, cb_CS cb_tb md_X10_thrown X g := fun X B => fun _ h => nomatch h
theorem ok_X10_thrown : cb_MOK cb_tb yX10_thrown md_X10_thrown pt_X10_thrown := by
  refine cb_okm ⟨plainFor_of_name (by decide), rfl⟩ (by decide) cs_X10_thrown (by decide) (fun X n0 f i r M hr ha h => ?_)
  have h0 := cb_a1 (T := 46) rfl ha
  subst h0
  match r, hr, h with
  | [], hr, h =>
    refine cb_run cb_tb_ok vd_X10_thrown (cuts := []) 90 ?_
    exact And.intro trivial h
def sp_X10_bad : cb_Sp := fun _ r M K => match r with
  | [.inl b, .inl k] => ∃ x : Bool, (b = cb_z x ∧ ¬ k = 0) ∧ (¬ cb_gI M 46 0 0 = 0 → K (some (cb_i (cb_z true))) M) ∧ (cb_gI M 46 0 0 = 0 → (x = true → K (some (cb_i (cb_z true))) (cb_sI M 46 0 0 k)) ∧ (x = false → K (some (cb_i (cb_z false))) M))
  | _ => False
def pt_X10_bad : cb_PT := cb_m 46 2 sp_X10_bad
theorem rc_X10_bad : cb_rc cb_tb RX10 pt_X10_bad := cb_m_rc rfl rfl
def md_X10_bad : cb_D := (RX10, cX10_bad, 3, (some .boolean), (0, 0, 0, 0), [
  (0, .iload_n 1, 1, 0, 1, 0, 0),
  (1, .ifCond .eq 15, 3, 0, 16, 0, 0),
  (4, .aload_n 0, 1, 0, 0, 0, 0),
  (5, .getfield 126, 3, 0, 10, 0, 1328),
  (8, .ifCond .ne 8, 3, 0, 16, 0, 0),
  (11, .aload_n 0, 1, 0, 0, 0, 0),
  (12, .iload_n 2, 1, 0, 2, 0, 0),
  (13, .putfield 126, 3, 0, 10, 0, 1328),
  (16, .aload_n 0, 1, 0, 0, 0, 0),
  (17, .getfield 126, 3, 0, 10, 0, 1328),
  (20, .ifCond .eq 7, 3, 0, 27, 0, 0),
  (23, .iconst 1, 1, 1, 0, 0, 0),
  (24, .goto 4, 3, 0, 28, 0, 0),
  (27, .iconst 0, 1, 0, 0, 0, 0),
  (28, .ireturn, 1, 0, 0, 0, 0)],
  [], [])
set_option maxRecDepth 100000 in
theorem vd_X10_bad : md_X10_bad.cd.all (cb_vE md_X10_bad) = true := by decide +kernel
theorem wd_X10_bad : cb_wd yX10_bad md_X10_bad := ⟨cb_tw (i := 1510) (by decide +kernel), cb_tw (i := 11) (by decide +kernel), by decide, by decide⟩
theorem cs_X10_bad : ∀ X, cb_Bs md_X10_bad X → ∀ g ∈ md_X10_bad.ga, cb_CS cb_tb md_X10_bad X g := fun X B => fun _ h => nomatch h
theorem ok_X10_bad : cb_MOK cb_tb yX10_bad md_X10_bad pt_X10_bad := by
  refine cb_okm ⟨plainFor_of_name (by decide), rfl⟩ (by decide) cs_X10_bad (by decide) (fun X n0 f i r M hr ha h => ?_)
  have h0 := cb_a1 (T := 46) rfl ha
  subst h0
  match r, hr, h with
  | [.inl b, .inl k], hr, h =>
    obtain ⟨x, ⟨hb, hk⟩, h1, h2⟩ := h
    subst hb
    refine cb_run cb_tb_ok vd_X10_bad (cuts := [16]) 90 ?_
    have fin : ∀ M' v, v = cb_gI M' 46 0 0 → (¬ v = 0 → X.K (.inl (some (cb_i (cb_z true)))) (cb_aS n0, f) M') → (v = 0 → X.K (.inl (some (cb_i (cb_z false)))) (cb_aS n0, f) M') → cb_Gd cb_tb md_X10_bad X 16 [some (cb_r 46 0), some (cb_i (cb_z x)), some (cb_i (k))] [] (cb_aS n0, f) M' 0 0 := by
      intro M' v hv a1 a2
      refine cb_run cb_tb_ok vd_X10_bad (cuts := [16]) 90 ?_
      refine And.intro (fun q => And.intro cb_rt0 (a2 ?_)) (fun q => And.intro cb_rt1 (a1 ?_))
      · rw [hv]; exact q
      · rw [hv]; exact q
    refine cb_ifz (fun q => ?_) (fun q => ?_)
    · exact fin M _ rfl (fun z => h1 z) (fun z => (h2 z).2 q)
    · refine cb_ifne (fun z => fin M _ rfl (fun z => h1 z) (fun w => absurd w z)) (fun z => ?_)
      exact fin _ k (cb_gs_eq _ _ _ _ _).symm (fun _ => (h2 z).1 q) (fun w => absurd w hk)
/-- clock i is there -/
def mi_c (x : Int32) (n : Nat) : Bool := mi_in x 0 (nI n - 1)
theorem mi_c_iff {x : Int32} {n : Nat} (hn : n < 2 ^ 30) : mi_c x n = true ↔ ¬ wg_no x n := by
  unfold mi_c mi_in wg_no
  rw [decide_eq_true_eq]
  have hx := x.toInt_lt
  have hn1 : (nI n - 1).toInt = (n : Int) - 1 := by
    cases n with
    | zero => rfl
    | succ m => rw [nI_pred, nI_toInt (by omega)]; omega
  rw [Int32.lt_iff_toInt_lt, Int32.lt_iff_toInt_lt, Int32.le_iff_toInt_le, hn1, nI_toInt (by omega)]
  have : (0 : Int32).toInt = 0 := rfl
  omega
theorem mi_v (k : Nat) (hk : k < 5) : vp_in (nI k) 5 := vp_in_nI hk (by decide)
def sp_X10_isClock : cb_Sp := fun _ r M K => match r with
  | [.inl x] => ∃ n, (cb_gI M 49 0 1 = nI n ∧ n ≤ 8) ∧ K (some (cb_i (cb_z (mi_c x n)))) M
  | _ => False
def pt_X10_isClock : cb_PT := cb_m 46 1 sp_X10_isClock
theorem rc_X10_isClock : cb_rc cb_tb RX10 pt_X10_isClock := cb_m_rc rfl rfl
def md_X10_isClock : cb_D := (RX10, cX10_isClock, 2, (some .boolean), (0, 0, 1, 22), [
  (0, .iload_n 1, 1, 0, 1, 0, 0),
  (1, .iconst 0, 1, 0, 0, 0, 0),
  (2, .aload_n 0, 1, 0, 0, 0, 0),
  (3, .getfield 20, 3, 0, 10, 10, 1338),
  (6, .iconst 1, 1, 1, 0, 0, 0),
  (7, .iaload, 1, 0, 0, 0, 0),
  (8, .iconst 1, 1, 1, 0, 0, 0),
  (9, .isub, 1, 0, 0, 0, 0),
  (10, .invokestatic 160, 3, 0, 0, 0, 0),
  (13, .ireturn, 1, 0, 0, 0, 0)],
  [(1, 160, 3, 0, 0, pt_X10_in)], [])
set_option maxRecDepth 100000 in
theorem vd_X10_isClock : md_X10_isClock.cd.all (cb_vE md_X10_isClock) = true := by decide +kernel
theorem wd_X10_isClock : cb_wd yX10_isClock md_X10_isClock := ⟨cb_tw (i := 1584) (by decide +kernel), cb_tw (i := 11) (by decide +kernel), by decide, by decide⟩
theorem cs_X10_isClock : ∀ X, cb_Bs md_X10_isClock X → ∀ g ∈ md_X10_isClock.ga, cb_CS cb_tb md_X10_isClock X g := fun X B => List.forall_mem_cons.mpr ⟨cb_csS B ok_X10_in wd_X10_in (cb_tw (i := 1504) (by decide +kernel)) (cb_tw (i := 1505) (by decide +kernel)) ⟨by decide, by decide⟩ (by decide +kernel), fun _ h => nomatch h⟩
theorem ok_X10_isClock : cb_MOK cb_tb yX10_isClock md_X10_isClock pt_X10_isClock := by
  refine cb_okm ⟨plainFor_of_name (by decide), rfl⟩ (by decide) cs_X10_isClock (by decide) (fun X n0 f i r M hr ha h => ?_)
  have h0 := cb_a1 (T := 46) rfl ha
  subst h0
  match r, hr, h with
  | [.inl x], hr, h =>
    obtain ⟨n, ⟨hn, hn8⟩, h⟩ := h
    refine cb_run cb_tb_ok vd_X10_isClock (cuts := []) 90 ?_
    refine And.intro (mi_v 1 (by decide)) ?_
    show cb_rv _ (cb_z (mi_in x 0 (cb_gI M 49 0 1 - 1))) ∧ X.K (.inl (some (cb_i (cb_z (mi_in x 0 (cb_gI M 49 0 1 - 1)))))) (cb_aS n0, f) M
    rw [hn]
    exact And.intro (cb_z_01 _) h
def sp_X10_isHook : cb_Sp := fun _ r M K => match r with
  | [.inl x] => ∃ n, (cb_gI M 49 0 2 = nI n ∧ n ≤ 8) ∧ K (some (cb_i (cb_z (mi_c x n)))) M
  | _ => False
def pt_X10_isHook : cb_PT := cb_m 46 1 sp_X10_isHook
theorem rc_X10_isHook : cb_rc cb_tb RX10 pt_X10_isHook := cb_m_rc rfl rfl
def md_X10_isHook : cb_D := (RX10, cX10_isHook, 2, (some .boolean), (0, 0, 1, 22), [
  (0, .iload_n 1, 1, 0, 1, 0, 0),
  (1, .iconst 0, 1, 0, 0, 0, 0),
  (2, .aload_n 0, 1, 0, 0, 0, 0),
  (3, .getfield 20, 3, 0, 10, 10, 1338),
  (6, .iconst 2, 1, 2, 0, 0, 0),
  (7, .iaload, 1, 0, 0, 0, 0),
  (8, .iconst 1, 1, 1, 0, 0, 0),
  (9, .isub, 1, 0, 0, 0, 0),
  (10, .invokestatic 160, 3, 0, 0, 0, 0),
  (13, .ireturn, 1, 0, 0, 0, 0)],
  [(1, 160, 3, 0, 0, pt_X10_in)], [])
set_option maxRecDepth 100000 in
theorem vd_X10_isHook : md_X10_isHook.cd.all (cb_vE md_X10_isHook) = true := by decide +kernel
theorem wd_X10_isHook : cb_wd yX10_isHook md_X10_isHook := ⟨cb_tw (i := 1712) (by decide +kernel), cb_tw (i := 11) (by decide +kernel), by decide, by decide⟩
theorem cs_X10_isHook : ∀ X, cb_Bs md_X10_isHook X → ∀ g ∈ md_X10_isHook.ga, cb_CS cb_tb md_X10_isHook X g := fun X B => List.forall_mem_cons.mpr ⟨cb_csS B ok_X10_in wd_X10_in (cb_tw (i := 1504) (by decide +kernel)) (cb_tw (i := 1505) (by decide +kernel)) ⟨by decide, by decide⟩ (by decide +kernel), fun _ h => nomatch h⟩
theorem ok_X10_isHook : cb_MOK cb_tb yX10_isHook md_X10_isHook pt_X10_isHook := by
  refine cb_okm ⟨plainFor_of_name (by decide), rfl⟩ (by decide) cs_X10_isHook (by decide) (fun X n0 f i r M hr ha h => ?_)
  have h0 := cb_a1 (T := 46) rfl ha
  subst h0
  match r, hr, h with
  | [.inl x], hr, h =>
    obtain ⟨n, ⟨hn, hn8⟩, h⟩ := h
    refine cb_run cb_tb_ok vd_X10_isHook (cuts := []) 90 ?_
    refine And.intro (mi_v 2 (by decide)) ?_
    show cb_rv _ (cb_z (mi_in x 0 (cb_gI M 49 0 2 - 1))) ∧ X.K (.inl (some (cb_i (cb_z (mi_in x 0 (cb_gI M 49 0 2 - 1)))))) (cb_aS n0, f) M
    rw [hn]
    exact And.intro (cb_z_01 _) h
def pt_X10_areDays : cb_PT := cb_f1 (fun _ => True) fun x => cb_z (mi_in x 1 100)
def md_X10_areDays : cb_D := (RX10, cX10_areDays, 1, (some .boolean), (0, 0, 1, 22), [
  (0, .iload_n 0, 1, 0, 0, 0, 0),
  (1, .iconst 1, 1, 1, 0, 0, 0),
  (2, .bipush 100, 2, 100, 0, 0, 0),
  (4, .invokestatic 160, 3, 0, 0, 0, 0),
  (7, .ireturn, 1, 0, 0, 0, 0)],
  [(1, 160, 3, 0, 0, pt_X10_in)], [])
set_option maxRecDepth 100000 in
theorem vd_X10_areDays : md_X10_areDays.cd.all (cb_vE md_X10_areDays) = true := by decide +kernel
theorem wd_X10_areDays : cb_wd yX10_areDays md_X10_areDays := ⟨cb_tw (i := 1704) (by decide +kernel), cb_tw (i := 11) (by decide +kernel), by decide, by decide⟩
theorem cs_X10_areDays : ∀ X, cb_Bs md_X10_areDays X → ∀ g ∈ md_X10_areDays.ga, cb_CS cb_tb md_X10_areDays X g := fun X B => List.forall_mem_cons.mpr ⟨cb_csS B ok_X10_in wd_X10_in (cb_tw (i := 1504) (by decide +kernel)) (cb_tw (i := 1505) (by decide +kernel)) ⟨by decide, by decide⟩ (by decide +kernel), fun _ h => nomatch h⟩
theorem ok_X10_areDays : cb_MOK cb_tb yX10_areDays md_X10_areDays pt_X10_areDays := by
  refine cb_ok1 ⟨plainFor_of_name (by decide), rfl⟩ (by decide) cs_X10_areDays (by decide) (fun X a M x _ h => cb_run cb_tb_ok vd_X10_areDays (cuts := []) 40 ?_)
  exact And.intro (cb_z_01 _) h
def pt_X10_isOff : cb_PT := cb_f1 (fun _ => True) fun x => cb_z (mi_in x (-99999) 99999)
def md_X10_isOff : cb_D := (RX10, cX10_isOff, 1, (some .boolean), (0, 0, 1, 22), [
  (0, .iload_n 0, 1, 0, 0, 0, 0),
  (1, .ldc_w 336, 3, (-99999), 0, 0, 1779),
  (4, .ldc_w 337, 3, 99999, 0, 0, 1780),
  (7, .invokestatic 160, 3, 0, 0, 0, 0),
  (10, .ireturn, 1, 0, 0, 0, 0)],
  [(1, 160, 3, 0, 0, pt_X10_in)], [])
set_option maxRecDepth 100000 in
theorem vd_X10_isOff : md_X10_isOff.cd.all (cb_vE md_X10_isOff) = true := by decide +kernel
theorem wd_X10_isOff : cb_wd yX10_isOff md_X10_isOff := ⟨cb_tw (i := 1778) (by decide +kernel), cb_tw (i := 11) (by decide +kernel), by decide, by decide⟩
theorem cs_X10_isOff : ∀ X, cb_Bs md_X10_isOff X → ∀ g ∈ md_X10_isOff.ga, cb_CS cb_tb md_X10_isOff X g := fun X B => List.forall_mem_cons.mpr ⟨cb_csS B ok_X10_in wd_X10_in (cb_tw (i := 1504) (by decide +kernel)) (cb_tw (i := 1505) (by decide +kernel)) ⟨by decide, by decide⟩ (by decide +kernel), fun _ h => nomatch h⟩
theorem ok_X10_isOff : cb_MOK cb_tb yX10_isOff md_X10_isOff pt_X10_isOff := by
  refine cb_ok1 ⟨plainFor_of_name (by decide), rfl⟩ (by decide) cs_X10_isOff (by decide) (fun X a M x _ h => cb_run cb_tb_ok vd_X10_isOff (cuts := []) 40 ?_)
  exact And.intro (cb_z_01 _) h
theorem mi_in_rgt (w x : Int32) : mi_in x (-w) w = wm_rgt w x := by
  unfold mi_in wm_rgt
  refine decide_eq_decide.mpr ?_
  rw [Int32.not_lt, Int32.not_lt]
def sp_X10_isRight : cb_Sp := fun _ r M K => match r with
  | [.inl x] => K (some (cb_i (cb_z (wm_rgt (cb_gI M 49 0 3) x)))) M
  | _ => False
def pt_X10_isRight : cb_PT := cb_m 46 1 sp_X10_isRight
theorem rc_X10_isRight : cb_rc cb_tb RX10 pt_X10_isRight := cb_m_rc rfl rfl
def md_X10_isRight : cb_D := (RX10, cX10_isRight, 2, (some .boolean), (0, 0, 1, 22), [
  (0, .iload_n 1, 1, 0, 1, 0, 0),
  (1, .aload_n 0, 1, 0, 0, 0, 0),
  (2, .getfield 20, 3, 0, 10, 10, 1338),
  (5, .iconst 3, 1, 3, 0, 0, 0),
  (6, .iaload, 1, 0, 0, 0, 0),
  (7, .ineg, 1, 0, 0, 0, 0),
  (8, .aload_n 0, 1, 0, 0, 0, 0),
  (9, .getfield 20, 3, 0, 10, 10, 1338),
  (12, .iconst 3, 1, 3, 0, 0, 0),
  (13, .iaload, 1, 0, 0, 0, 0),
  (14, .invokestatic 160, 3, 0, 0, 0, 0),
  (17, .ireturn, 1, 0, 0, 0, 0)],
  [(1, 160, 3, 0, 0, pt_X10_in)], [])
set_option maxRecDepth 100000 in
theorem vd_X10_isRight : md_X10_isRight.cd.all (cb_vE md_X10_isRight) = true := by decide +kernel
theorem wd_X10_isRight : cb_wd yX10_isRight md_X10_isRight := ⟨cb_tw (i := 1681) (by decide +kernel), cb_tw (i := 11) (by decide +kernel), by decide, by decide⟩
theorem cs_X10_isRight : ∀ X, cb_Bs md_X10_isRight X → ∀ g ∈ md_X10_isRight.ga, cb_CS cb_tb md_X10_isRight X g := fun X B => List.forall_mem_cons.mpr ⟨cb_csS B ok_X10_in wd_X10_in (cb_tw (i := 1504) (by decide +kernel)) (cb_tw (i := 1505) (by decide +kernel)) ⟨by decide, by decide⟩ (by decide +kernel), fun _ h => nomatch h⟩
theorem ok_X10_isRight : cb_MOK cb_tb yX10_isRight md_X10_isRight pt_X10_isRight := by
  refine cb_okm ⟨plainFor_of_name (by decide), rfl⟩ (by decide) cs_X10_isRight (by decide) (fun X n0 f i r M hr ha h => ?_)
  have h0 := cb_a1 (T := 46) rfl ha
  subst h0
  match r, hr, h with
  | [.inl x], hr, h =>
    refine cb_run cb_tb_ok vd_X10_isRight (cuts := []) 90 ?_
    refine And.intro (mi_v 3 (by decide)) (And.intro (mi_v 3 (by decide)) ?_)
    show cb_rv _ (cb_z (mi_in x (-(cb_gI M 49 0 3)) (cb_gI M 49 0 3))) ∧ X.K (.inl (some (cb_i (cb_z (mi_in x (-(cb_gI M 49 0 3)) (cb_gI M 49 0 3)))))) (cb_aS n0, f) M
    rw [mi_in_rgt]
    exact And.intro (cb_z_01 _) h
def sp_X10_all : cb_Sp := fun _ r M K => match r with
  | [] => K (some (cb_i (wm_all (cb_gI M 49 0 1)))) M
  | _ => False
def pt_X10_all : cb_PT := cb_m 46 0 sp_X10_all
theorem rc_X10_all : cb_rc cb_tb RX10 pt_X10_all := cb_m_rc rfl rfl
def md_X10_all : cb_D := (RX10, cX10_all, 1, (some .int), (0, 0, 0, 0), [
  (0, .iconst 1, 1, 1, 0, 0, 0),
  (1, .aload_n 0, 1, 0, 0, 0, 0),
  (2, .getfield 20, 3, 0, 10, 10, 1338),
  (5, .iconst 1, 1, 1, 0, 0, 0),
  (6, .iaload, 1, 0, 0, 0, 0),
  (7, .ishl, 1, 0, 0, 0, 0),
  (8, .iconst 1, 1, 1, 0, 0, 0),
  (9, .isub, 1, 0, 0, 0, 0),
  (10, .ireturn, 1, 0, 0, 0, 0)],
  [], [])
set_option maxRecDepth 100000 in
theorem vd_X10_all : md_X10_all.cd.all (cb_vE md_X10_all) = true := by decide +kernel
theorem wd_X10_all : cb_wd yX10_all md_X10_all := ⟨cb_tw (i := 1744) (by decide +kernel), cb_tw (i := 11) (by decide +kernel), by decide, by decide⟩
theorem cs_X10_all : ∀ X, cb_Bs md_X10_all X → ∀ g ∈ md_X10_all.ga, cb_CS cb_tb md_X10_all X g := fun X B => fun _ h => nomatch h
theorem ok_X10_all : cb_MOK cb_tb yX10_all md_X10_all pt_X10_all := by
  refine cb_okm ⟨plainFor_of_name (by decide), rfl⟩ (by decide) cs_X10_all (by decide) (fun X n0 f i r M hr ha h => ?_)
  have h0 := cb_a1 (T := 46) rfl ha
  subst h0
  match r, hr, h with
  | [], hr, h =>
    refine cb_run cb_tb_ok vd_X10_all (cuts := []) 90 ?_
    exact And.intro (mi_v 1 (by decide)) (And.intro trivial h)
theorem mi_sh31 : ∀ k, k < 32 → ((nI k &&& 31).toBitVec.smod 32).toNat = k := by decide +kernel
theorem mi_sbit (x : Int32) {k : Nat} (hk : k < 32) : (x >>> (nI k &&& 31)) &&& 1 = cb_z (cb_bit x k) := by
  refine cb_bit_ext (fun i hi => ?_)
  rw [cb_bit_and]
  have e1 : cb_bit 1 i = decide (i = 0) := by
    have : ∀ i, i < 32 → cb_bit 1 i = decide (i = 0) := by decide
    exact this i hi
  have e2 : ∀ b : Bool, cb_bit (cb_z b) i = (decide (i = 0) && b) := by
    intro b
    cases b
    · have : ∀ i, i < 32 → cb_bit (cb_z false) i = (decide (i = 0) && false) := by decide
      exact this i hi
    · have : ∀ i, i < 32 → cb_bit (cb_z true) i = (decide (i = 0) && true) := by decide
      exact this i hi
  rw [e1, e2, Bool.and_comm]
  by_cases h0 : i = 0
  · subst h0
    congr 1
    unfold cb_bit
    rw [Int32.toBitVec_shiftRight, BitVec.sshiftRight_eq', mi_sh31 k hk, BitVec.getLsbD_sshiftRight, if_pos (by omega)]
    simp
  · rw [decide_eq_false h0]
    rfl
def sp_X10_hangsNow : cb_Sp := fun _ r M K => match r with
  | [.inl x] => ∃ i, (x = nI i ∧ i < 8) ∧ K (some (cb_i (cb_z (cb_bit (cb_gI M 46 0 41) i)))) M
  | _ => False
def pt_X10_hangsNow : cb_PT := cb_m 46 1 sp_X10_hangsNow
theorem rc_X10_hangsNow : cb_rc cb_tb RX10 pt_X10_hangsNow := cb_m_rc rfl rfl
def md_X10_hangsNow : cb_D := (RX10, cX10_hangsNow, 2, (some .boolean), (0, 0, 0, 0), [
  (0, .aload_n 0, 1, 0, 0, 0, 0),
  (1, .getfield 107, 3, 0, 10, 41, 1369),
  (4, .iload_n 1, 1, 0, 1, 0, 0),
  (5, .ishr, 1, 0, 0, 0, 0),
  (6, .iconst 1, 1, 1, 0, 0, 0),
  (7, .iand, 1, 0, 0, 0, 0),
  (8, .iconst 1, 1, 1, 0, 0, 0),
  (9, .if_icmp .ne 7, 3, 0, 16, 0, 0),
  (12, .iconst 1, 1, 1, 0, 0, 0),
  (13, .goto 4, 3, 0, 17, 0, 0),
  (16, .iconst 0, 1, 0, 0, 0, 0),
  (17, .ireturn, 1, 0, 0, 0, 0)],
  [], [])
set_option maxRecDepth 100000 in
theorem vd_X10_hangsNow : md_X10_hangsNow.cd.all (cb_vE md_X10_hangsNow) = true := by decide +kernel
theorem wd_X10_hangsNow : cb_wd yX10_hangsNow md_X10_hangsNow := ⟨cb_tw (i := 1600) (by decide +kernel), cb_tw (i := 11) (by decide +kernel), by decide, by decide⟩
theorem cs_X10_hangsNow : ∀ X, cb_Bs md_X10_hangsNow X → ∀ g ∈ md_X10_hangsNow.ga, cb_CS cb_tb md_X10_hangsNow X g := fun X B => fun _ h => nomatch h
theorem ok_X10_hangsNow : cb_MOK cb_tb yX10_hangsNow md_X10_hangsNow pt_X10_hangsNow := by
  refine cb_okm ⟨plainFor_of_name (by decide), rfl⟩ (by decide) cs_X10_hangsNow (by decide) (fun X n0 f i r M hr ha h => ?_)
  have h0 := cb_a1 (T := 46) rfl ha
  subst h0
  match r, hr, h with
  | [.inl x], hr, h =>
    obtain ⟨i, ⟨rfl, hi⟩, h⟩ := h
    refine cb_run cb_tb_ok vd_X10_hangsNow (cuts := []) 90 ?_
    show (¬ (cb_gI M 46 0 41 >>> (nI i &&& 31)) &&& 1 = 1 → _) ∧ (¬ ¬ (cb_gI M 46 0 41 >>> (nI i &&& 31)) &&& 1 = 1 → _)
    rw [mi_sbit _ (by omega)]
    refine cb_ifn1 (fun q => ?_) (fun q => ?_)
    · rw [q] at h
      exact And.intro cb_rt0 h
    · rw [q] at h
      exact And.intro cb_rt1 h
def sp_X10_runs : cb_Sp := fun _ r M K => match r with
  | [.inl x, .inl d] => ∃ i, (x = nI i ∧ i < 8 ∧ ¬ cb_gI M 55 0 i = 0) ∧ K (some (cb_i (cb_z (decide (¬ cb_gI M 46 0 45 = 0) || decide (cb_rem d (cb_gI M 55 0 i) < 8))))) M
  | _ => False
def pt_X10_runs : cb_PT := cb_m 46 2 sp_X10_runs
theorem rc_X10_runs : cb_rc cb_tb RX10 pt_X10_runs := cb_m_rc rfl rfl
def md_X10_runs : cb_D := (RX10, cX10_runs, 3, (some .boolean), (0, 0, 0, 0), [
  (0, .aload_n 0, 1, 0, 0, 0, 0),
  (1, .getfield 216, 3, 0, 10, 45, 1373),
  (4, .ifCond .ne 16, 3, 0, 20, 0, 0),
  (7, .iload_n 2, 1, 0, 2, 0, 0),
  (8, .aload_n 0, 1, 0, 0, 0, 0),
  (9, .getfield 38, 3, 0, 10, 16, 1344),
  (12, .iload_n 1, 1, 0, 1, 0, 0),
  (13, .iaload, 1, 0, 0, 0, 0),
  (14, .irem, 1, 0, 0, 0, 0),
  (15, .bipush 8, 2, 8, 0, 0, 0),
  (17, .if_icmp .ge 7, 3, 0, 24, 0, 0),
  (20, .iconst 1, 1, 1, 0, 0, 0),
  (21, .goto 4, 3, 0, 25, 0, 0),
  (24, .iconst 0, 1, 0, 0, 0, 0),
  (25, .ireturn, 1, 0, 0, 0, 0)],
  [], [])
set_option maxRecDepth 100000 in
theorem vd_X10_runs : md_X10_runs.cd.all (cb_vE md_X10_runs) = true := by decide +kernel
theorem wd_X10_runs : cb_wd yX10_runs md_X10_runs := ⟨cb_tw (i := 1592) (by decide +kernel), cb_tw (i := 11) (by decide +kernel), by decide, by decide⟩
theorem cs_X10_runs : ∀ X, cb_Bs md_X10_runs X → ∀ g ∈ md_X10_runs.ga, cb_CS cb_tb md_X10_runs X g := fun X B => fun _ h => nomatch h
theorem ok_X10_runs : cb_MOK cb_tb yX10_runs md_X10_runs pt_X10_runs := by
  refine cb_okm ⟨plainFor_of_name (by decide), rfl⟩ (by decide) cs_X10_runs (by decide) (fun X n0 f i r M hr ha h => ?_)
  have h0 := cb_a1 (T := 46) rfl ha
  subst h0
  match r, hr, h with
  | [.inl x, .inl d], hr, h =>
    obtain ⟨i, ⟨rfl, hi, hk⟩, h⟩ := h
    have hxc : (nI i).toNatClampNeg = i := nI_clamp (by omega)
    refine cb_run cb_tb_ok vd_X10_runs (cuts := []) 90 ?_
    refine cb_ifne (fun q => ?_) (fun q => And.intro (vp_in_nI hi (by decide)) (And.intro ?_ (cb_ifge (fun q1 => ?_) (fun q1 => ?_))))
    · rw [decide_eq_true q] at h
      exact And.intro cb_rt1 h
    · rw [hxc]
      exact hk
    · have q1 : 8 ≤ cb_rem d (cb_gI M 55 0 (nI i).toNatClampNeg) := q1
      rw [hxc] at q1
      rw [decide_eq_false (fun w => w q), decide_eq_false (Int32.not_lt.mpr q1)] at h
      exact And.intro cb_rt0 h
    · have q1 : cb_rem d (cb_gI M 55 0 (nI i).toNatClampNeg) < 8 := q1
      rw [hxc] at q1
      rw [decide_eq_false (fun w => w q), decide_eq_true q1] at h
      exact And.intro cb_rt1 h
def pt_X10_round : cb_PT := cb_f2 (fun _ y => y = 1000) fun x _ => wm_fmod x 1000
def md_X10_round : cb_D := (RX10, cX10_round, 2, (some .int), (0, 0, 0, 0), [
  (0, .iload_n 0, 1, 0, 0, 0, 0),
  (1, .iload_n 1, 1, 0, 1, 0, 0),
  (2, .irem, 1, 0, 0, 0, 0),
  (3, .iload_n 1, 1, 0, 1, 0, 0),
  (4, .iadd, 1, 0, 0, 0, 0),
  (5, .iload_n 1, 1, 0, 1, 0, 0),
  (6, .irem, 1, 0, 0, 0, 0),
  (7, .ireturn, 1, 0, 0, 0, 0)],
  [], [])
set_option maxRecDepth 100000 in
theorem vd_X10_round : md_X10_round.cd.all (cb_vE md_X10_round) = true := by decide +kernel
theorem wd_X10_round : cb_wd yX10_round md_X10_round := ⟨cb_tw (i := 1625) (by decide +kernel), cb_tw (i := 11) (by decide +kernel), by decide, by decide⟩
theorem cs_X10_round : ∀ X, cb_Bs md_X10_round X → ∀ g ∈ md_X10_round.ga, cb_CS cb_tb md_X10_round X g := fun X B => fun _ h => nomatch h
theorem ok_X10_round : cb_MOK cb_tb yX10_round md_X10_round pt_X10_round := by
  refine cb_ok2 ⟨plainFor_of_name (by decide), rfl⟩ (by decide) cs_X10_round (by decide) (fun X a M x y hy h => cb_run cb_tb_ok vd_X10_round (cuts := []) 20 ?_)
  subst hy
  exact And.intro (show ¬ (1000 : Int32) = 0 by decide) (And.intro (show ¬ (1000 : Int32) = 0 by decide) (And.intro trivial (cb_eqK h (wm_rnd_eq x))))
def mi_far (a b : Int32) : Int32 := if a ≤ b then b - a else a - b
def pt_X10_far : cb_PT := cb_f2 (fun _ _ => True) mi_far
def md_X10_far : cb_D := (RX10, cX10_far, 2, (some .int), (0, 0, 0, 0), [
  (0, .iload_n 0, 1, 0, 0, 0, 0),
  (1, .iload_n 1, 1, 0, 1, 0, 0),
  (2, .if_icmp .le 9, 3, 0, 11, 0, 0),
  (5, .iload_n 0, 1, 0, 0, 0, 0),
  (6, .iload_n 1, 1, 0, 1, 0, 0),
  (7, .isub, 1, 0, 0, 0, 0),
  (8, .goto 6, 3, 0, 14, 0, 0),
  (11, .iload_n 1, 1, 0, 1, 0, 0),
  (12, .iload_n 0, 1, 0, 0, 0, 0),
  (13, .isub, 1, 0, 0, 0, 0),
  (14, .ireturn, 1, 0, 0, 0, 0)],
  [], [])
set_option maxRecDepth 100000 in
theorem vd_X10_far : md_X10_far.cd.all (cb_vE md_X10_far) = true := by decide +kernel
theorem wd_X10_far : cb_wd yX10_far md_X10_far := ⟨cb_tw (i := 1615) (by decide +kernel), cb_tw (i := 11) (by decide +kernel), by decide, by decide⟩
theorem cs_X10_far : ∀ X, cb_Bs md_X10_far X → ∀ g ∈ md_X10_far.ga, cb_CS cb_tb md_X10_far X g := fun X B => fun _ h => nomatch h
theorem ok_X10_far : cb_MOK cb_tb yX10_far md_X10_far pt_X10_far := by
  refine cb_ok2 ⟨plainFor_of_name (by decide), rfl⟩ (by decide) cs_X10_far (by decide) (fun X a M x y _ h => cb_run cb_tb_ok vd_X10_far (cuts := []) 20 ?_)
  refine And.intro (fun q => And.intro trivial (cb_eqK h ?_)) (fun q => And.intro trivial (cb_eqK h ?_))
  · exact (if_pos q).symm
  · exact (if_neg q).symm
theorem mi_ap_all : ∀ k, k < 1999 → (if 499 < wm_fmod (nI k - 999) 1000 then wm_fmod (nI k - 999) 1000 - 1000 else wm_fmod (nI k - 999) 1000) = wm_ad (nI k - 999) := by decide +kernel
def pt_X10_apartBy : cb_PT := cb_f2 (fun x y => wm_ph x ∧ wm_ph y) wm_ap
def md_X10_apartBy : cb_D := (RX10, cX10_apartBy, 3, (some .int), (0, 0, 1, 21), [
  (0, .iload_n 1, 1, 0, 1, 0, 0),
  (1, .iload_n 0, 1, 0, 0, 0, 0),
  (2, .isub, 1, 0, 0, 0, 0),
  (3, .sipush 1000, 3, 1000, 0, 0, 0),
  (6, .invokestatic 233, 3, 0, 0, 0, 0),
  (9, .istore_n 2, 1, 0, 2, 0, 0),
  (10, .iload_n 2, 1, 0, 2, 0, 0),
  (11, .sipush 499, 3, 499, 0, 0, 0),
  (14, .if_icmp .le 11, 3, 0, 25, 0, 0),
  (17, .iload_n 2, 1, 0, 2, 0, 0),
  (18, .sipush 1000, 3, 1000, 0, 0, 0),
  (21, .isub, 1, 0, 0, 0, 0),
  (22, .goto 4, 3, 0, 26, 0, 0),
  (25, .iload_n 2, 1, 0, 2, 0, 0),
  (26, .ireturn, 1, 0, 0, 0, 0)],
  [(1, 233, 2, 0, 0, pt_X10_round)], [])
set_option maxRecDepth 100000 in
theorem vd_X10_apartBy : md_X10_apartBy.cd.all (cb_vE md_X10_apartBy) = true := by decide +kernel
theorem wd_X10_apartBy : cb_wd yX10_apartBy md_X10_apartBy := ⟨cb_tw (i := 1622) (by decide +kernel), cb_tw (i := 11) (by decide +kernel), by decide, by decide⟩
theorem cs_X10_apartBy : ∀ X, cb_Bs md_X10_apartBy X → ∀ g ∈ md_X10_apartBy.ga, cb_CS cb_tb md_X10_apartBy X g := fun X B => List.forall_mem_cons.mpr ⟨cb_csS B ok_X10_round wd_X10_round (cb_tw (i := 1623) (by decide +kernel)) (cb_tw (i := 1624) (by decide +kernel)) ⟨by decide, by decide⟩ (by decide +kernel), fun _ h => nomatch h⟩
theorem ok_X10_apartBy : cb_MOK cb_tb yX10_apartBy md_X10_apartBy pt_X10_apartBy := by
  refine cb_ok2 ⟨plainFor_of_name (by decide), rfl⟩ (by decide) cs_X10_apartBy (by decide) (fun X a M x y hp h => cb_run cb_tb_ok vd_X10_apartBy (cuts := []) 30 ?_)
  obtain ⟨k, hk, e⟩ := wm_diff hp.1 hp.2
  have key := mi_ap_all k hk
  rw [← e, ← wm_ap_ad] at key
  refine And.intro rfl (And.intro (fun q => And.intro trivial (cb_eqK h ?_)) (fun q => And.intro trivial (cb_eqK h ?_)))
  · have q : wm_fmod (y - x) 1000 ≤ 499 := q
    rw [if_neg (Int32.not_lt.mpr q)] at key
    exact key
  · have q : ¬ wm_fmod (y - x) 1000 ≤ 499 := q
    rw [if_pos (Int32.not_le.mp q)] at key
    exact key
def pt_X10_stepBy : cb_PT := cb_f2 (fun x y => wm_ph x ∧ wm_ph y) fun x y => wm_beat (wm_ap x y)
def md_X10_stepBy : cb_D := (RX10, cX10_stepBy, 3, (some .int), (0, 0, 2, 43), [
  (0, .iload_n 0, 1, 0, 0, 0, 0),
  (1, .iload_n 1, 1, 0, 1, 0, 0),
  (2, .invokestatic 236, 3, 0, 0, 0, 0),
  (5, .istore_n 2, 1, 0, 2, 0, 0),
  (6, .iload_n 2, 1, 0, 2, 0, 0),
  (7, .bipush (-20), 2, (-20), 0, 0, 0),
  (9, .bipush 20, 2, 20, 0, 0, 0),
  (11, .invokestatic 160, 3, 0, 1, 0, 0),
  (14, .ifCond .eq 7, 3, 0, 21, 0, 0),
  (17, .iconst 2, 1, 2, 0, 0, 0),
  (18, .goto 22, 3, 0, 40, 0, 0),
  (21, .iload_n 2, 1, 0, 2, 0, 0),
  (22, .sipush (-480), 3, (-480), 0, 0, 0),
  (25, .if_icmp .le 10, 3, 0, 35, 0, 0),
  (28, .iload_n 2, 1, 0, 2, 0, 0),
  (29, .sipush 480, 3, 480, 0, 0, 0),
  (32, .if_icmp .lt 7, 3, 0, 39, 0, 0),
  (35, .iconst 1, 1, 1, 0, 0, 0),
  (36, .goto 4, 3, 0, 40, 0, 0),
  (39, .iconst 0, 1, 0, 0, 0, 0),
  (40, .ireturn, 1, 0, 0, 0, 0)],
  [(1, 236, 2, 0, 0, pt_X10_apartBy), (1, 160, 3, 0, 0, pt_X10_in)], [])
set_option maxRecDepth 100000 in
theorem vd_X10_stepBy : md_X10_stepBy.cd.all (cb_vE md_X10_stepBy) = true := by decide +kernel
theorem wd_X10_stepBy : cb_wd yX10_stepBy md_X10_stepBy := ⟨cb_tw (i := 1669) (by decide +kernel), cb_tw (i := 11) (by decide +kernel), by decide, by decide⟩
theorem cs_X10_stepBy : ∀ X, cb_Bs md_X10_stepBy X → ∀ g ∈ md_X10_stepBy.ga, cb_CS cb_tb md_X10_stepBy X g := fun X B => List.forall_mem_cons.mpr ⟨cb_csS B ok_X10_apartBy wd_X10_apartBy (cb_tw (i := 1620) (by decide +kernel)) (cb_tw (i := 1621) (by decide +kernel)) ⟨by decide, by decide⟩ (by decide +kernel), List.forall_mem_cons.mpr ⟨cb_csS B ok_X10_in wd_X10_in (cb_tw (i := 1504) (by decide +kernel)) (cb_tw (i := 1505) (by decide +kernel)) ⟨by decide, by decide⟩ (by decide +kernel), fun _ h => nomatch h⟩⟩
theorem ok_X10_stepBy : cb_MOK cb_tb yX10_stepBy md_X10_stepBy pt_X10_stepBy := by
  refine cb_ok2 ⟨plainFor_of_name (by decide), rfl⟩ (by decide) cs_X10_stepBy (by decide) (fun X a M x y hp h => cb_run cb_tb_ok vd_X10_stepBy (cuts := []) 40 ?_)
  refine And.intro hp ?_
  generalize wm_ap x y = v at h
  have h : X.K (.inl (some (cb_i (wm_beat v)))) a M := h
  unfold wm_beat at h
  refine cb_ifz (fun q => ?_) (fun q => ?_)
  · have q : ¬ (-20 ≤ v ∧ v ≤ 20) := fun w => by
      have : mi_in v (-20) 20 = true := decide_eq_true ⟨Int32.not_lt.mpr w.1, Int32.not_lt.mpr w.2⟩
      rw [this] at q
      cases q
    rw [if_neg q] at h
    refine And.intro (fun q1 => ?_) (fun q1 => And.intro (fun q2 => ?_) (fun q2 => ?_))
    · have q1 : v ≤ -480 := q1
      rw [if_pos (Or.inl q1)] at h
      exact And.intro trivial h
    · have q1 : ¬ v ≤ -480 := q1
      have q2 : v < 480 := q2
      rw [if_neg (fun w => w.elim q1 (fun w => absurd q2 (Int32.not_lt.mpr w)))] at h
      exact And.intro trivial h
    · have q2 : ¬ v < 480 := q2
      rw [if_pos (Or.inr (Int32.not_lt.mp q2))] at h
      exact And.intro trivial h
  · have q := of_decide_eq_true q
    rw [if_pos ⟨Int32.not_lt.mp q.1, Int32.not_lt.mp q.2⟩] at h
    exact And.intro trivial h
def mi_ones (x : Int32) : Int32 := wm_sum (fun k => cb_z (cb_bit x k)) 8
theorem mi_ones_bc : ∀ c, c < 256 → mi_ones (nI c) = wm_bc (nI c) := by decide +kernel
def pt_X10_ones : cb_PT := cb_f1 (fun _ => True) mi_ones
def md_X10_ones : cb_D := (RX10, cX10_ones, 3, (some .int), (0, 0, 0, 0), [
  (0, .iconst 0, 1, 0, 0, 0, 0),
  (1, .istore_n 1, 1, 0, 1, 0, 0),
  (2, .iconst 0, 1, 0, 0, 0, 0),
  (3, .istore_n 2, 1, 0, 2, 0, 0),
  (4, .iload_n 2, 1, 0, 2, 0, 0),
  (5, .bipush 8, 2, 8, 0, 0, 0),
  (7, .if_icmp .ge 17, 3, 0, 24, 0, 0),
  (10, .iload_n 1, 1, 0, 1, 0, 0),
  (11, .iload_n 0, 1, 0, 0, 0, 0),
  (12, .iload_n 2, 1, 0, 2, 0, 0),
  (13, .ishr, 1, 0, 0, 0, 0),
  (14, .iconst 1, 1, 1, 0, 0, 0),
  (15, .iand, 1, 0, 0, 0, 0),
  (16, .iadd, 1, 0, 0, 0, 0),
  (17, .istore_n 1, 1, 0, 1, 0, 0),
  (18, .iinc 2 1, 3, 1, 2, 0, 0),
  (21, .goto (-17), 3, 0, 4, 0, 0),
  (24, .iload_n 1, 1, 0, 1, 0, 0),
  (25, .ireturn, 1, 0, 0, 0, 0)],
  [], [])
set_option maxRecDepth 100000 in
theorem vd_X10_ones : md_X10_ones.cd.all (cb_vE md_X10_ones) = true := by decide +kernel
theorem wd_X10_ones : cb_wd yX10_ones md_X10_ones := ⟨cb_tw (i := 1755) (by decide +kernel), cb_tw (i := 11) (by decide +kernel), by decide, by decide⟩
theorem cs_X10_ones : ∀ X, cb_Bs md_X10_ones X → ∀ g ∈ md_X10_ones.ga, cb_CS cb_tb md_X10_ones X g := fun X B => fun _ h => nomatch h
theorem ok_X10_ones : cb_MOK cb_tb yX10_ones md_X10_ones pt_X10_ones := by
  refine cb_ok1 ⟨plainFor_of_name (by decide), rfl⟩ (by decide) cs_X10_ones (by decide) (fun X a M x _ h => ?_)
  have loop : ∀ k, k ≤ 8 → ∀ y s : Int32, y = nI k → s = wm_sum (fun k => cb_z (cb_bit x k)) k → cb_Gd cb_tb md_X10_ones X 4 [some (cb_i x), some (cb_i s), some (cb_i y)] [] a M 0 0 := by
    refine cb_up (fun k => ∀ y s : Int32, y = nI k → s = wm_sum (fun k => cb_z (cb_bit x k)) k → cb_Gd cb_tb md_X10_ones X 4 [some (cb_i x), some (cb_i s), some (cb_i y)] [] a M 0 0) ?_ ?_
    · intro y s hy hs
      refine cb_run cb_tb_ok vd_X10_ones (cuts := [4]) 40 ?_
      exact cb_lout (N := 8) (n := 8) hy rfl (And.intro trivial (cb_eqK h hs))
    · intro k hk ih y s hy hs
      refine cb_run cb_tb_ok vd_X10_ones (cuts := [4]) 40 ?_
      refine cb_lin (N := 8) (n := 8) hy rfl hk (by decide) ?_
      refine ih _ _ (by rw [hy, nI_1]) ?_
      rw [wm_sum, hs, hy]
      show _ + ((x >>> (nI k &&& 31)) &&& 1) = _
      rw [mi_sbit x (by omega)]
  exact cb_run cb_tb_ok vd_X10_ones (cuts := [4]) 40 (loop 0 (Nat.zero_le _) _ _ rfl rfl)
