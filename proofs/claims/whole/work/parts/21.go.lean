/-! ===== a day of the trial ===== -/
theorem cb_bit_ush (x : Int32) {i : Nat} (h : i < 32) : cb_bit (cb_ush x (nI i)) 0 = cb_bit x i := by
  unfold cb_bit
  rw [← BitVec.testBit_toNat, ← BitVec.testBit_toNat, cb_ush_nat x h]
  simp [Nat.testBit_eq_decide_div_mod_eq]
theorem cb_two (R : Int32) {i j : Nat} (hi : i < 32) (hj : j < 32) : cb_ush R (nI i) &&& cb_ush R (nI j) &&& 1 = cb_z (cb_bit R i && cb_bit R j) := by
  rw [cb_and1, cb_bit_and, cb_bit_ush R hi, cb_bit_ush R hj]
  rfl
/-- the trial stands ready: its plan P, so many clocks, whose board is whose, the pairs, the weights -/
def wk_R (M : cb_M) (P n m : Nat) : Prop := wk_T M P n ∧ wk_bm M n ∧ (cb_gI M 25 0 13 = nI m ∧ m ≤ 28 ∧ wk_pw M m) ∧ wk_pr M P n m ∧ ∀ i, i < n → 1 ≤ 100 * cb_gI M 8 P i
def wk_Ph (M : cb_M) (n : Nat) : Prop := ∀ i, i < n → wm_ph (cb_gI M 27 0 i)
/-- what days change: the day, phases, how far off, the drives -/
def fr_t (t j : Nat) : Bool := Nat.beq t 27 || (Nat.beq t 28 || (Nat.beq t 32 || (Nat.beq t 25 && Nat.beq j 3)))
def fr_d (t _j : Nat) : Bool := Nat.beq t 32
theorem fr_d_t : ∀ t j, fr_d t j = true → fr_t t j = true := by
  intro t j h
  unfold fr_d at h
  unfold fr_t
  rw [h]
  simp
theorem wk_c_fr {M M' : cb_M} (h : cb_fr fr_t M M') (P n : Nat) : wk_c M' P n = wk_c M P n := by
  unfold wk_c
  rw [h.fn 9 P (fun _ => rfl), h.fn 29 0 (fun _ => rfl), h.fn 30 0 (fun _ => rfl), h.fn 8 P (fun _ => rfl), h.fn 4 P (fun _ => rfl), h.fn 11 P (fun _ => rfl), h.fn 26 0 (fun _ => rfl), h.fn 14 P (fun _ => rfl)]
theorem wt_c_fr {M M' : cb_M} (h : cb_fr fr_t M M') (P n : Nat) : wt_c M' P n = wt_c M P n := by
  unfold wt_c
  rw [wk_c_fr h, h.fn 9 P (fun _ => rfl), h.fn 29 0 (fun _ => rfl), h.fn 8 P (fun _ => rfl), h.fn 11 P (fun _ => rfl), h.fn 26 0 (fun _ => rfl)]
theorem wt_u_fr {M M' : cb_M} (h : cb_fr fr_t M M') (n : Nat) : wt_u M' n = wt_u M n := by
  unfold wt_u
  rw [h.1 25 0 9 rfl, h.1 25 0 10 rfl]
theorem wk_T_fr {M M' : cb_M} (h : cb_fr fr_t M M') {P n : Nat} (hT : wk_T M P n) : wk_T M' P n := by
  unfold wk_T at *
  rw [h.ref, h.1 25 0 2 rfl]
  exact hT
theorem wk_R_fr {M M' : cb_M} (h : cb_fr fr_t M M') {P n m : Nat} (hR : wk_R M P n m) : wk_R M' P n m := by
  obtain ⟨hT, hb, ⟨h1, h2, h3⟩, h4, h5⟩ := hR
  refine ⟨wk_T_fr h hT, ?_, ⟨?_, h2, ?_⟩, ?_, ?_⟩
  · unfold wk_bm at *
    rw [h.fn 31 0 (fun _ => rfl) |> fun q => (by rfl : cb_gI M' 31 0 = cb_gI M' 31 0), h.fn 29 0 (fun _ => rfl)]
    intro i j hi hj
    rw [h.fn 31 0 (fun _ => rfl)]
    exact hb i j hi hj
  · rw [h.1 25 0 13 rfl]
    exact h1
  · unfold wk_pw at *
    rw [h.fn 33 0 (fun _ => rfl), h.fn 34 0 (fun _ => rfl)]
    exact h3
  · have e1 : wk_up M' = wk_up M := funext fun i => by unfold wk_up; rw [h.1 25 0 9 rfl]
    have e2 : wk_h M' P n = wk_h M P n := funext fun i => funext fun j => by unfold wk_h; rw [wk_c_fr h]
    have e3 : ∀ g, wk_g M' g = wk_g M g := fun g => funext fun p => by unfold wk_g; rw [h.fn 33 0 (fun _ => rfl), h.fn 34 0 (fun _ => rfl), h.fn 35 0 (fun _ => rfl), h.fn 36 0 (fun _ => rfl)]
    unfold wk_pr at *
    intro g
    rw [e1, e2, e3]
    exact h4 g
  · rw [h.fn 8 P (fun _ => rfl)]
    exact h5
def sp_gatherDrives : cb_Sp := fun _ r M K => match r with
  | [.inl R] => ∃ m, (cb_gI M 25 0 13 = nI m ∧ m ≤ 28 ∧ wk_pw M m) ∧ ∀ M', cb_fr fr_d M M' → (∀ i, i < 8 → cb_gI M' 32 0 i = wm_sum (wk_g M (wk_D R (cb_gI M 27 0) i)) m) → K none M'
  | _ => False
def pt_X7_gatherDrives : cb_PT := cb_m 25 1 sp_gatherDrives
theorem rc_X7_gatherDrives : cb_rc cb_tb RX7 pt_X7_gatherDrives := cb_m_rc rfl rfl
def md_X7_gatherDrives : cb_D := (RX7, cX7_gatherDrives, 6, none, (0, 0, 1, 23), [
  (0, .aload_n 0, 1, 0, 0, 0, 0),
  (1, .getfield 44, 3, 0, 7, 12, 250),
  (4, .iconst 0, 1, 0, 0, 0, 0),
  (5, .invokestatic 156, 3, 0, 0, 0, 0),
  (8, .iconst 0, 1, 0, 0, 0, 0),
  (9, .istore_n 2, 1, 0, 2, 0, 0),
  (10, .iload_n 2, 1, 0, 2, 0, 0),
  (11, .aload_n 0, 1, 0, 0, 0, 0),
  (12, .getfield 47, 3, 0, 7, 13, 251),
  (15, .if_icmp .ge 96, 3, 0, 111, 0, 0),
  (18, .aload_n 0, 1, 0, 0, 0, 0),
  (19, .getfield 50, 3, 0, 7, 14, 252),
  (22, .iload_n 2, 1, 0, 2, 0, 0),
  (23, .iaload, 1, 0, 0, 0, 0),
  (24, .istore_n 3, 1, 0, 3, 0, 0),
  (25, .aload_n 0, 1, 0, 0, 0, 0),
  (26, .getfield 53, 3, 0, 7, 15, 253),
  (29, .iload_n 2, 1, 0, 2, 0, 0),
  (30, .iaload, 1, 0, 0, 0, 0),
  (31, .istore 4, 2, 0, 4, 0, 0),
  (33, .iload_n 1, 1, 0, 1, 0, 0),
  (34, .iload_n 3, 1, 0, 3, 0, 0),
  (35, .iushr, 1, 0, 0, 0, 0),
  (36, .iload_n 1, 1, 0, 1, 0, 0),
  (37, .iload 4, 2, 0, 4, 0, 0),
  (39, .iushr, 1, 0, 0, 0, 0),
  (40, .iand, 1, 0, 0, 0, 0),
  (41, .iconst 1, 1, 1, 0, 0, 0),
  (42, .iand, 1, 0, 0, 0, 0),
  (43, .iconst 1, 1, 1, 0, 0, 0),
  (44, .if_icmp .ne 61, 3, 0, 105, 0, 0),
  (47, .aload_n 0, 1, 0, 0, 0, 0),
  (48, .getfield 22, 3, 0, 7, 5, 236),
  (51, .iload_n 3, 1, 0, 3, 0, 0),
  (52, .iaload, 1, 0, 0, 0, 0),
  (53, .aload_n 0, 1, 0, 0, 0, 0),
  (54, .getfield 22, 3, 0, 7, 5, 236),
  (57, .iload 4, 2, 0, 4, 0, 0),
  (59, .iaload, 1, 0, 0, 0, 0),
  (60, .invokestatic 162, 3, 0, 1, 0, 0),
  (63, .invokestatic 165, 3, 0, 2, 0, 0),
  (66, .istore 5, 2, 0, 5, 0, 0),
  (68, .aload_n 0, 1, 0, 0, 0, 0),
  (69, .getfield 44, 3, 0, 7, 12, 250),
  (72, .iload_n 3, 1, 0, 3, 0, 0),
  (73, .dup2, 1, 0, 0, 0, 0),
  (74, .iaload, 1, 0, 0, 0, 0),
  (75, .aload_n 0, 1, 0, 0, 0, 0),
  (76, .getfield 56, 3, 0, 7, 16, 254),
  (79, .iload_n 2, 1, 0, 2, 0, 0),
  (80, .iaload, 1, 0, 0, 0, 0),
  (81, .iload 5, 2, 0, 5, 0, 0),
  (83, .imul, 1, 0, 0, 0, 0),
  (84, .iadd, 1, 0, 0, 0, 0),
  (85, .iastore, 1, 0, 0, 0, 0),
  (86, .aload_n 0, 1, 0, 0, 0, 0),
  (87, .getfield 44, 3, 0, 7, 12, 250),
  (90, .iload 4, 2, 0, 4, 0, 0),
  (92, .dup2, 1, 0, 0, 0, 0),
  (93, .iaload, 1, 0, 0, 0, 0),
  (94, .aload_n 0, 1, 0, 0, 0, 0),
  (95, .getfield 59, 3, 0, 7, 17, 255),
  (98, .iload_n 2, 1, 0, 2, 0, 0),
  (99, .iaload, 1, 0, 0, 0, 0),
  (100, .iload 5, 2, 0, 5, 0, 0),
  (102, .imul, 1, 0, 0, 0, 0),
  (103, .isub, 1, 0, 0, 0, 0),
  (104, .iastore, 1, 0, 0, 0, 0),
  (105, .iinc 2 1, 3, 1, 2, 0, 0),
  (108, .goto (-98), 3, 0, 10, 0, 0),
  (111, .return_, 1, 0, 0, 0, 0)],
  [(1, 156, 2, 0, 0, pt_J7_fill_53178), (1, 162, 2, 0, 0, pt_X9_apartBy), (1, 165, 1, 0, 0, pt_X7_tendencyBy)], [])
set_option maxRecDepth 100000 in
theorem vd_X7_gatherDrives : md_X7_gatherDrives.cd.all (cb_vE md_X7_gatherDrives) = true := by decide +kernel
theorem wd_X7_gatherDrives : cb_wd yX7_gatherDrives md_X7_gatherDrives := ⟨cb_tw (i := 862) (by decide +kernel), cb_tw (i := 5) (by decide +kernel), by decide, by decide⟩
theorem cs_X7_gatherDrives : ∀ X, cb_Bs md_X7_gatherDrives X → ∀ g ∈ md_X7_gatherDrives.ga, cb_CS cb_tb md_X7_gatherDrives X g := fun X B => List.forall_mem_cons.mpr ⟨cb_csS B ok_J7_fill_53178 wd_J7_fill_53178 (cb_tw (i := 863) (by decide +kernel)) (cb_tw (i := 488) (by decide +kernel)) ⟨by decide, by decide⟩ (by decide +kernel), List.forall_mem_cons.mpr ⟨cb_csN (host := "WallClocks") B ok_X9_apartBy nt_X9_apartBy wd_X9_apartBy (cb_tw (i := 498) (by decide +kernel)) (cb_tw (i := 499) (by decide +kernel)) ⟨by decide, by decide⟩ (by decide +kernel), List.forall_mem_cons.mpr ⟨cb_csS B ok_X7_tendencyBy wd_X7_tendencyBy (cb_tw (i := 864) (by decide +kernel)) (cb_tw (i := 865) (by decide +kernel)) ⟨by decide, by decide⟩ (by decide +kernel), fun _ h => nomatch h⟩⟩⟩
theorem ok_X7_gatherDrives : cb_MOK cb_tb yX7_gatherDrives md_X7_gatherDrives pt_X7_gatherDrives := by
  refine cb_okm ⟨plainFor_of_name (by decide), rfl⟩ (by decide) cs_X7_gatherDrives (by decide) (fun X n0 f i r M hr ha h => ?_)
  have h0 := cb_a1 (T := 25) rfl ha
  subst h0
  match r, hr, h with
  | [.inl R], hr, h =>
    obtain ⟨m, ⟨hm, hm28, hw⟩, h⟩ := h
    have loop : ∀ j, j ≤ m → ∀ (x : Int32) (M' : cb_M) (v3 v4 v5 : Option cb_V), x = nI j → cb_fr fr_d M M' → (∀ i, i < 8 → cb_gI M' 32 0 i = wm_sum (wk_g M (wk_D R (cb_gI M 27 0) i)) j) → cb_Gd cb_tb md_X7_gatherDrives X 10 [some (cb_r 25 0), some (cb_i R), some (cb_i x), v3, v4, v5] [] (cb_aS n0, f) M' 0 0 := by
      refine cb_up (fun j => ∀ (x : Int32) (M' : cb_M) (v3 v4 v5 : Option cb_V), x = nI j → cb_fr fr_d M M' → (∀ i, i < 8 → cb_gI M' 32 0 i = wm_sum (wk_g M (wk_D R (cb_gI M 27 0) i)) j) → cb_Gd cb_tb md_X7_gatherDrives X 10 [some (cb_r 25 0), some (cb_i R), some (cb_i x), v3, v4, v5] [] (cb_aS n0, f) M' 0 0) ?_ ?_
      · intro x M' v3 v4 v5 hx hF hD
        refine cb_run cb_tb_ok vd_X7_gatherDrives (cuts := [10]) 60 ?_
        refine cb_lout hx ((hF.1 25 0 13 rfl).trans hm) ?_
        exact And.intro rfl (h M' hF hD)
      · intro j hj ih x M' v3 v4 v5 hx hF hD
        have hx28 : vp_in x 28 := by rw [hx]; exact cb_in8 hj hm28 (by decide)
        have hxc : x.toNatClampNeg = j := by rw [hx]; exact nI_clamp (by omega)
        refine cb_run cb_tb_ok vd_X7_gatherDrives (cuts := [10]) 90 ?_
        refine cb_lin hx ((hF.1 25 0 13 rfl).trans hm) hj (by omega) ?_
        obtain ⟨wa, wb⟩ := hw j hj
        have ea : cb_gI M' 33 0 x.toNatClampNeg = cb_gI M 33 0 j := by rw [hxc]; exact hF.1 33 0 j rfl
        have eb : cb_gI M' 34 0 x.toNatClampNeg = cb_gI M 34 0 j := by rw [hxc]; exact hF.1 34 0 j rfl
        obtain ⟨a, ha8, ea2, ea3⟩ := cb_idx wa (by decide)
        obtain ⟨b, hb8, eb2, eb3⟩ := cb_idx wb (by decide)
        have ean := ea.trans ea2
        have ebn := eb.trans eb2
        have wa' : vp_in (cb_gI M' 33 0 x.toNatClampNeg) 8 := by rw [ea]; exact wa
        have wb' : vp_in (cb_gI M' 34 0 x.toNatClampNeg) 8 := by rw [eb]; exact wb
        have eac : (cb_gI M' 33 0 x.toNatClampNeg).toNatClampNeg = a := by rw [ea]; exact ea3
        have ebc : (cb_gI M' 34 0 x.toNatClampNeg).toNatClampNeg = b := by rw [eb]; exact eb3
        have hph : cb_gI M' 27 0 = cb_gI M 27 0 := hF.fn 27 0 (fun _ => rfl)
        have hstep : ∀ i, wm_sum (wk_g M (wk_D R (cb_gI M 27 0) i)) (j + 1) = wm_sum (wk_g M (wk_D R (cb_gI M 27 0) i)) j + wk_D R (cb_gI M 27 0) i a b (cb_gI M 35 0 j) (cb_gI M 36 0 j) := by
          intro i
          rw [wm_sum]
          unfold wk_g
          rw [ea3, eb3]
        have hcond : (cb_ush R (cb_gI M' 33 0 x.toNatClampNeg) &&& cb_ush R (cb_gI M' 34 0 x.toNatClampNeg) &&& 1) = cb_z (cb_bit R a && cb_bit R b) := by rw [ean, ebn, cb_two R (by omega) (by omega)]
        refine And.intro hx28 (And.intro hx28 (And.intro (fun q => ?_) (fun q => ?_)))
        · refine ih _ _ _ _ _ (by rw [hx, nI_1]) hF (fun i hi => ?_)
          have q : ¬ (cb_ush R (cb_gI M' 33 0 x.toNatClampNeg) &&& cb_ush R (cb_gI M' 34 0 x.toNatClampNeg) &&& 1) = 1 := q
          rw [hcond] at q
          rw [hstep, hD i hi]
          unfold wk_D
          rw [if_neg, Int32.add_zero]
          rintro ⟨c1, c2⟩
          rw [c1, c2] at q
          exact q rfl
        · have q : (cb_ush R (cb_gI M' 33 0 x.toNatClampNeg) &&& cb_ush R (cb_gI M' 34 0 x.toNatClampNeg) &&& 1) = 1 := Classical.not_not.mp q
          rw [hcond] at q
          have q : cb_bit R a = true ∧ cb_bit R b = true := by
            cases h1 : cb_bit R a <;> cases h2 : cb_bit R b <;> simp_all [cb_z]
          refine And.intro wa' (And.intro wb' (And.intro trivial (And.intro trivial (And.intro wa' (And.intro hx28 (And.intro wa' (And.intro wb' (And.intro hx28 (And.intro wb' ?_)))))))))
          refine ih _ _ _ _ _ (by rw [hx, nI_1]) ((hF.set _ rfl).set _ rfl) (fun i hi => ?_)
          rw [hstep, ← hD i hi]
          rw [cb_gI_sI, cb_gI_sI, cb_gI_sI, cb_gI_sI]
          unfold wk_D
          rw [if_pos q]
          rw [eac, ebc, hxc]
          show (if 32 = 32 ∧ 0 = 0 ∧ i = b then (if 32 = 32 ∧ 0 = 0 ∧ b = a then cb_gI M' 32 0 a + cb_gI M' 35 0 j * wm_ten (wm_ap (cb_gI M' 27 0 a) (cb_gI M' 27 0 b)) else cb_gI M' 32 0 b) - cb_gI M' 36 0 j * wm_ten (wm_ap (cb_gI M' 27 0 a) (cb_gI M' 27 0 b)) else (if 32 = 32 ∧ 0 = 0 ∧ i = a then cb_gI M' 32 0 a + cb_gI M' 35 0 j * wm_ten (wm_ap (cb_gI M' 27 0 a) (cb_gI M' 27 0 b)) else cb_gI M' 32 0 i)) = _
          rw [hph, hF.1 35 0 j rfl, hF.1 36 0 j rfl]
          simp only [true_and]
          unfold wn_T
          by_cases c1 : i = a
          · subst c1
            by_cases c2 : i = b
            · subst c2
              simp [Int32.sub_eq_add_neg, Int32.add_assoc]
            · simp [c2]
          · by_cases c2 : i = b
            · subst c2
              simp [c1, Int32.sub_eq_add_neg]
            · simp [c1, c2]
    refine cb_run cb_tb_ok vd_X7_gatherDrives (cuts := [10]) 40 ?_
    refine And.intro (show (8 : Nat) < 2 ^ 31 by decide) ?_
    refine loop 0 (Nat.zero_le _) _ _ _ _ _ rfl ⟨fun t i j q => ?_, rfl⟩ (fun i hi => ?_)
    · refine if_neg ?_
      rintro ⟨rfl, -⟩
      cases q
    · exact if_pos ⟨rfl, rfl, hi⟩
