/-! ===== who runs, who is stopped, who goes ===== -/
theorem cb_aPP {n P t : Nat} {f : Option Nat} (h : P < 2) (ht : cb_nth cb_cnt t 1 = 3) : ((cb_aS n, f) : cb_A).1 t P = true := cb_aP h ht
def wk_T (M : cb_M) (P n : Nat) : Prop := cb_gR M 25 0 0 = some P ∧ P < 2 ∧ cb_gI M 25 0 2 = nI n ∧ n ≤ 8
def wk_u (M : cb_M) : wm_U := (fun i => cb_bit (cb_gI M 25 0 9) i, decide (¬ cb_gI M 25 0 10 = 0))
def wk_kp (M : cb_M) (P : Nat) (i : Nat) : Bool := decide (cb_gI M 11 P i ≤ 8 ∨ cb_rem (cb_gI M 25 0 3) (cb_gI M 11 P i) < 8)
def wk_ro (M : cb_M) (P n : Nat) : Int32 := if cb_gI M 25 0 10 = 0 then wm_mask (wk_kp M P) n &&& cb_gI M 25 0 9 else cb_gI M 25 0 9
theorem wk_ro_bit {M : cb_M} {P n i : Nat} (hn : n ≤ 8) (hi : i < n) : cb_bit (wk_ro M P n) i = wm_run (wk_c M P n) (wk_u M) (cb_gI M 25 0 3) i := by
  unfold wk_ro wm_run wk_u
  by_cases h : cb_gI M 25 0 10 = 0
  · rw [if_pos h, cb_bit_and, wm_mask_bit _ _ (by omega)]
    simp only [h, hi, decide_true, Bool.true_and, not_true_eq_false, decide_false, Bool.false_or]
    rw [Bool.and_comm]
    rfl
  · rw [if_neg h]
    simp [h]
def sp_runningOnes : cb_Sp := fun _ r M K => match r with
  | [] => ∃ P n, wk_T M P n ∧ K (some (cb_i (wk_ro M P n))) M
  | _ => False
def pt_X7_runningOnes : cb_PT := cb_m 25 0 sp_runningOnes
theorem rc_X7_runningOnes : cb_rc cb_tb RX7 pt_X7_runningOnes := cb_m_rc rfl rfl
def md_X7_runningOnes : cb_D := (RX7, cX7_runningOnes, 3, (some .int), (0, 0, 1, 23), [
  (0, .aload_n 0, 1, 0, 0, 0, 0),
  (1, .getfield 37, 3, 0, 7, 10, 248),
  (4, .ifCond .eq 8, 3, 0, 12, 0, 0),
  (7, .aload_n 0, 1, 0, 0, 0, 0),
  (8, .getfield 34, 3, 0, 7, 9, 247),
  (11, .ireturn, 1, 0, 0, 0, 0),
  (12, .iconst 0, 1, 0, 0, 0, 0),
  (13, .istore_n 1, 1, 0, 1, 0, 0),
  (14, .iconst 0, 1, 0, 0, 0, 0),
  (15, .istore_n 2, 1, 0, 2, 0, 0),
  (16, .iload_n 2, 1, 0, 2, 0, 0),
  (17, .aload_n 0, 1, 0, 0, 0, 0),
  (18, .getfield 9, 3, 0, 7, 2, 226),
  (21, .if_icmp .ge 30, 3, 0, 51, 0, 0),
  (24, .aload_n 0, 1, 0, 0, 0, 0),
  (25, .getfield 62, 3, 0, 7, 0, 218),
  (28, .iload_n 2, 1, 0, 2, 0, 0),
  (29, .aload_n 0, 1, 0, 0, 0, 0),
  (30, .getfield 15, 3, 0, 7, 3, 231),
  (33, .invokevirtual 133, 3, 0, 0, 0, 0),
  (36, .ifCond .eq 9, 3, 0, 45, 0, 0),
  (39, .iload_n 1, 1, 0, 1, 0, 0),
  (40, .iconst 1, 1, 1, 0, 0, 0),
  (41, .iload_n 2, 1, 0, 2, 0, 0),
  (42, .ishl, 1, 0, 0, 0, 0),
  (43, .ior, 1, 0, 0, 0, 0),
  (44, .istore_n 1, 1, 0, 1, 0, 0),
  (45, .iinc 2 1, 3, 1, 2, 0, 0),
  (48, .goto (-32), 3, 0, 16, 0, 0),
  (51, .iload_n 1, 1, 0, 1, 0, 0),
  (52, .aload_n 0, 1, 0, 0, 0, 0),
  (53, .getfield 34, 3, 0, 7, 9, 247),
  (56, .iand, 1, 0, 0, 0, 0),
  (57, .ireturn, 1, 0, 0, 0, 0)],
  [(0, 133, 3, 0, 0, pt_X4_runsOn)], [])
set_option maxRecDepth 100000 in
theorem vd_X7_runningOnes : md_X7_runningOnes.cd.all (cb_vE md_X7_runningOnes) = true := by decide +kernel
theorem wd_X7_runningOnes : cb_wd yX7_runningOnes md_X7_runningOnes := ⟨cb_tw (i := 817) (by decide +kernel), cb_tw (i := 5) (by decide +kernel), by decide, by decide⟩
theorem cs_X7_runningOnes : ∀ X, cb_Bs md_X7_runningOnes X → ∀ g ∈ md_X7_runningOnes.ga, cb_CS cb_tb md_X7_runningOnes X g := fun X B => List.forall_mem_cons.mpr ⟨cb_csV B ok_X4_runsOn wd_X4_runsOn (cb_tw (i := 818) (by decide +kernel)) (cb_tw (i := 807) (by decide +kernel)) (cb_tw (i := 808) (by decide +kernel)) rc_X4_runsOn ⟨by decide, by decide⟩ (by decide +kernel), fun _ h => nomatch h⟩
theorem ok_X7_runningOnes : cb_MOK cb_tb yX7_runningOnes md_X7_runningOnes pt_X7_runningOnes := by
  refine cb_okm ⟨plainFor_of_name (by decide), rfl⟩ (by decide) cs_X7_runningOnes (by decide) (fun X n0 f i r M hr ha h => ?_)
  have h0 := cb_a1 (T := 25) rfl ha
  subst h0
  match r, hr, h with
  | [], hr, h =>
    obtain ⟨P, n, ⟨hP, hP2, hn, hn8⟩, h⟩ := h
    have loop : cb_gI M 25 0 10 = 0 → ∀ j, j ≤ n → ∀ x m : Int32, x = nI j → m = wm_mask (wk_kp M P) j → cb_Gd cb_tb md_X7_runningOnes X 16 [some (cb_r 25 0), some (cb_i m), some (cb_i x)] [] (cb_aS n0, f) M 0 0 := by
      intro hw
      refine cb_up (fun j => ∀ x m : Int32, x = nI j → m = wm_mask (wk_kp M P) j → cb_Gd cb_tb md_X7_runningOnes X 16 [some (cb_r 25 0), some (cb_i m), some (cb_i x)] [] (cb_aS n0, f) M 0 0) ?_ ?_
      · intro x m hx hm
        refine cb_run cb_tb_ok vd_X7_runningOnes (cuts := [16]) 40 ?_
        refine And.intro (fun _ => ?_) (fun q => absurd (by rw [hn, hx]; exact Int32.le_refl _) q)
        refine And.intro trivial (cb_eqK h ?_)
        unfold wk_ro
        rw [if_pos hw, hm]
      · intro j hj ih x m hx hm
        have hxi : vp_in x 8 := by rw [hx]; exact cb_in8 hj hn8 (by decide)
        have hxc : x.toNatClampNeg = j := by rw [hx]; exact nI_clamp (by omega)
        refine cb_run cb_tb_ok vd_X7_runningOnes (cuts := [16]) 40 ?_
        refine And.intro (fun q => ?_) (fun _ => ?_)
        · have q : cb_gI M 25 0 2 ≤ x := q
          rw [hn, hx] at q
          exact absurd q (nI_ge hj (by omega))
        · refine Exists.intro (some P) (And.intro hP (And.intro (cb_on (cb_aP hP2 rfl)) (And.intro hxi (And.intro (fun q => ?_) (fun q => ?_)))))
          · refine ih _ _ (by rw [hx, nI_1]) ?_
            rw [hm]
            have q := cb_z_eq0.mp q
            rw [hxc] at q
            show wm_mask _ j = wm_mask _ j ||| (if wk_kp M P j = true then _ else 0)
            rw [show wk_kp M P j = false from q]
            simp
          · refine ih _ _ (by rw [hx, nI_1]) ?_
            rw [hm]
            have q : ¬ _ = false := fun z => q (cb_z_eq0.mpr z)
            rw [hxc] at q
            show wm_mask _ j ||| (1 <<< (x &&& 31)) = wm_mask _ j ||| (if wk_kp M P j = true then _ else 0)
            rw [show wk_kp M P j = true from eq_true_of_ne_false q, hx]
            rfl
    refine cb_run cb_tb_ok vd_X7_runningOnes (cuts := [16]) 40 ?_
    refine And.intro (fun q => ?_) (fun q => ?_)
    · exact loop q 0 (Nat.zero_le _) _ _ rfl rfl
    · exact And.intro trivial (cb_eqK h (if_neg q).symm)
def wk_cu (M : cb_M) (P : Nat) (R : Int32) (i : Nat) : Bool := decide (cb_gI M 9 P i = 3) && (decide (cb_gI M 27 0 i < 50) && cb_bit R i)
def wk_st (M : cb_M) (P : Nat) (R : Int32) : Nat → Int32
  | 0 => 0
  | n + 1 => if wk_cu M P R n = true then wk_st M P R n ||| cb_gI M 31 0 n else wk_st M P R n
def sp_stoppedBy : cb_Sp := fun _ r M K => match r with
  | [.inl R] => ∃ P n, wk_T M P n ∧ K (some (cb_i (wk_st M P R n))) M
  | _ => False
def pt_X7_stoppedBy : cb_PT := cb_m 25 1 sp_stoppedBy
theorem rc_X7_stoppedBy : cb_rc cb_tb RX7 pt_X7_stoppedBy := cb_m_rc rfl rfl
def md_X7_stoppedBy : cb_D := (RX7, cX7_stoppedBy, 4, (some .int), (0, 0, 1, 21), [
  (0, .iconst 0, 1, 0, 0, 0, 0),
  (1, .istore_n 2, 1, 0, 2, 0, 0),
  (2, .iconst 0, 1, 0, 0, 0, 0),
  (3, .istore_n 3, 1, 0, 3, 0, 0),
  (4, .iload_n 3, 1, 0, 3, 0, 0),
  (5, .aload_n 0, 1, 0, 0, 0, 0),
  (6, .getfield 9, 3, 0, 7, 2, 226),
  (9, .if_icmp .ge 51, 3, 0, 60, 0, 0),
  (12, .aload_n 0, 1, 0, 0, 0, 0),
  (13, .getfield 62, 3, 0, 7, 0, 218),
  (16, .getfield 117, 3, 0, 4, 10, 109),
  (19, .iload_n 3, 1, 0, 3, 0, 0),
  (20, .iaload, 1, 0, 0, 0, 0),
  (21, .iconst 3, 1, 3, 0, 0, 0),
  (22, .if_icmp .ne 32, 3, 0, 54, 0, 0),
  (25, .aload_n 0, 1, 0, 0, 0, 0),
  (26, .getfield 22, 3, 0, 7, 5, 236),
  (29, .iload_n 3, 1, 0, 3, 0, 0),
  (30, .iaload, 1, 0, 0, 0, 0),
  (31, .bipush 50, 2, 50, 0, 0, 0),
  (33, .if_icmp .ge 21, 3, 0, 54, 0, 0),
  (36, .iload_n 1, 1, 0, 1, 0, 0),
  (37, .iload_n 3, 1, 0, 3, 0, 0),
  (38, .invokestatic 107, 3, 0, 0, 0, 0),
  (41, .iconst 1, 1, 1, 0, 0, 0),
  (42, .if_icmp .ne 12, 3, 0, 54, 0, 0),
  (45, .iload_n 2, 1, 0, 2, 0, 0),
  (46, .aload_n 0, 1, 0, 0, 0, 0),
  (47, .getfield 41, 3, 0, 7, 11, 249),
  (50, .iload_n 3, 1, 0, 3, 0, 0),
  (51, .iaload, 1, 0, 0, 0, 0),
  (52, .ior, 1, 0, 0, 0, 0),
  (53, .istore_n 2, 1, 0, 2, 0, 0),
  (54, .iinc 3 1, 3, 1, 3, 0, 0),
  (57, .goto (-53), 3, 0, 4, 0, 0),
  (60, .iload_n 2, 1, 0, 2, 0, 0),
  (61, .ireturn, 1, 0, 0, 0, 0)],
  [(1, 107, 2, 0, 0, pt_X9_bitOf)], [])
set_option maxRecDepth 100000 in
theorem vd_X7_stoppedBy : md_X7_stoppedBy.cd.all (cb_vE md_X7_stoppedBy) = true := by decide +kernel
theorem wd_X7_stoppedBy : cb_wd yX7_stoppedBy md_X7_stoppedBy := ⟨cb_tw (i := 822) (by decide +kernel), cb_tw (i := 5) (by decide +kernel), by decide, by decide⟩
theorem cs_X7_stoppedBy : ∀ X, cb_Bs md_X7_stoppedBy X → ∀ g ∈ md_X7_stoppedBy.ga, cb_CS cb_tb md_X7_stoppedBy X g := fun X B => List.forall_mem_cons.mpr ⟨cb_csN (host := "WallClocks") B ok_X9_bitOf nt_X9_bitOf wd_X9_bitOf (cb_tw (i := 439) (by decide +kernel)) (cb_tw (i := 440) (by decide +kernel)) ⟨by decide, by decide⟩ (by decide +kernel), fun _ h => nomatch h⟩
theorem ok_X7_stoppedBy : cb_MOK cb_tb yX7_stoppedBy md_X7_stoppedBy pt_X7_stoppedBy := by
  refine cb_okm ⟨plainFor_of_name (by decide), rfl⟩ (by decide) cs_X7_stoppedBy (by decide) (fun X n0 f i r M hr ha h => ?_)
  have h0 := cb_a1 (T := 25) rfl ha
  subst h0
  match r, hr, h with
  | [.inl R], hr, h =>
    obtain ⟨P, n, ⟨hP, hP2, hn, hn8⟩, h⟩ := h
    have loop : ∀ j, j ≤ n → ∀ x m : Int32, x = nI j → m = wk_st M P R j → cb_Gd cb_tb md_X7_stoppedBy X 4 [some (cb_r 25 0), some (cb_i R), some (cb_i m), some (cb_i x)] [] (cb_aS n0, f) M 0 0 := by
      refine cb_up (fun j => ∀ x m : Int32, x = nI j → m = wk_st M P R j → cb_Gd cb_tb md_X7_stoppedBy X 4 [some (cb_r 25 0), some (cb_i R), some (cb_i m), some (cb_i x)] [] (cb_aS n0, f) M 0 0) ?_ ?_
      · intro x m hx hm
        refine cb_run cb_tb_ok vd_X7_stoppedBy (cuts := [4]) 40 ?_
        refine And.intro (fun _ => ?_) (fun q => absurd (by rw [hn, hx]; exact Int32.le_refl _) q)
        exact And.intro trivial (cb_eqK h hm)
      · intro j hj ih x m hx hm
        have hxi : ∀ N, 8 ≤ N → N < 2 ^ 31 → vp_in x N := fun N h1 h2 => by rw [hx]; exact cb_in8 hj (by omega) h2
        have hx8 := hxi 8 (by decide) (by decide)
        have hxc : x.toNatClampNeg = j := by rw [hx]; exact nI_clamp (by omega)
        have no : wk_cu M P R j = false → m = wk_st M P R (j + 1) := fun q => by rw [hm]; show _ = if _ then _ else _; rw [q]; rfl
        refine cb_run cb_tb_ok vd_X7_stoppedBy (cuts := [4]) 60 ?_
        refine And.intro (fun q => ?_) (fun _ => ?_)
        · have q : cb_gI M 25 0 2 ≤ x := q
          rw [hn, hx] at q
          exact absurd q (nI_ge hj (by omega))
        · refine Exists.intro (some P) (And.intro hP (cb_av.of (cb_aPP hP2 rfl) (cb_av.of (cb_aPP hP2 rfl) (And.intro hx8 (And.intro (fun q1 => ?_) (fun q1 => ?_))))))
          · have q1 : ¬ cb_gI M 9 P x.toNatClampNeg = 3 := q1
            rw [hxc] at q1
            exact ih _ _ (by rw [hx, nI_1]) (no (by unfold wk_cu; rw [decide_eq_false q1]; rfl))
          have q1 : cb_gI M 9 P x.toNatClampNeg = 3 := Classical.not_not.mp q1
          rw [hxc] at q1
          refine And.intro hx8 (And.intro (fun q2 => ?_) (fun q2 => ?_))
          · have q2 : ¬ cb_gI M 27 0 x.toNatClampNeg < 50 := Int32.not_lt.mpr q2
            rw [hxc] at q2
            exact ih _ _ (by rw [hx, nI_1]) (no (by unfold wk_cu; rw [decide_eq_false q2]; simp))
          have q2 : cb_gI M 27 0 x.toNatClampNeg < 50 := cb_nle_lt q2
          rw [hxc] at q2
          refine And.intro (hxi 32 (by decide) (by decide)) (And.intro (fun q3 => ?_) (fun q3 => ?_))
          · have q3 : ¬ cb_z (cb_bit R x.toNatClampNeg) = 1 := q3
            rw [hxc] at q3
            have e : cb_bit R j = false := by
              cases hh : cb_bit R j with
              | false => rfl
              | true => rw [hh] at q3; exact absurd rfl q3
            exact ih _ _ (by rw [hx, nI_1]) (no (by unfold wk_cu; rw [e]; simp))
          · have q3 : cb_z (cb_bit R x.toNatClampNeg) = 1 := Classical.not_not.mp q3
            rw [hxc] at q3
            have e : cb_bit R j = true := by
              cases hh : cb_bit R j with
              | true => rfl
              | false => rw [hh] at q3; exact absurd q3 (by decide)
            refine And.intro hx8 (ih _ _ (by rw [hx, nI_1]) ?_)
            show m ||| cb_gI M 31 0 x.toNatClampNeg = if wk_cu M P R j = true then _ else _
            rw [show wk_cu M P R j = true by unfold wk_cu; rw [e, decide_eq_true q1, decide_eq_true q2]; rfl, hm, hxc]
            rfl
    exact cb_run cb_tb_ok vd_X7_stoppedBy (cuts := [4]) 40 (loop 0 (Nat.zero_le _) _ _ rfl rfl)
theorem wk_st_bit {M : cb_M} {P : Nat} {R : Int32} (i : Nat) : ∀ n : Nat, cb_bit (wk_st M P R n) i = (List.range n).any fun j => wk_cu M P R j && cb_bit (cb_gI M 31 0 j) i
  | 0 => by rw [wk_st, cb_bit_zero]; rfl
  | n + 1 => by
    rw [wk_st, List.range_succ, List.any_append, ← wk_st_bit i n]
    cases h : wk_cu M P R n with
    | true => simp [cb_bit_or, h]
    | false => simp [h]
/-- whose board is whose -/
def wk_bm (M : cb_M) (n : Nat) : Prop := ∀ i j, i < n → j < n → cb_bit (cb_gI M 31 0 j) i = decide (¬ i = j ∧ cb_gI M 29 0 i = cb_gI M 29 0 j)
theorem wk_st_stp {M : cb_M} {P n i : Nat} (hn : n ≤ 8) (hi : i < n) (hb : wk_bm M n) : cb_bit (wk_st M P (wk_ro M P n) n) i = wm_stp (wk_c M P n) (wk_u M) (cb_gI M 25 0 3) (cb_gI M 27 0) i := by
  rw [wk_st_bit]
  unfold wm_stp
  have : ∀ (l : List Nat) (f g : Nat → Bool), (∀ j ∈ l, f j = g j) → l.any f = l.any g := by
    intro l f g h
    induction l with
    | nil => rfl
    | cons a l ih => rw [List.any_cons, List.any_cons, h a List.mem_cons_self, ih (fun j hj => h j (List.mem_cons_of_mem _ hj))]
  refine this _ _ _ (fun j hj => ?_)
  have hj : j < n := List.mem_range.mp hj
  rw [hb i j hi hj]
  unfold wk_cu
  rw [wk_ro_bit hn hj]
  have e : (wk_c M P n).bd = cb_gI M 29 0 := rfl
  have e2 : (wk_c M P n).kd = cb_gI M 9 P := rfl
  rw [e, e2]
  by_cases h1 : j = i
  · subst h1; simp
  · have h2 : ¬ i = j := fun q => h1 q.symm
    have h3 : decide (cb_gI M 29 0 i = cb_gI M 29 0 j) = decide (cb_gI M 29 0 j = cb_gI M 29 0 i) := by
      by_cases q : cb_gI M 29 0 i = cb_gI M 29 0 j
      · rw [decide_eq_true q, decide_eq_true q.symm]
      · rw [decide_eq_false q, decide_eq_false (fun z => q z.symm)]
    simp only [h1, h2, ne_eq, not_false_eq_true, decide_true, Bool.true_and, true_and]
    rw [h3]
    cases decide (cb_gI M 9 P j = 3) <;> cases decide (cb_gI M 27 0 j < 50) <;> cases decide (cb_gI M 29 0 j = cb_gI M 29 0 i) <;> cases wm_run (wk_c M P n) (wk_u M) (cb_gI M 25 0 3) j <;> rfl
def sp_goingAmong : cb_Sp := fun _ r M K => match r with
  | [.inl R] => ∃ P n, wk_T M P n ∧ K (some (cb_i (R &&& (wk_st M P R n ^^^ (-1))))) M
  | _ => False
def pt_X7_goingAmong : cb_PT := cb_m 25 1 sp_goingAmong
theorem rc_X7_goingAmong : cb_rc cb_tb RX7 pt_X7_goingAmong := cb_m_rc rfl rfl
def md_X7_goingAmong : cb_D := (RX7, cX7_goingAmong, 2, (some .int), (0, 0, 2, 44), [
  (0, .iload_n 1, 1, 0, 1, 0, 0),
  (1, .aload_n 0, 1, 0, 0, 0, 0),
  (2, .iload_n 1, 1, 0, 1, 0, 0),
  (3, .invokevirtual 140, 3, 0, 0, 0, 0),
  (6, .iconst (-1), 1, (-1), 0, 0, 0),
  (7, .ixor, 1, 0, 0, 0, 0),
  (8, .iand, 1, 0, 0, 0, 0),
  (9, .ireturn, 1, 0, 0, 0, 0)],
  [(0, 140, 2, 0, 0, pt_X7_stoppedBy)], [])
set_option maxRecDepth 100000 in
theorem vd_X7_goingAmong : md_X7_goingAmong.cd.all (cb_vE md_X7_goingAmong) = true := by decide +kernel
theorem wd_X7_goingAmong : cb_wd yX7_goingAmong md_X7_goingAmong := ⟨cb_tw (i := 858) (by decide +kernel), cb_tw (i := 5) (by decide +kernel), by decide, by decide⟩
theorem cs_X7_goingAmong : ∀ X, cb_Bs md_X7_goingAmong X → ∀ g ∈ md_X7_goingAmong.ga, cb_CS cb_tb md_X7_goingAmong X g := fun X B => List.forall_mem_cons.mpr ⟨cb_csV B ok_X7_stoppedBy wd_X7_stoppedBy (cb_tw (i := 819) (by decide +kernel)) (cb_tw (i := 821) (by decide +kernel)) (cb_tp (i := 23) (by decide +kernel)) rc_X7_stoppedBy ⟨by decide, by decide⟩ (by decide +kernel), fun _ h => nomatch h⟩
theorem ok_X7_goingAmong : cb_MOK cb_tb yX7_goingAmong md_X7_goingAmong pt_X7_goingAmong := by
  refine cb_okm ⟨plainFor_of_name (by decide), rfl⟩ (by decide) cs_X7_goingAmong (by decide) (fun X n0 f i r M hr ha h => ?_)
  have h0 := cb_a1 (T := 25) rfl ha
  subst h0
  match r, hr, h with
  | [.inl R], hr, h =>
    obtain ⟨P, n, hT, h⟩ := h
    refine cb_run cb_tb_ok vd_X7_goingAmong (cuts := []) 40 ?_
    exact And.intro (cb_on rfl) ⟨P, n, hT, And.intro trivial (cb_eqK h rfl)⟩
/-- the mask of those that go -/
def wk_go (M : cb_M) (P n : Nat) : Int32 := wk_ro M P n &&& (wk_st M P (wk_ro M P n) n ^^^ (-1))
theorem wk_go_bit {M : cb_M} {P n i : Nat} (hn : n ≤ 8) (hi : i < n) (hb : wk_bm M n) : cb_bit (wk_go M P n) i = wm_go (wk_c M P n) (wk_u M) (cb_gI M 25 0 3) (cb_gI M 27 0) i := by
  unfold wk_go wm_go
  rw [cb_bit_and, cb_bit_not _ (by omega), wk_ro_bit hn hi, wk_st_stp hn hi hb]
def sp_goesToday : cb_Sp := fun _ r M K => match r with
  | [.inl x] => ∃ P n, (wk_T M P n ∧ vp_in x 32) ∧ K (some (cb_i (cb_z (cb_bit (wk_go M P n) x.toNatClampNeg)))) M
  | _ => False
def pt_X7_goesToday : cb_PT := cb_m 25 1 sp_goesToday
theorem rc_X7_goesToday : cb_rc cb_tb RX7 pt_X7_goesToday := cb_m_rc rfl rfl
def md_X7_goesToday : cb_D := (RX7, cX7_goesToday, 2, (some .boolean), (0, 0, 3, 65), [
  (0, .aload_n 0, 1, 0, 0, 0, 0),
  (1, .aload_n 0, 1, 0, 0, 0, 0),
  (2, .invokevirtual 137, 3, 0, 0, 0, 0),
  (5, .invokevirtual 143, 3, 0, 1, 0, 0),
  (8, .iload_n 1, 1, 0, 1, 0, 0),
  (9, .invokestatic 107, 3, 0, 2, 0, 0),
  (12, .iconst 1, 1, 1, 0, 0, 0),
  (13, .if_icmp .ne 7, 3, 0, 20, 0, 0),
  (16, .iconst 1, 1, 1, 0, 0, 0),
  (17, .goto 4, 3, 0, 21, 0, 0),
  (20, .iconst 0, 1, 0, 0, 0, 0),
  (21, .ireturn, 1, 0, 0, 0, 0)],
  [(0, 137, 1, 0, 0, pt_X7_runningOnes), (0, 143, 2, 0, 0, pt_X7_goingAmong), (1, 107, 2, 0, 0, pt_X9_bitOf)], [])
set_option maxRecDepth 100000 in
theorem vd_X7_goesToday : md_X7_goesToday.cd.all (cb_vE md_X7_goesToday) = true := by decide +kernel
theorem wd_X7_goesToday : cb_wd yX7_goesToday md_X7_goesToday := ⟨cb_tw (i := 870) (by decide +kernel), cb_tw (i := 5) (by decide +kernel), by decide, by decide⟩
theorem cs_X7_goesToday : ∀ X, cb_Bs md_X7_goesToday X → ∀ g ∈ md_X7_goesToday.ga, cb_CS cb_tb md_X7_goesToday X g := fun X B => List.forall_mem_cons.mpr ⟨cb_csV B ok_X7_runningOnes wd_X7_runningOnes (cb_tw (i := 814) (by decide +kernel)) (cb_tw (i := 815) (by decide +kernel)) (cb_tw (i := 816) (by decide +kernel)) rc_X7_runningOnes ⟨by decide, by decide⟩ (by decide +kernel), List.forall_mem_cons.mpr ⟨cb_csV B ok_X7_goingAmong wd_X7_goingAmong (cb_tw (i := 855) (by decide +kernel)) (cb_tw (i := 857) (by decide +kernel)) (cb_tp (i := 25) (by decide +kernel)) rc_X7_goingAmong ⟨by decide, by decide⟩ (by decide +kernel), List.forall_mem_cons.mpr ⟨cb_csN (host := "WallClocks") B ok_X9_bitOf nt_X9_bitOf wd_X9_bitOf (cb_tw (i := 439) (by decide +kernel)) (cb_tw (i := 440) (by decide +kernel)) ⟨by decide, by decide⟩ (by decide +kernel), fun _ h => nomatch h⟩⟩⟩
theorem ok_X7_goesToday : cb_MOK cb_tb yX7_goesToday md_X7_goesToday pt_X7_goesToday := by
  refine cb_okm ⟨plainFor_of_name (by decide), rfl⟩ (by decide) cs_X7_goesToday (by decide) (fun X n0 f i r M hr ha h => ?_)
  have h0 := cb_a1 (T := 25) rfl ha
  subst h0
  match r, hr, h with
  | [.inl x], hr, h =>
    obtain ⟨P, n, ⟨hT, hx⟩, h⟩ := h
    refine cb_run cb_tb_ok vd_X7_goesToday (cuts := []) 40 ?_
    refine And.intro (cb_on rfl) ⟨P, n, hT, And.intro (cb_on rfl) ⟨P, n, hT, And.intro hx (And.intro (fun q => ?_) (fun q => ?_))⟩⟩
    · have q : ¬ cb_z (cb_bit (wk_go M P n) x.toNatClampNeg) = 1 := q
      refine And.intro cb_rt0 (cb_z0 (K := fun v M' => X.K (.inl v) (cb_aS n0, f) M') h ?_)
      cases hh : cb_bit (wk_go M P n) x.toNatClampNeg with
      | false => rfl
      | true => rw [hh] at q; exact absurd rfl q
    · have q : cb_z (cb_bit (wk_go M P n) x.toNatClampNeg) = 1 := Classical.not_not.mp q
      refine And.intro cb_rt1 (cb_z1 (K := fun v M' => X.K (.inl v) (cb_aS n0, f) M') h ?_)
      cases hh : cb_bit (wk_go M P n) x.toNatClampNeg with
      | true => rfl
      | false => rw [hh] at q; exact absurd q (by decide)
