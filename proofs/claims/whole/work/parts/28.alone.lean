/-! ===== bits counted; the fewest that hold; a clock alone ===== -/
def wm_bc (x : Int32) : Int32 :=
  let a := x - (cb_ush x 1 &&& 1431655765)
  let b := (a &&& 858993459) + (cb_ush a 2 &&& 858993459)
  let c := (b + cb_ush b 4) &&& 252645135
  let d := c + cb_ush c 8
  (d + cb_ush d 16) &&& 63
def pt_J6_bitCount_0f7a4 : cb_PT := cb_f1 (fun _ => True) wm_bc
def md_J6_bitCount_0f7a4 : cb_D := (RJ6, cJ6_bitCount_0f7a4, 1, (some .int), (0, 0, 0, 0), [
  (0, .iload_n 0, 1, 0, 0, 0, 0),
  (1, .iload_n 0, 1, 0, 0, 0, 0),
  (2, .iconst 1, 1, 1, 0, 0, 0),
  (3, .iushr, 1, 0, 0, 0, 0),
  (4, .ldc_w 265, 3, 1431655765, 0, 0, 1039),
  (7, .iand, 1, 0, 0, 0, 0),
  (8, .isub, 1, 0, 0, 0, 0),
  (9, .istore_n 0, 1, 0, 0, 0, 0),
  (10, .iload_n 0, 1, 0, 0, 0, 0),
  (11, .ldc_w 266, 3, 858993459, 0, 0, 1040),
  (14, .iand, 1, 0, 0, 0, 0),
  (15, .iload_n 0, 1, 0, 0, 0, 0),
  (16, .iconst 2, 1, 2, 0, 0, 0),
  (17, .iushr, 1, 0, 0, 0, 0),
  (18, .ldc_w 266, 3, 858993459, 0, 0, 1040),
  (21, .iand, 1, 0, 0, 0, 0),
  (22, .iadd, 1, 0, 0, 0, 0),
  (23, .istore_n 0, 1, 0, 0, 0, 0),
  (24, .iload_n 0, 1, 0, 0, 0, 0),
  (25, .iload_n 0, 1, 0, 0, 0, 0),
  (26, .iconst 4, 1, 4, 0, 0, 0),
  (27, .iushr, 1, 0, 0, 0, 0),
  (28, .iadd, 1, 0, 0, 0, 0),
  (29, .ldc_w 267, 3, 252645135, 0, 0, 1041),
  (32, .iand, 1, 0, 0, 0, 0),
  (33, .istore_n 0, 1, 0, 0, 0, 0),
  (34, .iload_n 0, 1, 0, 0, 0, 0),
  (35, .iload_n 0, 1, 0, 0, 0, 0),
  (36, .bipush 8, 2, 8, 0, 0, 0),
  (38, .iushr, 1, 0, 0, 0, 0),
  (39, .iadd, 1, 0, 0, 0, 0),
  (40, .istore_n 0, 1, 0, 0, 0, 0),
  (41, .iload_n 0, 1, 0, 0, 0, 0),
  (42, .iload_n 0, 1, 0, 0, 0, 0),
  (43, .bipush 16, 2, 16, 0, 0, 0),
  (45, .iushr, 1, 0, 0, 0, 0),
  (46, .iadd, 1, 0, 0, 0, 0),
  (47, .istore_n 0, 1, 0, 0, 0, 0),
  (48, .iload_n 0, 1, 0, 0, 0, 0),
  (49, .bipush 63, 2, 63, 0, 0, 0),
  (51, .iand, 1, 0, 0, 0, 0),
  (52, .ireturn, 1, 0, 0, 0, 0)],
  [], [])
set_option maxRecDepth 100000 in
theorem vd_J6_bitCount_0f7a4 : md_J6_bitCount_0f7a4.cd.all (cb_vE md_J6_bitCount_0f7a4) = true := by decide +kernel
theorem wd_J6_bitCount_0f7a4 : cb_wd yJ6_bitCount_0f7a4 md_J6_bitCount_0f7a4 := ⟨cb_tw (i := 1038) (by decide +kernel), cb_tw (i := 24) (by decide +kernel), by decide, by decide⟩
theorem cs_J6_bitCount_0f7a4 : ∀ X, cb_Bs md_J6_bitCount_0f7a4 X → ∀ g ∈ md_J6_bitCount_0f7a4.ga, cb_CS cb_tb md_J6_bitCount_0f7a4 X g := fun X B => fun _ h => nomatch h
theorem ok_J6_bitCount_0f7a4 : cb_MOK cb_tb yJ6_bitCount_0f7a4 md_J6_bitCount_0f7a4 pt_J6_bitCount_0f7a4 := by
  refine cb_ok1 ⟨by decide +kernel, rfl⟩ (by decide) cs_J6_bitCount_0f7a4 (by decide) (fun X a M x _ h => cb_run cb_tb_ok vd_J6_bitCount_0f7a4 (cuts := []) 60 ?_)
  exact And.intro trivial (cb_eqK h rfl)
/-- the fewest that hold: the best so far, how many it has; by what is done at a set -/
def wq_hstep (so : Int32) (ok : Int32 → Bool) (s : Int32) (st : Int32 × Int32) : Int32 × Int32 := if (¬ wm_wo s so = 0) ∨ st.2 ≤ wm_bc s then st else if ok s = true then (s, wm_bc s) else st
def wq_hold (so : Int32) (ok : Int32 → Bool) : Nat → Int32 × Int32
  | 0 => (-1, 9)
  | j + 1 => wq_hstep so ok (nI (j + 1)) (wq_hold so ok j)
/-- do they hold, tried out -/
def wk_hok (M : cb_M) (P n k : Nat) (others s : Int32) : Bool := wq_all (cb_gI M 9 P) (wk_try M P n (others ||| s) k).2.1 n s others
theorem wq_held_cong {f g : wm_F} {n i : Nat} (h : ∀ j, j < n → f j = g j) (hi : i < n) (set : Int32) : wq_held f n set i = wq_held g n set i := by
  unfold wq_held
  refine cb_any_cong (fun j hj => ?_)
  unfold wn_in
  rw [h j (List.mem_range.mp hj), h i hi]
theorem cb_all_cong {l : List Nat} {f g : Nat → Bool} (h : ∀ j ∈ l, f j = g j) : l.all f = l.all g := by
  induction l with
  | nil => rfl
  | cons a l ih => rw [List.all_cons, List.all_cons, h a List.mem_cons_self, ih (fun j hj => h j (List.mem_cons_of_mem _ hj))]
theorem wq_all_cong {kd f g : wm_F} {n : Nat} (h : ∀ j, j < n → f j = g j) (set others : Int32) : wq_all kd f n set others = wq_all kd g n set others := by
  unfold wq_all
  refine cb_all_cong (fun i hi => ?_)
  rw [wq_held_cong h (List.mem_range.mp hi)]
def sp_X0_fewestThatHold : cb_Sp := fun _ r M K => match r with
  | [.inl N] => ∃ P n k so, (wk_W M P n ∧ N = nI k ∧ k < 2 ^ 31 ∧ cb_gI M 3 P 3 = nI so ∧ so < 256) ∧ ∀ M', cb_fr fr_q M M' → K (some (cb_i (wq_hold (nI so) (wk_hok M P n k (wm_wo (wm_all (nI n)) (nI so))) so).1)) M'
  | _ => False
def pt_X0_fewestThatHold : cb_PT := cb_m 39 1 sp_X0_fewestThatHold
theorem rc_X0_fewestThatHold : cb_rc cb_tb RX0 pt_X0_fewestThatHold := cb_m_rc rfl rfl
def md_X0_fewestThatHold : cb_D := (RX0, cX0_fewestThatHold, 7, (some .int), (0, 0, 6, 133), [
  (0, .aload_n 0, 1, 0, 0, 0, 0),
  (1, .getfield 15, 3, 0, 0, 0, 312),
  (4, .getfield 35, 3, 0, 7, 0, 219),
  (7, .getfield 48, 3, 0, 4, 3, 79),
  (10, .istore_n 2, 1, 0, 2, 0, 0),
  (11, .aload_n 0, 1, 0, 0, 0, 0),
  (12, .getfield 15, 3, 0, 0, 0, 312),
  (15, .getfield 35, 3, 0, 7, 0, 219),
  (18, .invokevirtual 39, 3, 0, 0, 0, 0),
  (21, .iload_n 2, 1, 0, 2, 0, 0),
  (22, .iconst (-1), 1, (-1), 0, 0, 0),
  (23, .ixor, 1, 0, 0, 0, 0),
  (24, .iand, 1, 0, 0, 0, 0),
  (25, .istore_n 3, 1, 0, 3, 0, 0),
  (26, .bipush 9, 2, 9, 0, 0, 0),
  (28, .istore 4, 2, 0, 4, 0, 0),
  (30, .iconst (-1), 1, (-1), 0, 0, 0),
  (31, .istore 5, 2, 0, 5, 0, 0),
  (33, .iconst 1, 1, 1, 0, 0, 0),
  (34, .istore 6, 2, 0, 6, 0, 0),
  (36, .iload 6, 2, 0, 6, 0, 0),
  (38, .iload_n 2, 1, 0, 2, 0, 0),
  (39, .if_icmp .gt 61, 3, 0, 100, 0, 0),
  (42, .iload 6, 2, 0, 6, 0, 0),
  (44, .iload_n 2, 1, 0, 2, 0, 0),
  (45, .iconst (-1), 1, (-1), 0, 0, 0),
  (46, .ixor, 1, 0, 0, 0, 0),
  (47, .iand, 1, 0, 0, 0, 0),
  (48, .ifCond .ne 46, 3, 0, 94, 0, 0),
  (51, .iload 6, 2, 0, 6, 0, 0),
  (53, .invokestatic 52, 3, 0, 1, 0, 0),
  (56, .iload 4, 2, 0, 4, 0, 0),
  (58, .if_icmp .lt 6, 3, 0, 64, 0, 0),
  (61, .goto 33, 3, 0, 94, 0, 0),
  (64, .aload_n 0, 1, 0, 0, 0, 0),
  (65, .iload_n 3, 1, 0, 3, 0, 0),
  (66, .iload 6, 2, 0, 6, 0, 0),
  (68, .ior, 1, 0, 0, 0, 0),
  (69, .iload_n 1, 1, 0, 1, 0, 0),
  (70, .invokevirtual 44, 3, 0, 2, 0, 0),
  (73, .aload_n 0, 1, 0, 0, 0, 0),
  (74, .iload 6, 2, 0, 6, 0, 0),
  (76, .iload_n 3, 1, 0, 3, 0, 0),
  (77, .invokevirtual 58, 3, 0, 3, 0, 0),
  (80, .ifCond .eq 14, 3, 0, 94, 0, 0),
  (83, .iload 6, 2, 0, 6, 0, 0),
  (85, .istore 5, 2, 0, 5, 0, 0),
  (87, .iload 6, 2, 0, 6, 0, 0),
  (89, .invokestatic 52, 3, 0, 1, 0, 0),
  (92, .istore 4, 2, 0, 4, 0, 0),
  (94, .iinc 6 1, 3, 1, 6, 0, 0),
  (97, .goto (-61), 3, 0, 36, 0, 0),
  (100, .iload 5, 2, 0, 5, 0, 0),
  (102, .ireturn, 1, 0, 0, 0, 0)],
  [(0, 39, 1, 0, 0, pt_X4_allClocks), (1, 52, 1, 0, 0, pt_J6_bitCount_0f7a4), (0, 44, 3, 0, 0, pt_X0_tryOnly), (0, 58, 3, 0, 0, pt_X0_holdsAll)], [])
set_option maxRecDepth 100000 in
theorem vd_X0_fewestThatHold : md_X0_fewestThatHold.cd.all (cb_vE md_X0_fewestThatHold) = true := by decide +kernel
theorem wd_X0_fewestThatHold : cb_wd yX0_fewestThatHold md_X0_fewestThatHold := ⟨cb_tw (i := 1035) (by decide +kernel), cb_tw (i := 7) (by decide +kernel), by decide, by decide⟩
theorem cs_X0_fewestThatHold : ∀ X, cb_Bs md_X0_fewestThatHold X → ∀ g ∈ md_X0_fewestThatHold.ga, cb_CS cb_tb md_X0_fewestThatHold X g := fun X B => List.forall_mem_cons.mpr ⟨cb_csV B ok_X4_allClocks wd_X4_allClocks (cb_tw (i := 1018) (by decide +kernel)) (cb_tw (i := 432) (by decide +kernel)) (cb_tw (i := 433) (by decide +kernel)) rc_X4_allClocks ⟨by decide, by decide⟩ (by decide +kernel), List.forall_mem_cons.mpr ⟨cb_csS B ok_J6_bitCount_0f7a4 wd_J6_bitCount_0f7a4 (cb_tw (i := 1036) (by decide +kernel)) (cb_tw (i := 1037) (by decide +kernel)) ⟨by decide, by decide⟩ (by decide +kernel), List.forall_mem_cons.mpr ⟨cb_csV B ok_X0_tryOnly wd_X0_tryOnly (cb_tw (i := 1019) (by decide +kernel)) (cb_tw (i := 1021) (by decide +kernel)) (cb_tp (i := 29) (by decide +kernel)) rc_X0_tryOnly ⟨by decide, by decide⟩ (by decide +kernel), List.forall_mem_cons.mpr ⟨cb_csV B ok_X0_holdsAll wd_X0_holdsAll (cb_tw (i := 1042) (by decide +kernel)) (cb_tw (i := 1044) (by decide +kernel)) (cb_tp (i := 30) (by decide +kernel)) rc_X0_holdsAll ⟨by decide, by decide⟩ (by decide +kernel), fun _ h => nomatch h⟩⟩⟩⟩
theorem ok_X0_fewestThatHold : cb_MOK cb_tb yX0_fewestThatHold md_X0_fewestThatHold pt_X0_fewestThatHold := by
  refine cb_okm ⟨plainFor_of_name (by decide), rfl⟩ (by decide) cs_X0_fewestThatHold (by decide) (fun X n0 f i r M hr ha h => ?_)
  have h0 := cb_a1 (T := 39) rfl ha
  subst h0
  match r, hr, h with
  | [.inl N], hr, h =>
    obtain ⟨P, n, k, so, ⟨hW, hN, hk, hso, hso2⟩, h⟩ := h
    obtain ⟨⟨hP, hP2, hn, hn8⟩, hB, hq, hwt, hpn⟩ := id hW
    let oth : Int32 := wm_wo (wm_all (nI n)) (nI so)
    let H : Nat → Int32 × Int32 := wq_hold (nI so) (wk_hok M P n k oth)
    have loop : ∀ j, j ≤ so → ∀ (x : Int32) (M' : cb_M), x = nI (j + 1) → cb_fr fr_q M M' → cb_Gd cb_tb md_X0_fewestThatHold X 36 [some (cb_r 39 0), some (cb_i (N)), some (cb_i (nI so)), some (cb_i (oth)), some (cb_i ((H j).2)), some (cb_i ((H j).1)), some (cb_i (x))] [] (cb_aS n0, f) M' 0 0 := by
      refine cb_up (fun j => ∀ (x : Int32) (M' : cb_M), x = nI (j + 1) → cb_fr fr_q M M' → cb_Gd cb_tb md_X0_fewestThatHold X 36 [some (cb_r 39 0), some (cb_i (N)), some (cb_i (nI so)), some (cb_i (oth)), some (cb_i ((H j).2)), some (cb_i ((H j).1)), some (cb_i (x))] [] (cb_aS n0, f) M' 0 0) ?_ ?_
      · intro x M' hx hF
        refine cb_run cb_tb_ok vd_X0_fewestThatHold (cuts := [36]) 90 ?_
        refine And.intro (fun _ => And.intro trivial (cb_eqK (h M' hF) rfl)) (fun q => ?_)
        have q : ¬ nI so < x := q
        rw [hx] at q
        exact absurd (nI_lt (by omega) (by omega)) q
      · intro j hj ih x M' hx hF
        have nx : H (j + 1) = H j → cb_Gd cb_tb md_X0_fewestThatHold X 36 [some (cb_r 39 0), some (cb_i (N)), some (cb_i (nI so)), some (cb_i (oth)), some (cb_i ((H j).2)), some (cb_i ((H j).1)), some (cb_i ((x + 1)))] [] (cb_aS n0, f) M' 0 0 := fun e => by
          have := ih (x + 1) M' (by rw [hx, nI_1]) hF
          rw [e] at this
          exact this
        have st : H (j + 1) = wq_hstep (nI so) (wk_hok M P n k oth) x (H j) := by rw [hx]; rfl
        refine cb_run cb_tb_ok vd_X0_fewestThatHold (cuts := [36]) 90 ?_
        refine And.intro (fun q => ?_) (fun _ => And.intro (fun q => ?_) (fun q => And.intro trivial (And.intro (fun q2 => ?_) (fun q2 => ?_))))
        · have q : nI so < x := q
          rw [hx] at q
          exact absurd q (nI_nlt (by omega) (by omega))
        · exact nx (st.trans (if_pos (Or.inl q)))
        · have hW' := wk_W_fq hF hW
          refine And.intro (cb_on rfl) ⟨P, n, k, ⟨hW', hN, hk⟩, fun M2 hF2 hQ2 hu2 hs2 => And.intro (cb_on rfl) ⟨P, n, hQ2.1.1, cb_ifz (fun q3 => ?_) (fun q3 => ?_)⟩⟩
          all_goals
            have hs2 : wt_s M2 n = wk_try M' P n (oth ||| x) k := hs2
            rw [wk_try_fq hF] at hs2
            have e : wq_all (cb_gI M2 9 P) (cb_gI M2 27 0) n x oth = wk_hok M P n k oth x := by
              unfold wk_hok
              rw [← hs2, hF2.fn 9 P (fun _ => rfl), hF.fn 9 P (fun _ => rfl)]
              exact wq_all_cong (fun j hj => (wn_tr_lt hj).symm) _ _
            have q3 := e.symm.trans q3
            have qn : ¬ ((¬ wm_wo x (nI so) = 0) ∨ (H j).2 ≤ wm_bc x) := fun w => w.elim (fun v => q v) (fun v => cb_lt_nle q2 v)
          · have e2 : H (j + 1) = H j := st.trans ((if_neg qn).trans (if_neg (by rw [q3]; decide)))
            have := ih (x + 1) M2 (by rw [hx, nI_1]) (hF.trans hF2)
            rw [e2] at this
            exact this
          · have e2 : H (j + 1) = (x, wm_bc x) := st.trans ((if_neg qn).trans (if_pos q3))
            have := ih (x + 1) M2 (by rw [hx, nI_1]) (hF.trans hF2)
            rw [e2] at this
            exact And.intro trivial this
        · have q2 : ¬ wm_bc x < (H j).2 := q2
          exact nx (st.trans (if_pos (Or.inr (Int32.not_lt.mp q2))))
    refine cb_run cb_tb_ok vd_X0_fewestThatHold (cuts := [36]) 90 ?_
    refine Exists.intro (some P) (And.intro hP (cb_av.of (cb_aPP hP2 rfl) (Exists.intro (some P) (And.intro hP (And.intro (cb_on (cb_aP hP2 rfl)) ?_)))))
    have := loop 0 (Nat.zero_le _) 1 M rfl (cb_fr.refl M)
    have e1 : wm_all (cb_gI M 3 P 1) &&& (cb_gI M 3 P 3 ^^^ (-1)) = oth := by rw [hpn, hso]; rfl
    show cb_Gd cb_tb md_X0_fewestThatHold X 36 [some (cb_r 39 0), some (cb_i (N)), some (cb_i (cb_gI M 3 P 3)), some (cb_i (wm_all (cb_gI M 3 P 1) &&& (cb_gI M 3 P 3 ^^^ (-1)))), some (cb_i (9)), some (cb_i (-1)), some (cb_i (1))] [] (cb_aS n0, f) M 0 0
    rw [e1, hso]
    exact this
/-- what a clock goes on a day, alone -/
def wn_gone (ky rt dp : wm_F) (i : Nat) (day : Int32) : Int32 := if ky i ≤ 8 ∨ cb_rem day (ky i) < 8 then rt i - wm_dmp dp day else 0
def sp_X0_goneAlone : cb_Sp := fun _ r M K => match r with
  | [.inl x, .inl day] => ∃ P i, (cb_gR M 25 0 0 = some P ∧ P < 2 ∧ x = nI i ∧ i < 8) ∧ K (some (cb_i (wn_gone (cb_gI M 11 P) (cb_gI M 7 P) (cb_gI M 15 P) i day))) M
  | _ => False
def pt_X0_goneAlone : cb_PT := cb_m 39 2 sp_X0_goneAlone
theorem rc_X0_goneAlone : cb_rc cb_tb RX0 pt_X0_goneAlone := cb_m_rc rfl rfl
def md_X0_goneAlone : cb_D := (RX0, cX0_goneAlone, 4, (some .int), (0, 0, 1, 23), [
  (0, .aload_n 0, 1, 0, 0, 0, 0),
  (1, .getfield 15, 3, 0, 0, 0, 312),
  (4, .getfield 35, 3, 0, 7, 0, 219),
  (7, .astore_n 3, 1, 0, 3, 0, 0),
  (8, .aload_n 3, 1, 0, 3, 0, 0),
  (9, .iload_n 1, 1, 0, 1, 0, 0),
  (10, .iload_n 2, 1, 0, 2, 0, 0),
  (11, .invokevirtual 100, 3, 0, 0, 0, 0),
  (14, .ifCond .eq 18, 3, 0, 32, 0, 0),
  (17, .aload_n 3, 1, 0, 3, 0, 0),
  (18, .getfield 103, 3, 0, 4, 8, 99),
  (21, .iload_n 1, 1, 0, 1, 0, 0),
  (22, .iaload, 1, 0, 0, 0, 0),
  (23, .aload_n 3, 1, 0, 3, 0, 0),
  (24, .iload_n 2, 1, 0, 2, 0, 0),
  (25, .invokevirtual 106, 3, 0, 1, 0, 0),
  (28, .isub, 1, 0, 0, 0, 0),
  (29, .goto 4, 3, 0, 33, 0, 0),
  (32, .iconst 0, 1, 0, 0, 0, 0),
  (33, .ireturn, 1, 0, 0, 0, 0)],
  [(0, 100, 3, 0, 0, pt_X4_runsOn), (0, 106, 2, 0, 0, pt_X4_dampOn)], [])
set_option maxRecDepth 100000 in
theorem vd_X0_goneAlone : md_X0_goneAlone.cd.all (cb_vE md_X0_goneAlone) = true := by decide +kernel
theorem wd_X0_goneAlone : cb_wd yX0_goneAlone md_X0_goneAlone := ⟨cb_tw (i := 1180) (by decide +kernel), cb_tw (i := 7) (by decide +kernel), by decide, by decide⟩
theorem cs_X0_goneAlone : ∀ X, cb_Bs md_X0_goneAlone X → ∀ g ∈ md_X0_goneAlone.ga, cb_CS cb_tb md_X0_goneAlone X g := fun X B => List.forall_mem_cons.mpr ⟨cb_csV B ok_X4_runsOn wd_X4_runsOn (cb_tw (i := 1181) (by decide +kernel)) (cb_tw (i := 807) (by decide +kernel)) (cb_tw (i := 808) (by decide +kernel)) rc_X4_runsOn ⟨by decide, by decide⟩ (by decide +kernel), List.forall_mem_cons.mpr ⟨cb_csV B ok_X4_dampOn wd_X4_dampOn (cb_tw (i := 1182) (by decide +kernel)) (cb_tw (i := 896) (by decide +kernel)) (cb_tw (i := 897) (by decide +kernel)) rc_X4_dampOn ⟨by decide, by decide⟩ (by decide +kernel), fun _ h => nomatch h⟩⟩
theorem ok_X0_goneAlone : cb_MOK cb_tb yX0_goneAlone md_X0_goneAlone pt_X0_goneAlone := by
  refine cb_okm ⟨plainFor_of_name (by decide), rfl⟩ (by decide) cs_X0_goneAlone (by decide) (fun X n0 f i r M hr ha h => ?_)
  have h0 := cb_a1 (T := 39) rfl ha
  subst h0
  match r, hr, h with
  | [.inl x, .inl day], hr, h =>
    obtain ⟨P, i, ⟨hP, hP2, hx, hi⟩, h⟩ := h
    have hx8 : vp_in x 8 := by rw [hx]; exact vp_in_nI hi (by decide)
    have hxc : x.toNatClampNeg = i := by rw [hx]; exact nI_clamp (by omega)
    refine cb_run cb_tb_ok vd_X0_goneAlone (cuts := []) 90 ?_
    refine Exists.intro (some P) (And.intro hP (And.intro (cb_on (cb_aP hP2 rfl)) (And.intro hx8 (cb_ifz (fun q => ?_) (fun q => ?_)))))
    · have q := of_decide_eq_false q
      rw [hxc] at q
      exact And.intro trivial (cb_eqK h (if_neg q).symm)
    · have q := of_decide_eq_true q
      rw [hxc] at q
      refine cb_av.of (cb_aPP hP2 rfl) (cb_av.of (cb_aPP hP2 rfl) (And.intro hx8 (And.intro (cb_on (cb_aP hP2 rfl)) (And.intro trivial (cb_eqK h ?_)))))
      unfold wn_gone
      rw [if_pos q]
      show cb_gI M 7 P x.toNatClampNeg - _ = _
      rw [hxc]
/-- how far off a clock is alone -/
def wq_al (ky rt dp : wm_F) (i : Nat) (day off : Int32) : Nat → Int32
  | 0 => off
  | k + 1 => wq_al ky rt dp i day off k + wn_gone ky rt dp i (day + nI k)
def wk_al (M : cb_M) (P i k : Nat) : Int32 := wq_al (cb_gI M 11 P) (cb_gI M 7 P) (cb_gI M 15 P) i (cb_gI M 16 0 0) (cb_gI M 17 0 i) k
def sp_X0_offAlone : cb_Sp := fun _ r M K => match r with
  | [.inl x, .inl N] => ∃ P i k, (cb_gR M 25 0 0 = some P ∧ cb_gR M 25 0 1 = some 0 ∧ P < 2 ∧ x = nI i ∧ i < 8 ∧ N = nI k ∧ k < 2 ^ 31) ∧ K (some (cb_i (wk_al M P i k))) M
  | _ => False
def pt_X0_offAlone : cb_PT := cb_m 39 2 sp_X0_offAlone
theorem rc_X0_offAlone : cb_rc cb_tb RX0 pt_X0_offAlone := cb_m_rc rfl rfl
def md_X0_offAlone : cb_D := (RX0, cX0_offAlone, 5, (some .int), (0, 0, 2, 46), [
  (0, .aload_n 0, 1, 0, 0, 0, 0),
  (1, .getfield 15, 3, 0, 0, 0, 312),
  (4, .getfield 85, 3, 0, 7, 1, 225),
  (7, .getfield 89, 3, 0, 3, 1, 175),
  (10, .iload_n 1, 1, 0, 1, 0, 0),
  (11, .iaload, 1, 0, 0, 0, 0),
  (12, .istore_n 3, 1, 0, 3, 0, 0),
  (13, .iconst 0, 1, 0, 0, 0, 0),
  (14, .istore 4, 2, 0, 4, 0, 0),
  (16, .iload 4, 2, 0, 4, 0, 0),
  (18, .iload_n 2, 1, 0, 2, 0, 0),
  (19, .if_icmp .ge 30, 3, 0, 49, 0, 0),
  (22, .iload_n 3, 1, 0, 3, 0, 0),
  (23, .aload_n 0, 1, 0, 0, 0, 0),
  (24, .iload_n 1, 1, 0, 1, 0, 0),
  (25, .aload_n 0, 1, 0, 0, 0, 0),
  (26, .getfield 15, 3, 0, 0, 0, 312),
  (29, .getfield 85, 3, 0, 7, 1, 225),
  (32, .getfield 94, 3, 0, 3, 0, 171),
  (35, .iload 4, 2, 0, 4, 0, 0),
  (37, .iadd, 1, 0, 0, 0, 0),
  (38, .invokevirtual 97, 3, 0, 0, 0, 0),
  (41, .iadd, 1, 0, 0, 0, 0),
  (42, .istore_n 3, 1, 0, 3, 0, 0),
  (43, .iinc 4 1, 3, 1, 4, 0, 0),
  (46, .goto (-30), 3, 0, 16, 0, 0),
  (49, .iload_n 3, 1, 0, 3, 0, 0),
  (50, .ireturn, 1, 0, 0, 0, 0)],
  [(0, 97, 3, 0, 0, pt_X0_goneAlone)], [])
set_option maxRecDepth 100000 in
theorem vd_X0_offAlone : md_X0_offAlone.cd.all (cb_vE md_X0_offAlone) = true := by decide +kernel
theorem wd_X0_offAlone : cb_wd yX0_offAlone md_X0_offAlone := ⟨cb_tw (i := 1176) (by decide +kernel), cb_tw (i := 7) (by decide +kernel), by decide, by decide⟩
theorem cs_X0_offAlone : ∀ X, cb_Bs md_X0_offAlone X → ∀ g ∈ md_X0_offAlone.ga, cb_CS cb_tb md_X0_offAlone X g := fun X B => List.forall_mem_cons.mpr ⟨cb_csV B ok_X0_goneAlone wd_X0_goneAlone (cb_tw (i := 1177) (by decide +kernel)) (cb_tw (i := 1179) (by decide +kernel)) (cb_tp (i := 42) (by decide +kernel)) rc_X0_goneAlone ⟨by decide, by decide⟩ (by decide +kernel), fun _ h => nomatch h⟩
theorem ok_X0_offAlone : cb_MOK cb_tb yX0_offAlone md_X0_offAlone pt_X0_offAlone := by
  refine cb_okm ⟨plainFor_of_name (by decide), rfl⟩ (by decide) cs_X0_offAlone (by decide) (fun X n0 f i r M hr ha h => ?_)
  have h0 := cb_a1 (T := 39) rfl ha
  subst h0
  match r, hr, h with
  | [.inl x, .inl N], hr, h =>
    obtain ⟨P, i, k, ⟨hP, hq, hP2, hx, hi, hN, hk⟩, h⟩ := h
    have hx8 : vp_in x 8 := by rw [hx]; exact vp_in_nI hi (by decide)
    have hxc : x.toNatClampNeg = i := by rw [hx]; exact nI_clamp (by omega)
    have loop : ∀ j, j ≤ k → ∀ (y o : Int32), y = nI j → o = wk_al M P i j → cb_Gd cb_tb md_X0_offAlone X 16 [some (cb_r 39 0), some (cb_i (x)), some (cb_i (N)), some (cb_i (o)), some (cb_i (y))] [] (cb_aS n0, f) M 0 0 := by
      refine cb_up (fun j => ∀ (y o : Int32), y = nI j → o = wk_al M P i j → cb_Gd cb_tb md_X0_offAlone X 16 [some (cb_r 39 0), some (cb_i (x)), some (cb_i (N)), some (cb_i (o)), some (cb_i (y))] [] (cb_aS n0, f) M 0 0) ?_ ?_
      · intro y o hy ho
        refine cb_run cb_tb_ok vd_X0_offAlone (cuts := [16]) 90 ?_
        exact cb_lout hy hN (And.intro trivial (cb_eqK h ho))
      · intro j hj ih y o hy ho
        refine cb_run cb_tb_ok vd_X0_offAlone (cuts := [16]) 90 ?_
        refine cb_lin hy hN hj hk (Exists.intro (some 0) (And.intro hq (And.intro (cb_on rfl) ⟨P, i, ⟨hP, hP2, hx, hi⟩, ?_⟩)))
        refine ih _ _ (by rw [hy, nI_1]) ?_
        rw [ho, hy]
        rfl
    refine cb_run cb_tb_ok vd_X0_offAlone (cuts := [16]) 90 ?_
    refine Exists.intro (some 0) (And.intro hq (And.intro hx8 (loop 0 (Nat.zero_le _) _ _ rfl ?_)))
    rw [hxc]
    rfl
def sp_X0_isRightAlone : cb_Sp := fun _ r M K => match r with
  | [.inl x, .inl N] => ∃ P i k, (cb_gR M 25 0 0 = some P ∧ cb_gR M 25 0 1 = some 0 ∧ P < 2 ∧ x = nI i ∧ i < 8 ∧ N = nI k ∧ k < 2 ^ 31) ∧ K (some (cb_i (cb_z (wm_rgt (cb_gI M 3 P 4) (wk_al M P i k))))) M
  | _ => False
def pt_X0_isRightAlone : cb_PT := cb_m 39 2 sp_X0_isRightAlone
theorem rc_X0_isRightAlone : cb_rc cb_tb RX0 pt_X0_isRightAlone := cb_m_rc rfl rfl
def md_X0_isRightAlone : cb_D := (RX0, cX0_isRightAlone, 3, (some .boolean), (0, 0, 3, 70), [
  (0, .aload_n 0, 1, 0, 0, 0, 0),
  (1, .getfield 15, 3, 0, 0, 0, 312),
  (4, .getfield 35, 3, 0, 7, 0, 219),
  (7, .aload_n 0, 1, 0, 0, 0, 0),
  (8, .iload_n 1, 1, 0, 1, 0, 0),
  (9, .iload_n 2, 1, 0, 2, 0, 0),
  (10, .invokevirtual 78, 3, 0, 0, 0, 0),
  (13, .invokevirtual 81, 3, 0, 1, 0, 0),
  (16, .ireturn, 1, 0, 0, 0, 0)],
  [(0, 78, 3, 0, 0, pt_X0_offAlone), (0, 81, 2, 0, 0, pt_X4_isRightBy)], [])
set_option maxRecDepth 100000 in
theorem vd_X0_isRightAlone : md_X0_isRightAlone.cd.all (cb_vE md_X0_isRightAlone) = true := by decide +kernel
theorem wd_X0_isRightAlone : cb_wd yX0_isRightAlone md_X0_isRightAlone := ⟨cb_tw (i := 1172) (by decide +kernel), cb_tw (i := 7) (by decide +kernel), by decide, by decide⟩
theorem cs_X0_isRightAlone : ∀ X, cb_Bs md_X0_isRightAlone X → ∀ g ∈ md_X0_isRightAlone.ga, cb_CS cb_tb md_X0_isRightAlone X g := fun X B => List.forall_mem_cons.mpr ⟨cb_csV B ok_X0_offAlone wd_X0_offAlone (cb_tw (i := 1173) (by decide +kernel)) (cb_tw (i := 1175) (by decide +kernel)) (cb_tp (i := 41) (by decide +kernel)) rc_X0_offAlone ⟨by decide, by decide⟩ (by decide +kernel), List.forall_mem_cons.mpr ⟨cb_csV B ok_X4_isRightBy wd_X4_isRightBy (cb_tw (i := 1183) (by decide +kernel)) (cb_tw (i := 473) (by decide +kernel)) (cb_tw (i := 474) (by decide +kernel)) rc_X4_isRightBy ⟨by decide, by decide⟩ (by decide +kernel), fun _ h => nomatch h⟩⟩
theorem ok_X0_isRightAlone : cb_MOK cb_tb yX0_isRightAlone md_X0_isRightAlone pt_X0_isRightAlone := by
  refine cb_okm ⟨plainFor_of_name (by decide), rfl⟩ (by decide) cs_X0_isRightAlone (by decide) (fun X n0 f i r M hr ha h => ?_)
  have h0 := cb_a1 (T := 39) rfl ha
  subst h0
  match r, hr, h with
  | [.inl x, .inl N], hr, h =>
    obtain ⟨P, i, k, ⟨hP, hq, hP2, hx, hi, hN, hk⟩, h⟩ := h
    refine cb_run cb_tb_ok vd_X0_isRightAlone (cuts := []) 90 ?_
    exact Exists.intro (some P) (And.intro hP (And.intro (cb_on rfl) ⟨P, i, k, ⟨hP, hq, hP2, hx, hi, hN, hk⟩, And.intro (cb_on (cb_aP hP2 rfl)) (And.intro (cb_z_01 _) (cb_eqK h rfl))⟩))
/-- honest: right on each of the days, alone -/
def wk_hon (M : cb_M) (P i k : Nat) : Bool := (List.range k).all fun g => wm_rgt (cb_gI M 3 P 4) (wk_al M P i (g + 1))
def sp_X0_isHonest : cb_Sp := fun _ r M K => match r with
  | [.inl x, .inl N] => ∃ P i k, (cb_gR M 25 0 0 = some P ∧ cb_gR M 25 0 1 = some 0 ∧ P < 2 ∧ x = nI i ∧ i < 8 ∧ N = nI k ∧ k < 2 ^ 31) ∧ K (some (cb_i (cb_z (wk_hon M P i k)))) M
  | _ => False
def pt_X0_isHonest : cb_PT := cb_m 39 2 sp_X0_isHonest
theorem rc_X0_isHonest : cb_rc cb_tb RX0 pt_X0_isHonest := cb_m_rc rfl rfl
def md_X0_isHonest : cb_D := (RX0, cX0_isHonest, 5, (some .boolean), (0, 0, 2, 46), [
  (0, .aload_n 0, 1, 0, 0, 0, 0),
  (1, .getfield 15, 3, 0, 0, 0, 312),
  (4, .getfield 85, 3, 0, 7, 1, 225),
  (7, .getfield 89, 3, 0, 3, 1, 175),
  (10, .iload_n 1, 1, 0, 1, 0, 0),
  (11, .iaload, 1, 0, 0, 0, 0),
  (12, .istore_n 3, 1, 0, 3, 0, 0),
  (13, .iconst 0, 1, 0, 0, 0, 0),
  (14, .istore 4, 2, 0, 4, 0, 0),
  (16, .iload 4, 2, 0, 4, 0, 0),
  (18, .iload_n 2, 1, 0, 2, 0, 0),
  (19, .if_icmp .ge 46, 3, 0, 65, 0, 0),
  (22, .iload_n 3, 1, 0, 3, 0, 0),
  (23, .aload_n 0, 1, 0, 0, 0, 0),
  (24, .iload_n 1, 1, 0, 1, 0, 0),
  (25, .aload_n 0, 1, 0, 0, 0, 0),
  (26, .getfield 15, 3, 0, 0, 0, 312),
  (29, .getfield 85, 3, 0, 7, 1, 225),
  (32, .getfield 94, 3, 0, 3, 0, 171),
  (35, .iload 4, 2, 0, 4, 0, 0),
  (37, .iadd, 1, 0, 0, 0, 0),
  (38, .invokevirtual 97, 3, 0, 0, 0, 0),
  (41, .iadd, 1, 0, 0, 0, 0),
  (42, .istore_n 3, 1, 0, 3, 0, 0),
  (43, .aload_n 0, 1, 0, 0, 0, 0),
  (44, .getfield 15, 3, 0, 0, 0, 312),
  (47, .getfield 35, 3, 0, 7, 0, 219),
  (50, .iload_n 3, 1, 0, 3, 0, 0),
  (51, .invokevirtual 81, 3, 0, 1, 0, 0),
  (54, .ifCond .ne 5, 3, 0, 59, 0, 0),
  (57, .iconst 0, 1, 0, 0, 0, 0),
  (58, .ireturn, 1, 0, 0, 0, 0),
  (59, .iinc 4 1, 3, 1, 4, 0, 0),
  (62, .goto (-46), 3, 0, 16, 0, 0),
  (65, .iconst 1, 1, 1, 0, 0, 0),
  (66, .ireturn, 1, 0, 0, 0, 0)],
  [(0, 97, 3, 0, 0, pt_X0_goneAlone), (0, 81, 2, 0, 0, pt_X4_isRightBy)], [])
set_option maxRecDepth 100000 in
theorem vd_X0_isHonest : md_X0_isHonest.cd.all (cb_vE md_X0_isHonest) = true := by decide +kernel
theorem wd_X0_isHonest : cb_wd yX0_isHonest md_X0_isHonest := ⟨cb_tw (i := 1299) (by decide +kernel), cb_tw (i := 7) (by decide +kernel), by decide, by decide⟩
theorem cs_X0_isHonest : ∀ X, cb_Bs md_X0_isHonest X → ∀ g ∈ md_X0_isHonest.ga, cb_CS cb_tb md_X0_isHonest X g := fun X B => List.forall_mem_cons.mpr ⟨cb_csV B ok_X0_goneAlone wd_X0_goneAlone (cb_tw (i := 1177) (by decide +kernel)) (cb_tw (i := 1179) (by decide +kernel)) (cb_tp (i := 42) (by decide +kernel)) rc_X0_goneAlone ⟨by decide, by decide⟩ (by decide +kernel), List.forall_mem_cons.mpr ⟨cb_csV B ok_X4_isRightBy wd_X4_isRightBy (cb_tw (i := 1183) (by decide +kernel)) (cb_tw (i := 473) (by decide +kernel)) (cb_tw (i := 474) (by decide +kernel)) rc_X4_isRightBy ⟨by decide, by decide⟩ (by decide +kernel), fun _ h => nomatch h⟩⟩
theorem ok_X0_isHonest : cb_MOK cb_tb yX0_isHonest md_X0_isHonest pt_X0_isHonest := by
  refine cb_okm ⟨plainFor_of_name (by decide), rfl⟩ (by decide) cs_X0_isHonest (by decide) (fun X n0 f i r M hr ha h => ?_)
  have h0 := cb_a1 (T := 39) rfl ha
  subst h0
  match r, hr, h with
  | [.inl x, .inl N], hr, h =>
    obtain ⟨P, i, k, ⟨hP, hq, hP2, hx, hi, hN, hk⟩, h⟩ := h
    have hx8 : vp_in x 8 := by rw [hx]; exact vp_in_nI hi (by decide)
    have hxc : x.toNatClampNeg = i := by rw [hx]; exact nI_clamp (by omega)
    have loop : ∀ j, j ≤ k → ∀ (y o : Int32), y = nI j → o = wk_al M P i j → wk_hon M P i j = true → cb_Gd cb_tb md_X0_isHonest X 16 [some (cb_r 39 0), some (cb_i (x)), some (cb_i (N)), some (cb_i (o)), some (cb_i (y))] [] (cb_aS n0, f) M 0 0 := by
      refine cb_up (fun j => ∀ (y o : Int32), y = nI j → o = wk_al M P i j → wk_hon M P i j = true → cb_Gd cb_tb md_X0_isHonest X 16 [some (cb_r 39 0), some (cb_i (x)), some (cb_i (N)), some (cb_i (o)), some (cb_i (y))] [] (cb_aS n0, f) M 0 0) ?_ ?_
      · intro y o hy ho hz
        refine cb_run cb_tb_ok vd_X0_isHonest (cuts := [16]) 90 ?_
        exact cb_lout hy hN (And.intro cb_rt1 (cb_z1 (K := fun v M' => X.K (.inl v) (cb_aS n0, f) M') h hz))
      · intro j hj ih y o hy ho hz
        have e : o + wn_gone (cb_gI M 11 P) (cb_gI M 7 P) (cb_gI M 15 P) i (cb_gI M 16 0 0 + y) = wk_al M P i (j + 1) := by rw [ho, hy]; rfl
        refine cb_run cb_tb_ok vd_X0_isHonest (cuts := [16]) 90 ?_
        refine cb_lin hy hN hj hk (Exists.intro (some 0) (And.intro hq (And.intro (cb_on rfl) ⟨P, i, ⟨hP, hP2, hx, hi⟩, Exists.intro (some P) (And.intro hP (And.intro (cb_on (cb_aP hP2 rfl)) (And.intro (fun q => ?_) (fun q => ?_))))⟩)))
        · refine ih _ _ (by rw [hy, nI_1]) e ?_
          have q : ¬ cb_z (wm_rgt (cb_gI M 3 P 4) (o + wn_gone (cb_gI M 11 P) (cb_gI M 7 P) (cb_gI M 15 P) i (cb_gI M 16 0 0 + y))) = 0 := q
          rw [e] at q
          unfold wk_hon at *
          rw [cb_all_succ, hz]
          cases hh : wm_rgt (cb_gI M 3 P 4) (wk_al M P i (j + 1)) with
          | true => rfl
          | false => rw [hh] at q; exact absurd rfl q
        · have q : cb_z (wm_rgt (cb_gI M 3 P 4) (o + wn_gone (cb_gI M 11 P) (cb_gI M 7 P) (cb_gI M 15 P) i (cb_gI M 16 0 0 + y))) = 0 := Classical.not_not.mp q
          rw [e] at q
          exact And.intro cb_rt0 (cb_z0 (K := fun v M' => X.K (.inl v) (cb_aS n0, f) M') h (cb_all_miss hj (cb_z_eq0.mp q)))
    refine cb_run cb_tb_ok vd_X0_isHonest (cuts := [16]) 90 ?_
    refine Exists.intro (some 0) (And.intro hq (And.intro hx8 (loop 0 (Nat.zero_le _) _ _ rfl ?_ rfl)))
    rw [hxc]
    rfl
def sp_X0_honestOnes : cb_Sp := fun _ r M K => match r with
  | [.inl N] => ∃ P n k, (wk_T M P n ∧ cb_gR M 25 0 1 = some 0 ∧ N = nI k ∧ k < 2 ^ 31) ∧ K (some (cb_i (wm_mask (fun i => wk_hon M P i k) n))) M
  | _ => False
def pt_X0_honestOnes : cb_PT := cb_m 39 1 sp_X0_honestOnes
theorem rc_X0_honestOnes : cb_rc cb_tb RX0 pt_X0_honestOnes := cb_m_rc rfl rfl
def md_X0_honestOnes : cb_D := (RX0, cX0_honestOnes, 4, (some .int), (0, 0, 3, 70), [
  (0, .iconst 0, 1, 0, 0, 0, 0),
  (1, .istore_n 2, 1, 0, 2, 0, 0),
  (2, .iconst 0, 1, 0, 0, 0, 0),
  (3, .istore_n 3, 1, 0, 3, 0, 0),
  (4, .iload_n 3, 1, 0, 3, 0, 0),
  (5, .aload_n 0, 1, 0, 0, 0, 0),
  (6, .getfield 15, 3, 0, 0, 0, 312),
  (9, .getfield 62, 3, 0, 7, 2, 228),
  (12, .if_icmp .ge 24, 3, 0, 36, 0, 0),
  (15, .aload_n 0, 1, 0, 0, 0, 0),
  (16, .iload_n 3, 1, 0, 3, 0, 0),
  (17, .iload_n 1, 1, 0, 1, 0, 0),
  (18, .invokevirtual 128, 3, 0, 0, 0, 0),
  (21, .ifCond .eq 9, 3, 0, 30, 0, 0),
  (24, .iload_n 2, 1, 0, 2, 0, 0),
  (25, .iconst 1, 1, 1, 0, 0, 0),
  (26, .iload_n 3, 1, 0, 3, 0, 0),
  (27, .ishl, 1, 0, 0, 0, 0),
  (28, .ior, 1, 0, 0, 0, 0),
  (29, .istore_n 2, 1, 0, 2, 0, 0),
  (30, .iinc 3 1, 3, 1, 3, 0, 0),
  (33, .goto (-29), 3, 0, 4, 0, 0),
  (36, .iload_n 2, 1, 0, 2, 0, 0),
  (37, .ireturn, 1, 0, 0, 0, 0)],
  [(0, 128, 3, 0, 0, pt_X0_isHonest)], [])
set_option maxRecDepth 100000 in
theorem vd_X0_honestOnes : md_X0_honestOnes.cd.all (cb_vE md_X0_honestOnes) = true := by decide +kernel
theorem wd_X0_honestOnes : cb_wd yX0_honestOnes md_X0_honestOnes := ⟨cb_tw (i := 1295) (by decide +kernel), cb_tw (i := 7) (by decide +kernel), by decide, by decide⟩
theorem cs_X0_honestOnes : ∀ X, cb_Bs md_X0_honestOnes X → ∀ g ∈ md_X0_honestOnes.ga, cb_CS cb_tb md_X0_honestOnes X g := fun X B => List.forall_mem_cons.mpr ⟨cb_csV B ok_X0_isHonest wd_X0_isHonest (cb_tw (i := 1296) (by decide +kernel)) (cb_tw (i := 1298) (by decide +kernel)) (cb_tp (i := 44) (by decide +kernel)) rc_X0_isHonest ⟨by decide, by decide⟩ (by decide +kernel), fun _ h => nomatch h⟩
theorem ok_X0_honestOnes : cb_MOK cb_tb yX0_honestOnes md_X0_honestOnes pt_X0_honestOnes := by
  refine cb_okm ⟨plainFor_of_name (by decide), rfl⟩ (by decide) cs_X0_honestOnes (by decide) (fun X n0 f i r M hr ha h => ?_)
  have h0 := cb_a1 (T := 39) rfl ha
  subst h0
  match r, hr, h with
  | [.inl N], hr, h =>
    obtain ⟨P, n, k, ⟨⟨hP, hP2, hn, hn8⟩, hq, hN, hk⟩, h⟩ := h
    have loop : ∀ j, j ≤ n → ∀ (x m : Int32), x = nI j → m = wm_mask (fun i => wk_hon M P i k) j → cb_Gd cb_tb md_X0_honestOnes X 4 [some (cb_r 39 0), some (cb_i (N)), some (cb_i (m)), some (cb_i (x))] [] (cb_aS n0, f) M 0 0 := by
      refine cb_up (fun j => ∀ (x m : Int32), x = nI j → m = wm_mask (fun i => wk_hon M P i k) j → cb_Gd cb_tb md_X0_honestOnes X 4 [some (cb_r 39 0), some (cb_i (N)), some (cb_i (m)), some (cb_i (x))] [] (cb_aS n0, f) M 0 0) ?_ ?_
      · intro x m hx hm
        refine cb_run cb_tb_ok vd_X0_honestOnes (cuts := [4]) 90 ?_
        exact cb_lout hx hn (And.intro trivial (cb_eqK h hm))
      · intro j hj ih x m hx hm
        refine cb_run cb_tb_ok vd_X0_honestOnes (cuts := [4]) 90 ?_
        refine cb_lin hx hn hj (by omega) (And.intro (cb_on rfl) ⟨P, j, k, ⟨hP, hq, hP2, hx, by omega, hN, hk⟩, cb_ifz (fun q => ?_) (fun q => ?_)⟩)
        · refine ih _ _ (by rw [hx, nI_1]) ?_
          rw [wm_mask, q, hm]
          simp
        · refine ih _ _ (by rw [hx, nI_1]) ?_
          rw [wm_mask, q, hm, hx]
          rfl
    exact cb_run cb_tb_ok vd_X0_honestOnes (cuts := [4]) 40 (loop 0 (Nat.zero_le _) _ _ rfl rfl)
