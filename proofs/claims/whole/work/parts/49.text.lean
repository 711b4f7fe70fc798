/-! ===== the reader: words and the whole text ===== -/
def rd_many (j : Nat) (A : rd_P) : Bool := if j = 0 then decide (¬ A.nb < 4) else if j = 1 then decide (¬ A.n < 8) else if j = 2 then decide (¬ A.h < 6) else false
def rd_mi (w b c h : Int32) : Bool := if w = 0 then decide (¬ b < 4) else if w = 1 then decide (¬ c < 8) else if w = 2 then decide (¬ h < 6) else false
theorem rd_mi_A {A : rd_P} (hC : rd_C A) {j : Nat} (hj : j < 8) : rd_mi (nI j) (nI A.nb) (nI A.n) (nI A.h) = rd_many j A := by
  obtain ⟨h1, h2, h3⟩ := hC
  unfold rd_mi rd_many
  have e : ∀ k, k < 8 → (nI j = nI k ↔ j = k) := fun k hk => nI_eq (by omega) (by omega)
  have l1 : nI A.nb < 4 ↔ A.nb < 4 := nI_ltI (b := 4) (by omega) (by decide)
  have l2 : nI A.n < 8 ↔ A.n < 8 := nI_ltI (b := 8) (by omega) (by decide)
  have l3 : nI A.h < 6 ↔ A.h < 6 := nI_ltI (b := 6) (by omega) (by decide)
  have e0 : nI j = 0 ↔ j = 0 := e 0 (by decide)
  have e1 : nI j = 1 ↔ j = 1 := e 1 (by decide)
  have e2 : nI j = 2 ↔ j = 2 := e 2 (by decide)
  simp only [e0, e1, e2, l1, l2, l3]
def pt_X6_isTooMany : cb_PT := fun As a M K => match As with
  | [.inr (.inr (some (t, P))), .inl w] => t = 3 ∧ a.1 3 P = true ∧ K (.inl (some (cb_i (cb_z (rd_mi w (cb_gI M 3 P 0) (cb_gI M 3 P 1) (cb_gI M 3 P 2)))))) a M
  | _ => False
theorem pt_tm_to {As : List cb_V} {a : cb_A} {M : cb_M} {K : cb_Out → cb_A → cb_M → Prop} (h : pt_X6_isTooMany As a M K) : ∃ P w, As = [cb_r 3 P, cb_i w] ∧ a.1 3 P = true ∧ K (.inl (some (cb_i (cb_z (rd_mi w (cb_gI M 3 P 0) (cb_gI M 3 P 1) (cb_gI M 3 P 2)))))) a M := by
  unfold pt_X6_isTooMany at h
  split at h
  · obtain ⟨rfl, h⟩ := h
    exact ⟨_, _, rfl, h⟩
  · exact h.elim
def md_X6_isTooMany : cb_D := (RX6, cX6_isTooMany, 2, (some .boolean), (0, 0, 0, 0), [
  (0, .iload_n 1, 1, 0, 1, 0, 0),
  (1, .tableswitch 71 0 2 #[27, 41, 56], 27, 0, 0, 0, 0),
  (28, .aload_n 0, 1, 0, 0, 0, 0),
  (29, .getfield 67, 3, 0, 4, 0, 67),
  (32, .iconst 4, 1, 4, 0, 0, 0),
  (33, .if_icmp .lt 7, 3, 0, 40, 0, 0),
  (36, .iconst 1, 1, 1, 0, 0, 0),
  (37, .goto 4, 3, 0, 41, 0, 0),
  (40, .iconst 0, 1, 0, 0, 0, 0),
  (41, .ireturn, 1, 0, 0, 0, 0),
  (42, .aload_n 0, 1, 0, 0, 0, 0),
  (43, .getfield 70, 3, 0, 4, 1, 73),
  (46, .bipush 8, 2, 8, 0, 0, 0),
  (48, .if_icmp .lt 7, 3, 0, 55, 0, 0),
  (51, .iconst 1, 1, 1, 0, 0, 0),
  (52, .goto 4, 3, 0, 56, 0, 0),
  (55, .iconst 0, 1, 0, 0, 0, 0),
  (56, .ireturn, 1, 0, 0, 0, 0),
  (57, .aload_n 0, 1, 0, 0, 0, 0),
  (58, .getfield 73, 3, 0, 4, 2, 76),
  (61, .bipush 6, 2, 6, 0, 0, 0),
  (63, .if_icmp .lt 7, 3, 0, 70, 0, 0),
  (66, .iconst 1, 1, 1, 0, 0, 0),
  (67, .goto 4, 3, 0, 71, 0, 0),
  (70, .iconst 0, 1, 0, 0, 0, 0),
  (71, .ireturn, 1, 0, 0, 0, 0),
  (72, .iconst 0, 1, 0, 0, 0, 0),
  (73, .ireturn, 1, 0, 0, 0, 0)],
  [], [(1, [(0, 28), (1, 42), (2, 57)], 72)])
set_option maxRecDepth 100000 in
theorem vd_X6_isTooMany : md_X6_isTooMany.cd.all (cb_vE md_X6_isTooMany) = true := by decide +kernel
theorem wd_X6_isTooMany : cb_wd yX6_isTooMany md_X6_isTooMany := ⟨cb_tw (i := 708) (by decide +kernel), cb_tw (i := 2) (by decide +kernel), by decide, by decide⟩
theorem cs_X6_isTooMany : ∀ X, cb_Bs md_X6_isTooMany X → ∀ g ∈ md_X6_isTooMany.ga, cb_CS cb_tb md_X6_isTooMany X g := fun X B => fun _ h => nomatch h
theorem ok_X6_isTooMany : cb_MOK cb_tb yX6_isTooMany md_X6_isTooMany pt_X6_isTooMany := by
  refine cb_of ⟨plainFor_of_name (by decide), rfl⟩ (fun As a M K h => ?_) cs_X6_isTooMany (fun _ _ _ _ _ => cb_Ts0 (by decide)) (fun X As a M h => ?_)
  · obtain ⟨P, w, rfl, -⟩ := pt_tm_to h
    exact (by decide : 2 ≤ 2)
  · obtain ⟨P, w, rfl, ha, h⟩ := pt_tm_to h
    unfold rd_mi at h
    refine cb_run cb_tb_ok vd_X6_isTooMany (cuts := []) 40 ?_
    refine And.intro (fun q => cb_av.of ha (And.intro (fun q1 => ?_) (fun q1 => ?_))) (fun q => And.intro (fun q2 => cb_av.of ha (And.intro (fun q1 => ?_) (fun q1 => ?_))) (fun q2 => And.intro (fun q3 => cb_av.of ha (And.intro (fun q1 => ?_) (fun q1 => ?_))) (fun q3 => ?_)))
    · have q : w = 0 := q
      rw [if_pos q, decide_eq_false (fun z => z q1)] at h
      exact And.intro cb_rt0 h
    · have q : w = 0 := q
      have q1 : ¬ cb_gI M 3 P 0 < 4 := q1
      rw [if_pos q, decide_eq_true q1] at h
      exact And.intro cb_rt1 h
    · have q : ¬ w = 0 := q
      have q2 : w = 1 := q2
      rw [if_neg q, if_pos q2, decide_eq_false (fun z => z q1)] at h
      exact And.intro cb_rt0 h
    · have q : ¬ w = 0 := q
      have q2 : w = 1 := q2
      have q1 : ¬ cb_gI M 3 P 1 < 8 := q1
      rw [if_neg q, if_pos q2, decide_eq_true q1] at h
      exact And.intro cb_rt1 h
    · have q : ¬ w = 0 := q
      have q2 : ¬ w = 1 := q2
      have q3 : w = 2 := q3
      rw [if_neg q, if_neg q2, if_pos q3, decide_eq_false (fun z => z q1)] at h
      exact And.intro cb_rt0 h
    · have q : ¬ w = 0 := q
      have q2 : ¬ w = 1 := q2
      have q3 : w = 2 := q3
      have q1 : ¬ cb_gI M 3 P 2 < 6 := q1
      rw [if_neg q, if_neg q2, if_pos q3, decide_eq_true q1] at h
      exact And.intro cb_rt1 h
    · have q : ¬ w = 0 := q
      have q2 : ¬ w = 1 := q2
      have q3 : ¬ w = 2 := q3
      rw [if_neg q, if_neg q2, if_neg q3] at h
      exact And.intro cb_rt0 h
def rd_cl (tx : wm_F) (len j : Nat) (A : rd_P) (at_ : Nat) : rd_X ⊕ (rd_P × Nat) := if j = 0 then rd_c0 tx len A at_ else if j = 1 then rd_c1 tx len A at_ else if j = 2 then rd_c2 tx len A at_ else if j = 3 then rd_c3 tx len A at_ else if j = 4 then rd_c4 tx len A at_ else if j = 5 then rd_c5 tx len A at_ else if j = 6 then rd_c6 tx len A at_ else rd_c7 tx len A at_
def sp_X6_readNumbers : cb_Sp := fun _ r M K => match r with
  | [.inr (.inr (some (t, P))), .inl w] => t = 3 ∧ P < 2 ∧ ∃ len at_ A j, (rd_E M len at_ ∧ cb_gI M 1 0 4 = 0 ∧ rd_V M P A ∧ rd_C A ∧ w = nI j ∧ j < 8 ∧ rd_many j A = false) ∧ ∀ M', rd_fr P M M' → rd_q M len P (rd_cl (cb_gI M 2 0) len j A at_) M' → K none M'
  | _ => False
def pt_X6_readNumbers : cb_PT := cb_m 1 2 sp_X6_readNumbers
theorem rc_X6_readNumbers : cb_rc cb_tb RX6 pt_X6_readNumbers := cb_m_rc rfl rfl
def md_X6_readNumbers : cb_D := (RX6, cX6_readNumbers, 3, none, (0, 0, 4, 97), [
  (0, .iload_n 2, 1, 0, 2, 0, 0),
  (1, .tableswitch 99 0 6 #[43, 51, 59, 67, 75, 83, 91], 43, 0, 0, 0, 0),
  (44, .aload_n 0, 1, 0, 0, 0, 0),
  (45, .aload_n 1, 1, 0, 1, 0, 0),
  (46, .invokevirtual 76, 3, 0, 0, 0, 0),
  (49, .goto 56, 3, 0, 105, 0, 0),
  (52, .aload_n 0, 1, 0, 0, 0, 0),
  (53, .aload_n 1, 1, 0, 1, 0, 0),
  (54, .invokevirtual 80, 3, 0, 1, 0, 0),
  (57, .goto 48, 3, 0, 105, 0, 0),
  (60, .aload_n 0, 1, 0, 0, 0, 0),
  (61, .aload_n 1, 1, 0, 1, 0, 0),
  (62, .invokevirtual 83, 3, 0, 2, 0, 0),
  (65, .goto 40, 3, 0, 105, 0, 0),
  (68, .aload_n 0, 1, 0, 0, 0, 0),
  (69, .aload_n 1, 1, 0, 1, 0, 0),
  (70, .invokevirtual 86, 3, 0, 3, 0, 0),
  (73, .goto 32, 3, 0, 105, 0, 0),
  (76, .aload_n 0, 1, 0, 0, 0, 0),
  (77, .aload_n 1, 1, 0, 1, 0, 0),
  (78, .invokevirtual 89, 3, 0, 4, 0, 0),
  (81, .goto 24, 3, 0, 105, 0, 0),
  (84, .aload_n 0, 1, 0, 0, 0, 0),
  (85, .aload_n 1, 1, 0, 1, 0, 0),
  (86, .invokevirtual 92, 3, 0, 5, 0, 0),
  (89, .goto 16, 3, 0, 105, 0, 0),
  (92, .aload_n 0, 1, 0, 0, 0, 0),
  (93, .aload_n 1, 1, 0, 1, 0, 0),
  (94, .invokevirtual 95, 3, 0, 6, 0, 0),
  (97, .goto 8, 3, 0, 105, 0, 0),
  (100, .aload_n 0, 1, 0, 0, 0, 0),
  (101, .aload_n 1, 1, 0, 1, 0, 0),
  (102, .invokevirtual 98, 3, 0, 7, 0, 0),
  (105, .return_, 1, 0, 0, 0, 0)],
  [(0, 76, 2, 0, 0, pt_X6_readBoard), (0, 80, 2, 0, 0, pt_X6_readClock), (0, 83, 2, 0, 0, pt_X6_readHook), (0, 86, 2, 0, 0, pt_X6_readHears), (0, 89, 2, 0, 0, pt_X6_readDamp), (0, 92, 2, 0, 0, pt_X6_readKey), (0, 95, 2, 0, 0, pt_X6_readSound), (0, 98, 2, 0, 0, pt_X6_readRight)], [(1, [(0, 44), (1, 52), (2, 60), (3, 68), (4, 76), (5, 84), (6, 92)], 100)])
set_option maxRecDepth 100000 in
theorem vd_X6_readNumbers : md_X6_readNumbers.cd.all (cb_vE md_X6_readNumbers) = true := by decide +kernel
theorem wd_X6_readNumbers : cb_wd yX6_readNumbers md_X6_readNumbers := ⟨cb_tw (i := 712) (by decide +kernel), cb_tw (i := 2) (by decide +kernel), by decide, by decide⟩
theorem cs_X6_readNumbers : ∀ X, cb_Bs md_X6_readNumbers X → ∀ g ∈ md_X6_readNumbers.ga, cb_CS cb_tb md_X6_readNumbers X g := fun X B => List.forall_mem_cons.mpr ⟨cb_csV B ok_X6_readBoard wd_X6_readBoard (cb_tw (i := 713) (by decide +kernel)) (cb_tw (i := 715) (by decide +kernel)) (cb_tp (i := 11) (by decide +kernel)) rc_X6_readBoard ⟨by decide, by decide⟩ (by decide +kernel), List.forall_mem_cons.mpr ⟨cb_csV B ok_X6_readClock wd_X6_readClock (cb_tw (i := 728) (by decide +kernel)) (cb_tw (i := 730) (by decide +kernel)) (cb_tp (i := 14) (by decide +kernel)) rc_X6_readClock ⟨by decide, by decide⟩ (by decide +kernel), List.forall_mem_cons.mpr ⟨cb_csV B ok_X6_readHook wd_X6_readHook (cb_tw (i := 740) (by decide +kernel)) (cb_tw (i := 742) (by decide +kernel)) (cb_tp (i := 16) (by decide +kernel)) rc_X6_readHook ⟨by decide, by decide⟩ (by decide +kernel), List.forall_mem_cons.mpr ⟨cb_csV B ok_X6_readHears wd_X6_readHears (cb_tw (i := 744) (by decide +kernel)) (cb_tw (i := 746) (by decide +kernel)) (cb_tp (i := 17) (by decide +kernel)) rc_X6_readHears ⟨by decide, by decide⟩ (by decide +kernel), List.forall_mem_cons.mpr ⟨cb_csV B ok_X6_readDamp wd_X6_readDamp (cb_tw (i := 748) (by decide +kernel)) (cb_tw (i := 750) (by decide +kernel)) (cb_tp (i := 18) (by decide +kernel)) rc_X6_readDamp ⟨by decide, by decide⟩ (by decide +kernel), List.forall_mem_cons.mpr ⟨cb_csV B ok_X6_readKey wd_X6_readKey (cb_tw (i := 752) (by decide +kernel)) (cb_tw (i := 754) (by decide +kernel)) (cb_tp (i := 19) (by decide +kernel)) rc_X6_readKey ⟨by decide, by decide⟩ (by decide +kernel), List.forall_mem_cons.mpr ⟨cb_csV B ok_X6_readSound wd_X6_readSound (cb_tw (i := 756) (by decide +kernel)) (cb_tw (i := 758) (by decide +kernel)) (cb_tp (i := 20) (by decide +kernel)) rc_X6_readSound ⟨by decide, by decide⟩ (by decide +kernel), List.forall_mem_cons.mpr ⟨cb_csV B ok_X6_readRight wd_X6_readRight (cb_tw (i := 760) (by decide +kernel)) (cb_tw (i := 762) (by decide +kernel)) (cb_tp (i := 21) (by decide +kernel)) rc_X6_readRight ⟨by decide, by decide⟩ (by decide +kernel), fun _ h => nomatch h⟩⟩⟩⟩⟩⟩⟩⟩
theorem ok_X6_readNumbers : cb_MOK cb_tb yX6_readNumbers md_X6_readNumbers pt_X6_readNumbers := by
  refine cb_okm ⟨plainFor_of_name (by decide), rfl⟩ (by decide) cs_X6_readNumbers (by decide) (fun X n0 f i r M hr ha h => ?_)
  have h0 := cb_a1 (T := 1) rfl ha
  subst h0
  match r, hr, h with
  | [.inr (.inr (some (t, P))), .inl w], hr, h =>
    obtain ⟨rfl, hP, len, at_, A, j, ⟨hE, h0, hV, hC, hw, hj, hm⟩, h⟩ := h
    unfold rd_cl at h
    unfold rd_many at hm
    have hk : ∀ i, i < 8 → (w = nI i ↔ j = i) := fun i hi => by rw [hw]; exact nI_eq (by omega) (by omega)
    refine cb_run cb_tb_ok vd_X6_readNumbers (cuts := []) 90 ?_
    refine And.intro (fun q => ?_) (fun q0 => And.intro (fun q => ?_) (fun q1 => And.intro (fun q => ?_) (fun q2 => And.intro (fun q => ?_) (fun q3 => And.intro (fun q => ?_) (fun q4 => And.intro (fun q => ?_) (fun q5 => And.intro (fun q => ?_) (fun q6 => ?_)))))))
    · have e := (hk 0 (by decide)).mp q
      rw [if_pos e] at h hm
      refine And.intro (cb_on rfl) ⟨rfl, hP, len, at_, A, ⟨hE, h0, hV, hC, ?_⟩, fun M1 h1 h2 => And.intro rfl (h M1 h1 h2)⟩
      simpa using hm
    · have n0' : ¬ j = 0 := fun z => q0 ((hk 0 (by decide)).mpr z)
      have e := (hk 1 (by decide)).mp q
      rw [if_neg n0', if_pos e] at h hm
      refine And.intro (cb_on rfl) ⟨rfl, hP, len, at_, A, ⟨hE, h0, hV, hC, ?_⟩, fun M1 h1 h2 => And.intro rfl (h M1 h1 h2)⟩
      simpa using hm
    · have n0' : ¬ j = 0 := fun z => q0 ((hk 0 (by decide)).mpr z)
      have n1 : ¬ j = 1 := fun z => q1 ((hk 1 (by decide)).mpr z)
      have e := (hk 2 (by decide)).mp q
      rw [if_neg n0', if_neg n1, if_pos e] at h hm
      refine And.intro (cb_on rfl) ⟨rfl, hP, len, at_, A, ⟨hE, h0, hV, hC, ?_⟩, fun M1 h1 h2 => And.intro rfl (h M1 h1 h2)⟩
      simpa using hm
    · have n0' : ¬ j = 0 := fun z => q0 ((hk 0 (by decide)).mpr z)
      have n1 : ¬ j = 1 := fun z => q1 ((hk 1 (by decide)).mpr z)
      have n2 : ¬ j = 2 := fun z => q2 ((hk 2 (by decide)).mpr z)
      have e := (hk 3 (by decide)).mp q
      rw [if_neg n0', if_neg n1, if_neg n2, if_pos e] at h
      exact And.intro (cb_on rfl) ⟨rfl, hP, len, at_, A, ⟨hE, h0, hV, hC, rfl⟩, fun M1 h1 h2 => And.intro rfl (h M1 h1 h2)⟩
    · have n0' : ¬ j = 0 := fun z => q0 ((hk 0 (by decide)).mpr z)
      have n1 : ¬ j = 1 := fun z => q1 ((hk 1 (by decide)).mpr z)
      have n2 : ¬ j = 2 := fun z => q2 ((hk 2 (by decide)).mpr z)
      have n3 : ¬ j = 3 := fun z => q3 ((hk 3 (by decide)).mpr z)
      have e := (hk 4 (by decide)).mp q
      rw [if_neg n0', if_neg n1, if_neg n2, if_neg n3, if_pos e] at h
      exact And.intro (cb_on rfl) ⟨rfl, hP, len, at_, A, ⟨hE, h0, hV, hC, rfl⟩, fun M1 h1 h2 => And.intro rfl (h M1 h1 h2)⟩
    · have n0' : ¬ j = 0 := fun z => q0 ((hk 0 (by decide)).mpr z)
      have n1 : ¬ j = 1 := fun z => q1 ((hk 1 (by decide)).mpr z)
      have n2 : ¬ j = 2 := fun z => q2 ((hk 2 (by decide)).mpr z)
      have n3 : ¬ j = 3 := fun z => q3 ((hk 3 (by decide)).mpr z)
      have n4 : ¬ j = 4 := fun z => q4 ((hk 4 (by decide)).mpr z)
      have e := (hk 5 (by decide)).mp q
      rw [if_neg n0', if_neg n1, if_neg n2, if_neg n3, if_neg n4, if_pos e] at h
      exact And.intro (cb_on rfl) ⟨rfl, hP, len, at_, A, ⟨hE, h0, hV, hC, rfl⟩, fun M1 h1 h2 => And.intro rfl (h M1 h1 h2)⟩
    · have n0' : ¬ j = 0 := fun z => q0 ((hk 0 (by decide)).mpr z)
      have n1 : ¬ j = 1 := fun z => q1 ((hk 1 (by decide)).mpr z)
      have n2 : ¬ j = 2 := fun z => q2 ((hk 2 (by decide)).mpr z)
      have n3 : ¬ j = 3 := fun z => q3 ((hk 3 (by decide)).mpr z)
      have n4 : ¬ j = 4 := fun z => q4 ((hk 4 (by decide)).mpr z)
      have n5 : ¬ j = 5 := fun z => q5 ((hk 5 (by decide)).mpr z)
      have e := (hk 6 (by decide)).mp q
      rw [if_neg n0', if_neg n1, if_neg n2, if_neg n3, if_neg n4, if_neg n5, if_pos e] at h
      exact And.intro (cb_on rfl) ⟨rfl, hP, len, at_, A, ⟨hE, h0, hV, hC, rfl⟩, fun M1 h1 h2 => And.intro rfl (h M1 h1 h2)⟩
    · have n0' : ¬ j = 0 := fun z => q0 ((hk 0 (by decide)).mpr z)
      have n1 : ¬ j = 1 := fun z => q1 ((hk 1 (by decide)).mpr z)
      have n2 : ¬ j = 2 := fun z => q2 ((hk 2 (by decide)).mpr z)
      have n3 : ¬ j = 3 := fun z => q3 ((hk 3 (by decide)).mpr z)
      have n4 : ¬ j = 4 := fun z => q4 ((hk 4 (by decide)).mpr z)
      have n5 : ¬ j = 5 := fun z => q5 ((hk 5 (by decide)).mpr z)
      have n6 : ¬ j = 6 := fun z => q6 ((hk 6 (by decide)).mpr z)
      rw [if_neg n0', if_neg n1, if_neg n2, if_neg n3, if_neg n4, if_neg n5, if_neg n6] at h
      exact And.intro (cb_on rfl) ⟨rfl, hP, len, at_, A, ⟨hE, h0, hV, hC, rfl⟩, fun M1 h1 h2 => And.intro rfl (h M1 h1 h2)⟩
/-! words -/
def rd_is (tx : wm_F) (a b j : Nat) : Bool := decide (b - a = cb_slen.getD j 0) && (List.range (cb_slen.getD j 0)).all fun k => decide (tx (a + k) = tx_ch j k)
def rd_w (tx : wm_F) (a b : Nat) : Option Nat := (List.range 8).find? (rd_is tx a b)
def rd_wv (o : Option Nat) : Int32 := match o with
  | some j => nI j
  | none => -1
def sp_X6_isWord : cb_Sp := fun _ r M K => match r with
  | [.inr (.inr (some (t, j))), .inl x, .inl y] => t = 91 ∧ j < 8 ∧ ∃ len at_ a b, (rd_E M len at_ ∧ x = nI a ∧ y = nI b ∧ a ≤ b ∧ b ≤ len) ∧ K (some (cb_i (cb_z (rd_is (cb_gI M 2 0) a b j)))) M
  | _ => False
def pt_X6_isWord : cb_PT := cb_m 1 3 sp_X6_isWord
theorem rc_X6_isWord : cb_rc cb_tb RX6 pt_X6_isWord := cb_m_rc rfl rfl
def md_X6_isWord : cb_D := (RX6, cX6_isWord, 5, (some .boolean), (0, 0, 4, 85), [
  (0, .iload_n 3, 1, 0, 3, 0, 0),
  (1, .iload_n 2, 1, 0, 2, 0, 0),
  (2, .isub, 1, 0, 0, 0, 0),
  (3, .aload_n 1, 1, 0, 1, 0, 0),
  (4, .invokevirtual 177, 3, 0, 0, 0, 0),
  (7, .if_icmp .eq 5, 3, 0, 12, 0, 0),
  (10, .iconst 0, 1, 0, 0, 0, 0),
  (11, .ireturn, 1, 0, 0, 0, 0),
  (12, .iconst 0, 1, 0, 0, 0, 0),
  (13, .istore 4, 2, 0, 4, 0, 0),
  (15, .iload 4, 2, 0, 4, 0, 0),
  (17, .aload_n 1, 1, 0, 1, 0, 0),
  (18, .invokevirtual 177, 3, 0, 0, 0, 0),
  (21, .if_icmp .ge 29, 3, 0, 50, 0, 0),
  (24, .aload_n 0, 1, 0, 0, 0, 0),
  (25, .getfield 9, 3, 0, 6, 0, 39),
  (28, .iload_n 2, 1, 0, 2, 0, 0),
  (29, .iload 4, 2, 0, 4, 0, 0),
  (31, .iadd, 1, 0, 0, 0, 0),
  (32, .baload, 1, 0, 0, 0, 0),
  (33, .aload_n 1, 1, 0, 1, 0, 0),
  (34, .iload 4, 2, 0, 4, 0, 0),
  (36, .invokevirtual 182, 3, 0, 1, 0, 0),
  (39, .if_icmp .eq 5, 3, 0, 44, 0, 0),
  (42, .iconst 0, 1, 0, 0, 0, 0),
  (43, .ireturn, 1, 0, 0, 0, 0),
  (44, .iinc 4 1, 3, 1, 4, 0, 0),
  (47, .goto (-32), 3, 0, 15, 0, 0),
  (50, .iconst 1, 1, 1, 0, 0, 0),
  (51, .ireturn, 1, 0, 0, 0, 0)],
  [(0, 177, 1, 0, 0, pt_J0_length_8abf5), (0, 182, 2, 0, 0, pt_J0_charAt_5068e)], [])
set_option maxRecDepth 100000 in
theorem vd_X6_isWord : md_X6_isWord.cd.all (cb_vE md_X6_isWord) = true := by decide +kernel
theorem wd_X6_isWord : cb_wd yX6_isWord md_X6_isWord := ⟨cb_tw (i := 646) (by decide +kernel), cb_tw (i := 2) (by decide +kernel), by decide, by decide⟩
theorem cs_X6_isWord : ∀ X, cb_Bs md_X6_isWord X → ∀ g ∈ md_X6_isWord.ga, cb_CS cb_tb md_X6_isWord X g := fun X B => List.forall_mem_cons.mpr ⟨cb_csT B ok_J0_length_8abf5 wd_J0_length_8abf5 (cb_tw (i := 647) (by decide +kernel)) (cb_tw (i := 648) (by decide +kernel)) (cb_tw (i := 649) (by decide +kernel)) rfl rs_J0_length_8abf5 ⟨by decide, by decide⟩ (by decide +kernel), List.forall_mem_cons.mpr ⟨cb_csT B ok_J0_charAt_5068e wd_J0_charAt_5068e (cb_tw (i := 657) (by decide +kernel)) (cb_tw (i := 658) (by decide +kernel)) (cb_tw (i := 659) (by decide +kernel)) rfl rs_J0_charAt_5068e ⟨by decide, by decide⟩ (by decide +kernel), fun _ h => nomatch h⟩⟩
theorem ok_X6_isWord : cb_MOK cb_tb yX6_isWord md_X6_isWord pt_X6_isWord := by
  refine cb_okm ⟨plainFor_of_name (by decide), rfl⟩ (by decide) cs_X6_isWord (by decide) (fun X n0 f i r M hr ha h => ?_)
  have h0 := cb_a1 (T := 1) rfl ha
  subst h0
  match r, hr, h with
  | [.inr (.inr (some (t, j))), .inl x, .inl y], hr, h =>
    obtain ⟨rfl, hj, len, at_, a, b, ⟨hE, hx, hy, hab, hbl⟩, h⟩ := h
    obtain ⟨e1, e2, e3, e4, e5⟩ := id hE
    have h5 := tx_len j hj
    have hyx : y - x = nI (b - a) := by rw [hx, hy]; exact (nI_sub hab).symm
    refine cb_run cb_tb_ok vd_X6_isWord (cuts := [15]) 90 ?_
    refine ⟨rfl, hj, rfl, rfl, And.intro (fun q => ?_) (fun q => ?_)⟩
    · have q : y - x = nI (cb_slen.getD j 0) := q
      rw [hyx] at q
      have q : b - a = cb_slen.getD j 0 := (nI_eq (by omega) (by omega)).mp q
      have h : X.K (.inl (some (cb_i (cb_z (decide (b - a = cb_slen.getD j 0) && (List.range (cb_slen.getD j 0)).all fun k => decide (cb_gI M 2 0 (a + k) = tx_ch j k)))))) (cb_aS n0, f) M := h
      rw [decide_eq_true q, Bool.true_and] at h
      have loop : ∀ k, k ≤ cb_slen.getD j 0 → ∀ z : Int32, z = nI k → ((List.range k).all fun k => decide (cb_gI M 2 0 (a + k) = tx_ch j k)) = true → cb_Gd cb_tb md_X6_isWord X 15 [some (cb_r 1 0), some (cb_r 91 j), some (cb_i (x)), some (cb_i (y)), some (cb_i (z))] [] (cb_aS n0, f) M 0 0 := by
        refine cb_up (fun k => ∀ z : Int32, z = nI k → ((List.range k).all fun k => decide (cb_gI M 2 0 (a + k) = tx_ch j k)) = true → cb_Gd cb_tb md_X6_isWord X 15 [some (cb_r 1 0), some (cb_r 91 j), some (cb_i (x)), some (cb_i (y)), some (cb_i (z))] [] (cb_aS n0, f) M 0 0) ?_ ?_
        · intro z hz hk
          refine cb_run cb_tb_ok vd_X6_isWord (cuts := [15]) 90 ?_
          refine ⟨rfl, hj, rfl, rfl, cb_lout hz rfl (And.intro cb_rt1 ?_)⟩
          rw [hk] at h
          exact h
        · intro k hk ih z hz hall
          have exz : x + z = nI (a + k) := by rw [hx, hz, nI_add]
          have hxi : vp_in (x + z) 600 := by rw [exz]; exact vp_in_nI (by omega) (by decide)
          have hxc : (x + z).toNatClampNeg = a + k := by rw [exz]; exact nI_clamp (by omega)
          refine cb_run cb_tb_ok vd_X6_isWord (cuts := [15]) 90 ?_
          refine ⟨rfl, hj, rfl, rfl, cb_lin hz rfl hk (by omega) (Exists.intro (some 0) (And.intro e1 (And.intro hxi ⟨rfl, hj, rfl, rfl, k, hk, hz, And.intro (fun q1 => ?_) (fun q1 => ?_)⟩)))⟩
          · have q1 : cb_gI M 2 0 (x + z).toNatClampNeg = tx_ch j k := q1
            rw [hxc] at q1
            refine ih _ (by rw [hz, nI_1]) ?_
            rw [cb_all_succ, hall, decide_eq_true q1]
            rfl
          · have q1 : ¬ cb_gI M 2 0 (x + z).toNatClampNeg = tx_ch j k := q1
            rw [hxc] at q1
            refine And.intro cb_rt0 ?_
            rw [cb_all_miss hk (show decide (cb_gI M 2 0 (a + k) = tx_ch j k) = false from decide_eq_false q1)] at h
            exact h
      exact loop 0 (Nat.zero_le _) _ rfl rfl
    · have q : ¬ y - x = nI (cb_slen.getD j 0) := q
      rw [hyx] at q
      have q : ¬ b - a = cb_slen.getD j 0 := fun w => q (by rw [w])
      have h : X.K (.inl (some (cb_i (cb_z (decide (b - a = cb_slen.getD j 0) && (List.range (cb_slen.getD j 0)).all fun k => decide (cb_gI M 2 0 (a + k) = tx_ch j k)))))) (cb_aS n0, f) M := h
      rw [decide_eq_false q, Bool.false_and] at h
      exact And.intro cb_rt0 h
def sp_X6_wordBetween : cb_Sp := fun _ r M K => match r with
  | [.inl x, .inl y] => ∃ len at_ a b, (rd_E M len at_ ∧ x = nI a ∧ y = nI b ∧ a ≤ b ∧ b ≤ len) ∧ K (some (cb_i (rd_wv (rd_w (cb_gI M 2 0) a b)))) M
  | _ => False
theorem rd_lt_succ {p : Nat → Bool} {j : Nat} (h : ∀ i, i < j → p i = false) (q : p j = false) : ∀ i, i < j + 1 → p i = false := fun i hi => by
  by_cases e : i = j
  · rw [e]; exact q
  · exact h i (by omega)
def pt_X6_wordBetween : cb_PT := cb_m 1 2 sp_X6_wordBetween
theorem rc_X6_wordBetween : cb_rc cb_tb RX6 pt_X6_wordBetween := cb_m_rc rfl rfl
def md_X6_wordBetween : cb_D := (RX6, cX6_wordBetween, 3, (some .int), (0, 0, 5, 109), [
  (0, .aload_n 0, 1, 0, 0, 0, 0),
  (1, .ldc 162, 2, 0, 0, 1, 0),
  (3, .iload_n 1, 1, 0, 1, 0, 0),
  (4, .iload_n 2, 1, 0, 2, 0, 0),
  (5, .invokevirtual 163, 3, 0, 0, 0, 0),
  (8, .ifCond .eq 5, 3, 0, 13, 0, 0),
  (11, .iconst 0, 1, 0, 0, 0, 0),
  (12, .ireturn, 1, 0, 0, 0, 0),
  (13, .aload_n 0, 1, 0, 0, 0, 0),
  (14, .ldc 167, 2, 0, 1, 1, 0),
  (16, .iload_n 1, 1, 0, 1, 0, 0),
  (17, .iload_n 2, 1, 0, 2, 0, 0),
  (18, .invokevirtual 163, 3, 0, 0, 0, 0),
  (21, .ifCond .eq 5, 3, 0, 26, 0, 0),
  (24, .iconst 1, 1, 1, 0, 0, 0),
  (25, .ireturn, 1, 0, 0, 0, 0),
  (26, .aload_n 0, 1, 0, 0, 0, 0),
  (27, .ldc 169, 2, 0, 2, 1, 0),
  (29, .iload_n 1, 1, 0, 1, 0, 0),
  (30, .iload_n 2, 1, 0, 2, 0, 0),
  (31, .invokevirtual 163, 3, 0, 0, 0, 0),
  (34, .ifCond .eq 5, 3, 0, 39, 0, 0),
  (37, .iconst 2, 1, 2, 0, 0, 0),
  (38, .ireturn, 1, 0, 0, 0, 0),
  (39, .aload_n 0, 1, 0, 0, 0, 0),
  (40, .ldc 171, 2, 0, 3, 1, 0),
  (42, .iload_n 1, 1, 0, 1, 0, 0),
  (43, .iload_n 2, 1, 0, 2, 0, 0),
  (44, .invokevirtual 163, 3, 0, 0, 0, 0),
  (47, .ifCond .eq 5, 3, 0, 52, 0, 0),
  (50, .iconst 3, 1, 3, 0, 0, 0),
  (51, .ireturn, 1, 0, 0, 0, 0),
  (52, .aload_n 0, 1, 0, 0, 0, 0),
  (53, .ldc 172, 2, 0, 4, 1, 0),
  (55, .iload_n 1, 1, 0, 1, 0, 0),
  (56, .iload_n 2, 1, 0, 2, 0, 0),
  (57, .invokevirtual 163, 3, 0, 0, 0, 0),
  (60, .ifCond .eq 5, 3, 0, 65, 0, 0),
  (63, .iconst 4, 1, 4, 0, 0, 0),
  (64, .ireturn, 1, 0, 0, 0, 0),
  (65, .aload_n 0, 1, 0, 0, 0, 0),
  (66, .ldc 173, 2, 0, 5, 1, 0),
  (68, .iload_n 1, 1, 0, 1, 0, 0),
  (69, .iload_n 2, 1, 0, 2, 0, 0),
  (70, .invokevirtual 163, 3, 0, 0, 0, 0),
  (73, .ifCond .eq 5, 3, 0, 78, 0, 0),
  (76, .iconst 5, 1, 5, 0, 0, 0),
  (77, .ireturn, 1, 0, 0, 0, 0),
  (78, .aload_n 0, 1, 0, 0, 0, 0),
  (79, .ldc 174, 2, 0, 6, 1, 0),
  (81, .iload_n 1, 1, 0, 1, 0, 0),
  (82, .iload_n 2, 1, 0, 2, 0, 0),
  (83, .invokevirtual 163, 3, 0, 0, 0, 0),
  (86, .ifCond .eq 6, 3, 0, 92, 0, 0),
  (89, .bipush 6, 2, 6, 0, 0, 0),
  (91, .ireturn, 1, 0, 0, 0, 0),
  (92, .aload_n 0, 1, 0, 0, 0, 0),
  (93, .ldc 175, 2, 0, 7, 1, 0),
  (95, .iload_n 1, 1, 0, 1, 0, 0),
  (96, .iload_n 2, 1, 0, 2, 0, 0),
  (97, .invokevirtual 163, 3, 0, 0, 0, 0),
  (100, .ifCond .eq 8, 3, 0, 108, 0, 0),
  (103, .bipush 7, 2, 7, 0, 0, 0),
  (105, .goto 4, 3, 0, 109, 0, 0),
  (108, .iconst (-1), 1, (-1), 0, 0, 0),
  (109, .ireturn, 1, 0, 0, 0, 0)],
  [(0, 163, 4, 0, 0, pt_X6_isWord)], [])
set_option maxRecDepth 100000 in
theorem vd_X6_wordBetween : md_X6_wordBetween.cd.all (cb_vE md_X6_wordBetween) = true := by decide +kernel
theorem wd_X6_wordBetween : cb_wd yX6_wordBetween md_X6_wordBetween := ⟨cb_tw (i := 641) (by decide +kernel), cb_tw (i := 2) (by decide +kernel), by decide, by decide⟩
theorem cs_X6_wordBetween : ∀ X, cb_Bs md_X6_wordBetween X → ∀ g ∈ md_X6_wordBetween.ga, cb_CS cb_tb md_X6_wordBetween X g := fun X B => List.forall_mem_cons.mpr ⟨cb_csV B ok_X6_isWord wd_X6_isWord (cb_tw (i := 643) (by decide +kernel)) (cb_tw (i := 645) (by decide +kernel)) (cb_tp (i := 8) (by decide +kernel)) rc_X6_isWord ⟨by decide, by decide⟩ (by decide +kernel), fun _ h => nomatch h⟩
theorem ok_X6_wordBetween : cb_MOK cb_tb yX6_wordBetween md_X6_wordBetween pt_X6_wordBetween := by
  refine cb_okm ⟨plainFor_of_name (by decide), rfl⟩ (by decide) cs_X6_wordBetween (by decide) (fun X n0 f i r M hr ha h => ?_)
  have h0 := cb_a1 (T := 1) rfl ha
  subst h0
  match r, hr, h with
  | [.inl x, .inl y], hr, h =>
    obtain ⟨len, at_, a, b, hE, h⟩ := h
    have fin : ∀ j, j < 8 → rd_is (cb_gI M 2 0) a b j = true → (∀ i, i < j → rd_is (cb_gI M 2 0) a b i = false) → X.K (.inl (some (cb_i (nI j)))) (cb_aS n0, f) M := by
      intro j hj h1 h2
      have e : rd_w (cb_gI M 2 0) a b = some j := cb_find_some hj h1 h2
      rw [e] at h
      exact h
    have no : (∀ i, i < 8 → rd_is (cb_gI M 2 0) a b i = false) → X.K (.inl (some (cb_i (-1)))) (cb_aS n0, f) M := by
      intro h2
      have e : rd_w (cb_gI M 2 0) a b = none := cb_find_none h2
      rw [e] at h
      exact h
    refine cb_run cb_tb_ok vd_X6_wordBetween (cuts := []) 120 ?_
    refine And.intro (cb_on rfl) ⟨rfl, by decide, len, at_, a, b, hE, cb_ifz (fun q0 => ?_) (fun q => And.intro trivial (fin 0 (by decide) q (fun i hi => absurd hi (by omega))))⟩
    have k0 := rd_lt_succ (j := 0) (fun i hi => absurd hi (by omega)) q0
    refine And.intro (cb_on rfl) ⟨rfl, by decide, len, at_, a, b, hE, cb_ifz (fun q1 => ?_) (fun q => And.intro trivial (fin 1 (by decide) q k0))⟩
    have k1 := rd_lt_succ k0 q1
    refine And.intro (cb_on rfl) ⟨rfl, by decide, len, at_, a, b, hE, cb_ifz (fun q2 => ?_) (fun q => And.intro trivial (fin 2 (by decide) q k1))⟩
    have k2 := rd_lt_succ k1 q2
    refine And.intro (cb_on rfl) ⟨rfl, by decide, len, at_, a, b, hE, cb_ifz (fun q3 => ?_) (fun q => And.intro trivial (fin 3 (by decide) q k2))⟩
    have k3 := rd_lt_succ k2 q3
    refine And.intro (cb_on rfl) ⟨rfl, by decide, len, at_, a, b, hE, cb_ifz (fun q4 => ?_) (fun q => And.intro trivial (fin 4 (by decide) q k3))⟩
    have k4 := rd_lt_succ k3 q4
    refine And.intro (cb_on rfl) ⟨rfl, by decide, len, at_, a, b, hE, cb_ifz (fun q5 => ?_) (fun q => And.intro trivial (fin 5 (by decide) q k4))⟩
    have k5 := rd_lt_succ k4 q5
    refine And.intro (cb_on rfl) ⟨rfl, by decide, len, at_, a, b, hE, cb_ifz (fun q6 => ?_) (fun q => And.intro trivial (fin 6 (by decide) q k5))⟩
    have k6 := rd_lt_succ k5 q6
    refine And.intro (cb_on rfl) ⟨rfl, by decide, len, at_, a, b, hE, cb_ifz (fun q7 => And.intro trivial (no (rd_lt_succ k6 q7))) (fun q => And.intro trivial (fin 7 (by decide) q k6))⟩
