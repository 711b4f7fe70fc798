/-! ===== the reader: its clauses ===== -/
theorem cb_gs_ne {M : cb_M} {t i j : Nat} {x : Int32} {t' i' j' : Nat} (h : ¬ (t' = t ∧ i' = i ∧ j' = j)) : cb_gI (cb_sI M t i j x) t' i' j' = cb_gI M t' i' j' := by rw [cb_gI_sI, if_neg h]
theorem cb_gs_eq (M : cb_M) (t i j : Nat) (x : Int32) : cb_gI (cb_sI M t i j x) t i j = x := by rw [cb_gI_sI, if_pos ⟨rfl, rfl, rfl⟩]
theorem rd_up_eq (f : wm_F) (i : Nat) (v : Int32) : rd_up f i v i = v := if_pos rfl
theorem rd_up_ne {f : wm_F} {i a : Nat} {v : Int32} (h : ¬ a = i) : rd_up f i v a = f a := if_neg h
/-- one place more, or one changed -/
theorem rd_gs {M : cb_M} {t P : Nat} {f : wm_F} {k : Nat} {v : Int32} (a : Nat) (h : ¬ a = k → cb_gI M t P a = f a) : cb_gI (cb_sI M t P k v) t P a = rd_up f k v a := by
  by_cases e : a = k
  · subst e
    rw [cb_gs_eq, rd_up_eq]
  · rw [cb_gs_ne (fun w => e w.2.2), rd_up_ne e]
    exact h e
def sp_X6_readBoard : cb_Sp := sp_rd rd_c0 fun A => A.nb < 4
def pt_X6_readBoard : cb_PT := cb_m 1 1 sp_X6_readBoard
theorem rc_X6_readBoard : cb_rc cb_tb RX6 pt_X6_readBoard := cb_m_rc rfl rfl
def md_X6_readBoard : cb_D := (RX6, cX6_readBoard, 3, none, (0, 0, 2, 46), [
  (0, .aload_n 0, 1, 0, 0, 0, 0),
  (1, .iconst 1, 1, 1, 0, 0, 0),
  (2, .bipush 9, 2, 9, 0, 0, 0),
  (4, .invokevirtual 101, 3, 0, 0, 0, 0),
  (7, .istore_n 2, 1, 0, 2, 0, 0),
  (8, .aload_n 0, 1, 0, 0, 0, 0),
  (9, .invokevirtual 104, 3, 0, 1, 0, 0),
  (12, .ifCond .eq 23, 3, 0, 35, 0, 0),
  (15, .aload_n 1, 1, 0, 1, 0, 0),
  (16, .getfield 108, 3, 0, 4, 5, 86),
  (19, .aload_n 1, 1, 0, 1, 0, 0),
  (20, .getfield 67, 3, 0, 4, 0, 67),
  (23, .iload_n 2, 1, 0, 2, 0, 0),
  (24, .iastore, 1, 0, 0, 0, 0),
  (25, .aload_n 1, 1, 0, 1, 0, 0),
  (26, .dup, 1, 0, 0, 0, 0),
  (27, .getfield 67, 3, 0, 4, 0, 67),
  (30, .iconst 1, 1, 1, 0, 0, 0),
  (31, .iadd, 1, 0, 0, 0, 0),
  (32, .putfield 67, 3, 0, 4, 0, 67),
  (35, .return_, 1, 0, 0, 0, 0)],
  [(0, 101, 3, 0, 0, pt_X6_readNumber), (0, 104, 1, 0, 0, pt_X6_endsClause)], [])
set_option maxRecDepth 100000 in
theorem vd_X6_readBoard : md_X6_readBoard.cd.all (cb_vE md_X6_readBoard) = true := by decide +kernel
theorem wd_X6_readBoard : cb_wd yX6_readBoard md_X6_readBoard := ⟨cb_tw (i := 716) (by decide +kernel), cb_tw (i := 2) (by decide +kernel), by decide, by decide⟩
theorem cs_X6_readBoard : ∀ X, cb_Bs md_X6_readBoard X → ∀ g ∈ md_X6_readBoard.ga, cb_CS cb_tb md_X6_readBoard X g := fun X B => List.forall_mem_cons.mpr ⟨cb_csV B ok_X6_readNumber wd_X6_readNumber (cb_tw (i := 717) (by decide +kernel)) (cb_tw (i := 719) (by decide +kernel)) (cb_tp (i := 12) (by decide +kernel)) rc_X6_readNumber ⟨by decide, by decide⟩ (by decide +kernel), List.forall_mem_cons.mpr ⟨cb_csV B ok_X6_endsClause wd_X6_endsClause (cb_tw (i := 724) (by decide +kernel)) (cb_tw (i := 726) (by decide +kernel)) (cb_tp (i := 13) (by decide +kernel)) rc_X6_endsClause ⟨by decide, by decide⟩ (by decide +kernel), fun _ h => nomatch h⟩⟩
theorem ok_X6_readBoard : cb_MOK cb_tb yX6_readBoard md_X6_readBoard pt_X6_readBoard := by
  refine cb_okm ⟨plainFor_of_name (by decide), rfl⟩ (by decide) cs_X6_readBoard (by decide) (fun X n0 f i r M hr ha h => ?_)
  have h0 := cb_a1 (T := 1) rfl ha
  subst h0
  match r, hr, h with
  | [.inr (.inr (some (t, P)))], hr, h =>
    obtain ⟨rfl, hP, len, at_, A, ⟨hE, h0, hV, hC, hpre⟩, h⟩ := h
    have haP := cb_aPP (n := n0) (f := f) hP (t := 3) rfl
    refine cb_run cb_tb_ok vd_X6_readBoard (cuts := []) 90 ?_
    refine And.intro (cb_on rfl) (rd_call hE h0 rfl (fun M1 v k b hF1 en1 hk g4 g5 ex => ?_) (fun M1 w1 e1 b1 hF1 en1 hE1 g3_1 g4_1 g5_1 ht1 => ?_))
    · have hd : ¬ cb_gI M1 1 0 4 = 0 := by rw [g4]; exact hk
      have hfin := (h M1 (rd_fr_1 hF1) (by unfold rd_c0; rw [rd_b_l en1]; exact ⟨hk, g4, g5, ex⟩))
      exact And.intro (cb_on rfl) (rd_de ex hd (And.intro (fun _ => And.intro rfl hfin) (fun q => absurd rfl q)))
    refine And.intro (cb_on rfl) (rd_ecall hE1 g4_1 ht1 (fun M2 k b hF2 en2 hk g4 g5 ex => And.intro (fun _ => And.intro rfl (h M2 (rd_fr_1 (hF1.trans hF2)) (by unfold rd_c0; rw [rd_b_r en1, rd_b_l en2]; exact ⟨hk, g4, g5, ex⟩))) (fun q => absurd rfl q)) (fun M2 e2 hF2 en2 hE2 g4_2 g5_2 => And.intro (fun q => absurd q (show ¬ (1 : Int32) = 0 by decide)) (fun _ => ?_)))
    have hGs := (hF1.trans hF2)
    have hVs := rd_V_1 hGs hV
    have g5s : cb_gI M2 1 0 5 = cb_gI M 1 0 5 := (g5_2.trans g5_1)
    have hres : ∀ M9, rd_fr P M M9 → rd_V M9 P ((A.nb + 1, A.n, A.h), A.2.1, rd_up A.th A.nb w1, A.2.2.2) → cb_gI M9 1 0 1 = cb_gI M2 1 0 1 ∧ cb_gI M9 1 0 2 = cb_gI M2 1 0 2 ∧ cb_gI M9 1 0 4 = cb_gI M2 1 0 4 ∧ cb_gI M9 1 0 5 = cb_gI M2 1 0 5 → X.K (.inl none) (cb_aS n0, f) M9 := fun M9 hf hv he => h M9 hf (by unfold rd_c0; rw [rd_b_r en1, rd_b_r en2]; exact ⟨hv, ⟨(by unfold cb_gR; rw [hf.2]; exact hE.1), he.1.trans hE2.2.1, hE2.2.2.1, he.2.1.trans hE2.2.2.2.1, hE2.2.2.2.2⟩, he.2.2.1.trans g4_2, he.2.2.2.trans g5s⟩)
    have hx8 : vp_in (cb_gI M2 3 P 0) 4 := by rw [hVs.1.1]; exact vp_in_nI hpre (by decide)
    have hxc : (cb_gI M2 3 P 0).toNatClampNeg = A.nb := by rw [hVs.1.1]; exact nI_clamp (by omega)
    refine cb_av.of haP (cb_av.of haP (cb_av.of (cb_aPP hP rfl) (And.intro hx8 (cb_av.of haP (cb_av.of haP (And.intro rfl ?_))))))
    have em : cb_sI (cb_sI M2 4 P (cb_gI M2 3 P 0).toNatClampNeg w1) 3 P 0 (cb_gI M2 3 P 0 + 1) = cb_sI (cb_sI M2 4 P A.nb w1) 3 P 0 (nI (A.nb + 1)) := by rw [hxc, hVs.1.1, nI_1]
    refine cb_eqN (hres (cb_sI (cb_sI M2 4 P A.nb w1) 3 P 0 (nI (A.nb + 1))) (((rd_fr_1 hGs).set w1 (by decide)).set (nI (A.nb + 1)) (by decide)) ⟨⟨cb_gs_eq _ _ _ _ _, (cb_gs_ne (by omega)).trans hVs.1.2.1, (cb_gs_ne (by omega)).trans hVs.1.2.2.1, (cb_gs_ne (by omega)).trans hVs.1.2.2.2.1, (cb_gs_ne (by omega)).trans hVs.1.2.2.2.2⟩, fun b hb => ?_, hVs.2.2⟩ ⟨rfl, rfl, rfl, rfl⟩) em
    have hb : b < A.nb + 1 := hb
    exact (cb_gs_ne (by omega)).trans (rd_gs b (fun q => hVs.2.1 b (by omega)))
def sp_X6_readClock : cb_Sp := sp_rd rd_c1 fun A => A.n < 8
def pt_X6_readClock : cb_PT := cb_m 1 1 sp_X6_readClock
theorem rc_X6_readClock : cb_rc cb_tb RX6 pt_X6_readClock := cb_m_rc rfl rfl
def md_X6_readClock : cb_D := (RX6, cX6_readClock, 9, none, (0, 0, 3, 69), [
  (0, .aload_n 0, 1, 0, 0, 0, 0),
  (1, .iconst 0, 1, 0, 0, 0, 0),
  (2, .aload_n 1, 1, 0, 1, 0, 0),
  (3, .getfield 67, 3, 0, 4, 0, 67),
  (6, .iconst 1, 1, 1, 0, 0, 0),
  (7, .isub, 1, 0, 0, 0, 0),
  (8, .invokevirtual 101, 3, 0, 0, 0, 0),
  (11, .istore_n 2, 1, 0, 2, 0, 0),
  (12, .aload_n 0, 1, 0, 0, 0, 0),
  (13, .aload_n 1, 1, 0, 1, 0, 0),
  (14, .iload_n 2, 1, 0, 2, 0, 0),
  (15, .invokevirtual 112, 3, 0, 1, 0, 0),
  (18, .istore_n 3, 1, 0, 3, 0, 0),
  (19, .aload_n 0, 1, 0, 0, 0, 0),
  (20, .iconst 0, 1, 0, 0, 0, 0),
  (21, .sipush 200, 3, 200, 0, 0, 0),
  (24, .invokevirtual 101, 3, 0, 0, 0, 0),
  (27, .bipush 100, 2, 100, 0, 0, 0),
  (29, .isub, 1, 0, 0, 0, 0),
  (30, .istore 4, 2, 0, 4, 0, 0),
  (32, .aload_n 0, 1, 0, 0, 0, 0),
  (33, .iconst 1, 1, 1, 0, 0, 0),
  (34, .bipush 20, 2, 20, 0, 0, 0),
  (36, .invokevirtual 101, 3, 0, 0, 0, 0),
  (39, .istore 5, 2, 0, 5, 0, 0),
  (41, .aload_n 0, 1, 0, 0, 0, 0),
  (42, .iconst 0, 1, 0, 0, 0, 0),
  (43, .iconst 4, 1, 4, 0, 0, 0),
  (44, .invokevirtual 101, 3, 0, 0, 0, 0),
  (47, .istore 6, 2, 0, 6, 0, 0),
  (49, .aload_n 0, 1, 0, 0, 0, 0),
  (50, .iconst 0, 1, 0, 0, 0, 0),
  (51, .sipush 999, 3, 999, 0, 0, 0),
  (54, .invokevirtual 101, 3, 0, 0, 0, 0),
  (57, .istore 7, 2, 0, 7, 0, 0),
  (59, .aload_n 0, 1, 0, 0, 0, 0),
  (60, .invokevirtual 104, 3, 0, 2, 0, 0),
  (63, .ifCond .eq 71, 3, 0, 134, 0, 0),
  (66, .aload_n 1, 1, 0, 1, 0, 0),
  (67, .getfield 70, 3, 0, 4, 1, 73),
  (70, .istore 8, 2, 0, 8, 0, 0),
  (72, .aload_n 1, 1, 0, 1, 0, 0),
  (73, .getfield 116, 3, 0, 4, 6, 90),
  (76, .iload 8, 2, 0, 8, 0, 0),
  (78, .iload_n 2, 1, 0, 2, 0, 0),
  (79, .iastore, 1, 0, 0, 0, 0),
  (80, .aload_n 1, 1, 0, 1, 0, 0),
  (81, .getfield 119, 3, 0, 4, 7, 93),
  (84, .iload 8, 2, 0, 8, 0, 0),
  (86, .iload_n 3, 1, 0, 3, 0, 0),
  (87, .iastore, 1, 0, 0, 0, 0),
  (88, .aload_n 1, 1, 0, 1, 0, 0),
  (89, .getfield 122, 3, 0, 4, 8, 98),
  (92, .iload 8, 2, 0, 8, 0, 0),
  (94, .iload 4, 2, 0, 4, 0, 0),
  (96, .iastore, 1, 0, 0, 0, 0),
  (97, .aload_n 1, 1, 0, 1, 0, 0),
  (98, .getfield 125, 3, 0, 4, 9, 103),
  (101, .iload 8, 2, 0, 8, 0, 0),
  (103, .iload 5, 2, 0, 5, 0, 0),
  (105, .iastore, 1, 0, 0, 0, 0),
  (106, .aload_n 1, 1, 0, 1, 0, 0),
  (107, .getfield 128, 3, 0, 4, 10, 108),
  (110, .iload 8, 2, 0, 8, 0, 0),
  (112, .iload 6, 2, 0, 6, 0, 0),
  (114, .iastore, 1, 0, 0, 0, 0),
  (115, .aload_n 1, 1, 0, 1, 0, 0),
  (116, .getfield 131, 3, 0, 4, 11, 112),
  (119, .iload 8, 2, 0, 8, 0, 0),
  (121, .iload 7, 2, 0, 7, 0, 0),
  (123, .iastore, 1, 0, 0, 0, 0),
  (124, .aload_n 1, 1, 0, 1, 0, 0),
  (125, .dup, 1, 0, 0, 0, 0),
  (126, .getfield 70, 3, 0, 4, 1, 73),
  (129, .iconst 1, 1, 1, 0, 0, 0),
  (130, .iadd, 1, 0, 0, 0, 0),
  (131, .putfield 70, 3, 0, 4, 1, 73),
  (134, .return_, 1, 0, 0, 0, 0)],
  [(0, 101, 3, 0, 0, pt_X6_readNumber), (0, 112, 3, 0, 0, pt_X6_readPlace), (0, 104, 1, 0, 0, pt_X6_endsClause)], [])
set_option maxRecDepth 100000 in
theorem vd_X6_readClock : md_X6_readClock.cd.all (cb_vE md_X6_readClock) = true := by decide +kernel
theorem wd_X6_readClock : cb_wd yX6_readClock md_X6_readClock := ⟨cb_tw (i := 731) (by decide +kernel), cb_tw (i := 2) (by decide +kernel), by decide, by decide⟩
theorem cs_X6_readClock : ∀ X, cb_Bs md_X6_readClock X → ∀ g ∈ md_X6_readClock.ga, cb_CS cb_tb md_X6_readClock X g := fun X B => List.forall_mem_cons.mpr ⟨cb_csV B ok_X6_readNumber wd_X6_readNumber (cb_tw (i := 717) (by decide +kernel)) (cb_tw (i := 719) (by decide +kernel)) (cb_tp (i := 12) (by decide +kernel)) rc_X6_readNumber ⟨by decide, by decide⟩ (by decide +kernel), List.forall_mem_cons.mpr ⟨cb_csV B ok_X6_readPlace wd_X6_readPlace (cb_tw (i := 732) (by decide +kernel)) (cb_tw (i := 734) (by decide +kernel)) (cb_tp (i := 15) (by decide +kernel)) rc_X6_readPlace ⟨by decide, by decide⟩ (by decide +kernel), List.forall_mem_cons.mpr ⟨cb_csV B ok_X6_endsClause wd_X6_endsClause (cb_tw (i := 724) (by decide +kernel)) (cb_tw (i := 726) (by decide +kernel)) (cb_tp (i := 13) (by decide +kernel)) rc_X6_endsClause ⟨by decide, by decide⟩ (by decide +kernel), fun _ h => nomatch h⟩⟩⟩
theorem ok_X6_readClock : cb_MOK cb_tb yX6_readClock md_X6_readClock pt_X6_readClock := by
  refine cb_okm ⟨plainFor_of_name (by decide), rfl⟩ (by decide) cs_X6_readClock (by decide) (fun X n0 f i r M hr ha h => ?_)
  have h0 := cb_a1 (T := 1) rfl ha
  subst h0
  match r, hr, h with
  | [.inr (.inr (some (t, P)))], hr, h =>
    obtain ⟨rfl, hP, len, at_, A, ⟨hE, h0, hV, hC, hpre⟩, h⟩ := h
    have haP := cb_aPP (n := n0) (f := f) hP (t := 3) rfl
    refine cb_run cb_tb_ok vd_X6_readClock (cuts := []) 90 ?_
    refine cb_av.of haP ?_
    have hhi1 : cb_gI M 3 P 0 - 1 = nI A.nb - 1 := by rw [hV.1.1]
    refine And.intro (cb_on rfl) ?_
    show sp_X6_readNumber 0 [.inl 0, .inl (cb_gI M 3 P 0 - 1)] M _
    rw [hhi1]
    refine rd_call hE h0 rfl (fun M1 v k b hF1 en1 hk g4 g5 ex => ?_) (fun M1 w1 e1 b1 hF1 en1 hE1 g3_1 g4_1 g5_1 ht1 => ?_)
    · have hd : ¬ cb_gI M1 1 0 4 = 0 := by rw [g4]; exact hk
      have hfin := (h M1 (rd_fr_1 hF1) (by unfold rd_c1; rw [rd_b_l en1]; exact ⟨hk, g4, g5, ex⟩))
      exact And.intro (cb_on rfl) (rd_dp hP ex (rd_V_1 hF1 hV) hC hd (And.intro (cb_on rfl) (rd_dn ex hd (And.intro (cb_on rfl) (rd_dn ex hd (And.intro (cb_on rfl) (rd_dn ex hd (And.intro (cb_on rfl) (rd_dn ex hd (And.intro (cb_on rfl) (rd_de ex hd (And.intro (fun _ => And.intro rfl hfin) (fun q => absurd rfl q)))))))))))))
    refine And.intro (cb_on rfl) (rd_pcall hP hE1 (rd_V_1 hF1 hV) hC g4_1 ht1 (fun M2 v k b hF2 en2 hk g4 g5 ex => ?_) (fun M2 w2 e2 b2 hF2 en2 hE2 g3_2 g4_2 g5_2 ht2 => ?_))
    · have hd : ¬ cb_gI M2 1 0 4 = 0 := by rw [g4]; exact hk
      have hfin := (h M2 (rd_fr_1 (hF1.trans hF2)) (by unfold rd_c1; rw [rd_b_r en1, rd_b_l en2]; exact ⟨hk, g4, g5, ex⟩))
      exact And.intro (cb_on rfl) (rd_dn ex hd (And.intro (cb_on rfl) (rd_dn ex hd (And.intro (cb_on rfl) (rd_dn ex hd (And.intro (cb_on rfl) (rd_dn ex hd (And.intro (cb_on rfl) (rd_de ex hd (And.intro (fun _ => And.intro rfl hfin) (fun q => absurd rfl q)))))))))))
    refine And.intro (cb_on rfl) (rd_call hE2 g4_2 ht2 (fun M3 v k b hF3 en3 hk g4 g5 ex => ?_) (fun M3 w3 e3 b3 hF3 en3 hE3 g3_3 g4_3 g5_3 ht3 => ?_))
    · have hd : ¬ cb_gI M3 1 0 4 = 0 := by rw [g4]; exact hk
      have hfin := (h M3 (rd_fr_1 ((hF1.trans hF2).trans hF3)) (by unfold rd_c1; rw [rd_b_r en1, rd_b_r en2, rd_b_l en3]; exact ⟨hk, g4, g5, ex⟩))
      exact And.intro (cb_on rfl) (rd_dn ex hd (And.intro (cb_on rfl) (rd_dn ex hd (And.intro (cb_on rfl) (rd_dn ex hd (And.intro (cb_on rfl) (rd_de ex hd (And.intro (fun _ => And.intro rfl hfin) (fun q => absurd rfl q)))))))))
    refine And.intro (cb_on rfl) (rd_call hE3 g4_3 ht3 (fun M4 v k b hF4 en4 hk g4 g5 ex => ?_) (fun M4 w4 e4 b4 hF4 en4 hE4 g3_4 g4_4 g5_4 ht4 => ?_))
    · have hd : ¬ cb_gI M4 1 0 4 = 0 := by rw [g4]; exact hk
      have hfin := (h M4 (rd_fr_1 (((hF1.trans hF2).trans hF3).trans hF4)) (by unfold rd_c1; rw [rd_b_r en1, rd_b_r en2, rd_b_r en3, rd_b_l en4]; exact ⟨hk, g4, g5, ex⟩))
      exact And.intro (cb_on rfl) (rd_dn ex hd (And.intro (cb_on rfl) (rd_dn ex hd (And.intro (cb_on rfl) (rd_de ex hd (And.intro (fun _ => And.intro rfl hfin) (fun q => absurd rfl q)))))))
    refine And.intro (cb_on rfl) (rd_call hE4 g4_4 ht4 (fun M5 v k b hF5 en5 hk g4 g5 ex => ?_) (fun M5 w5 e5 b5 hF5 en5 hE5 g3_5 g4_5 g5_5 ht5 => ?_))
    · have hd : ¬ cb_gI M5 1 0 4 = 0 := by rw [g4]; exact hk
      have hfin := (h M5 (rd_fr_1 ((((hF1.trans hF2).trans hF3).trans hF4).trans hF5)) (by unfold rd_c1; rw [rd_b_r en1, rd_b_r en2, rd_b_r en3, rd_b_r en4, rd_b_l en5]; exact ⟨hk, g4, g5, ex⟩))
      exact And.intro (cb_on rfl) (rd_dn ex hd (And.intro (cb_on rfl) (rd_de ex hd (And.intro (fun _ => And.intro rfl hfin) (fun q => absurd rfl q)))))
    refine And.intro (cb_on rfl) (rd_call hE5 g4_5 ht5 (fun M6 v k b hF6 en6 hk g4 g5 ex => ?_) (fun M6 w6 e6 b6 hF6 en6 hE6 g3_6 g4_6 g5_6 ht6 => ?_))
    · have hd : ¬ cb_gI M6 1 0 4 = 0 := by rw [g4]; exact hk
      have hfin := (h M6 (rd_fr_1 (((((hF1.trans hF2).trans hF3).trans hF4).trans hF5).trans hF6)) (by unfold rd_c1; rw [rd_b_r en1, rd_b_r en2, rd_b_r en3, rd_b_r en4, rd_b_r en5, rd_b_l en6]; exact ⟨hk, g4, g5, ex⟩))
      exact And.intro (cb_on rfl) (rd_de ex hd (And.intro (fun _ => And.intro rfl hfin) (fun q => absurd rfl q)))
    refine And.intro (cb_on rfl) (rd_ecall hE6 g4_6 ht6 (fun M7 k b hF7 en7 hk g4 g5 ex => And.intro (fun _ => And.intro rfl (h M7 (rd_fr_1 ((((((hF1.trans hF2).trans hF3).trans hF4).trans hF5).trans hF6).trans hF7)) (by unfold rd_c1; rw [rd_b_r en1, rd_b_r en2, rd_b_r en3, rd_b_r en4, rd_b_r en5, rd_b_r en6, rd_b_l en7]; exact ⟨hk, g4, g5, ex⟩))) (fun q => absurd rfl q)) (fun M7 e7 hF7 en7 hE7 g4_7 g5_7 => And.intro (fun q => absurd q (show ¬ (1 : Int32) = 0 by decide)) (fun _ => ?_)))
    have hGs := ((((((hF1.trans hF2).trans hF3).trans hF4).trans hF5).trans hF6).trans hF7)
    have hVs := rd_V_1 hGs hV
    have g5s : cb_gI M7 1 0 5 = cb_gI M 1 0 5 := ((((((g5_7.trans g5_6).trans g5_5).trans g5_4).trans g5_3).trans g5_2).trans g5_1)
    have hres : ∀ M9, rd_fr P M M9 → rd_V M9 P ((A.nb, A.n + 1, A.h), A.2.1, A.th, (rd_up A.c.1 A.n w1, rd_up A.c.2.1 A.n w2, rd_up A.c.2.2.1 A.n (w3 - 100), rd_up A.c.2.2.2.1 A.n w4, rd_up A.c.2.2.2.2.1 A.n w5, rd_up A.c.2.2.2.2.2 A.n w6), A.2.2.2.2) → cb_gI M9 1 0 1 = cb_gI M7 1 0 1 ∧ cb_gI M9 1 0 2 = cb_gI M7 1 0 2 ∧ cb_gI M9 1 0 4 = cb_gI M7 1 0 4 ∧ cb_gI M9 1 0 5 = cb_gI M7 1 0 5 → X.K (.inl none) (cb_aS n0, f) M9 := fun M9 hf hv he => h M9 hf (by unfold rd_c1; rw [rd_b_r en1, rd_b_r en2, rd_b_r en3, rd_b_r en4, rd_b_r en5, rd_b_r en6, rd_b_r en7]; exact ⟨hv, ⟨(by unfold cb_gR; rw [hf.2]; exact hE.1), he.1.trans hE7.2.1, hE7.2.2.1, he.2.1.trans hE7.2.2.2.1, hE7.2.2.2.2⟩, he.2.2.1.trans g4_7, he.2.2.2.trans g5s⟩)
    have hx8 : vp_in (cb_gI M7 3 P 1) 8 := by rw [hVs.1.2.1]; exact vp_in_nI hpre (by decide)
    have hxc : (cb_gI M7 3 P 1).toNatClampNeg = A.n := by rw [hVs.1.2.1]; exact nI_clamp (by omega)
    refine cb_av.of haP (cb_av.of haP (cb_av.of (cb_aPP hP rfl) (And.intro hx8 (cb_av.of haP (cb_av.of (cb_aPP hP rfl) (And.intro hx8 (cb_av.of haP (cb_av.of (cb_aPP hP rfl) (And.intro hx8 (cb_av.of haP (cb_av.of (cb_aPP hP rfl) (And.intro hx8 (cb_av.of haP (cb_av.of (cb_aPP hP rfl) (And.intro hx8 (cb_av.of haP (cb_av.of (cb_aPP hP rfl) (And.intro hx8 (cb_av.of haP (cb_av.of haP (And.intro rfl ?_)))))))))))))))))))))
    have em : cb_sI (cb_sI (cb_sI (cb_sI (cb_sI (cb_sI (cb_sI M7 5 P (cb_gI M7 3 P 1).toNatClampNeg w1) 6 P (cb_gI M7 3 P 1).toNatClampNeg w2) 7 P (cb_gI M7 3 P 1).toNatClampNeg (w3 - 100)) 8 P (cb_gI M7 3 P 1).toNatClampNeg w4) 9 P (cb_gI M7 3 P 1).toNatClampNeg w5) 10 P (cb_gI M7 3 P 1).toNatClampNeg w6) 3 P 1 (cb_gI M7 3 P 1 + 1) = cb_sI (cb_sI (cb_sI (cb_sI (cb_sI (cb_sI (cb_sI M7 5 P A.n w1) 6 P A.n w2) 7 P A.n (w3 - 100)) 8 P A.n w4) 9 P A.n w5) 10 P A.n w6) 3 P 1 (nI (A.n + 1)) := by rw [hxc, hVs.1.2.1, nI_1]
    refine cb_eqN (hres (cb_sI (cb_sI (cb_sI (cb_sI (cb_sI (cb_sI (cb_sI M7 5 P A.n w1) 6 P A.n w2) 7 P A.n (w3 - 100)) 8 P A.n w4) 9 P A.n w5) 10 P A.n w6) 3 P 1 (nI (A.n + 1))) ((((((((rd_fr_1 hGs).set w1 (by decide)).set w2 (by decide)).set (w3 - 100) (by decide)).set w4 (by decide)).set w5 (by decide)).set w6 (by decide)).set (nI (A.n + 1)) (by decide)) ⟨⟨(cb_gs_ne (by omega)).trans hVs.1.1, cb_gs_eq _ _ _ _ _, (cb_gs_ne (by omega)).trans hVs.1.2.2.1, (cb_gs_ne (by omega)).trans hVs.1.2.2.2.1, (cb_gs_ne (by omega)).trans hVs.1.2.2.2.2⟩, hVs.2.1, fun i hi => ?_, hVs.2.2.2⟩ ⟨rfl, rfl, rfl, rfl⟩) em
    have hi : i < A.n + 1 := hi
    exact ⟨rd_gs i (fun q => (hVs.2.2.1 i (by omega)).1), rd_gs i (fun q => (hVs.2.2.1 i (by omega)).2.1), rd_gs i (fun q => (hVs.2.2.1 i (by omega)).2.2.1), rd_gs i (fun q => (hVs.2.2.1 i (by omega)).2.2.2.1), rd_gs i (fun q => (hVs.2.2.1 i (by omega)).2.2.2.2.1), rd_gs i (fun q => (hVs.2.2.1 i (by omega)).2.2.2.2.2)⟩
def sp_X6_readHook : cb_Sp := sp_rd rd_c2 fun A => A.h < 6
def pt_X6_readHook : cb_PT := cb_m 1 1 sp_X6_readHook
theorem rc_X6_readHook : cb_rc cb_tb RX6 pt_X6_readHook := cb_m_rc rfl rfl
def md_X6_readHook : cb_D := (RX6, cX6_readHook, 4, none, (0, 0, 3, 69), [
  (0, .aload_n 0, 1, 0, 0, 0, 0),
  (1, .iconst 0, 1, 0, 0, 0, 0),
  (2, .aload_n 1, 1, 0, 1, 0, 0),
  (3, .getfield 67, 3, 0, 4, 0, 67),
  (6, .iconst 1, 1, 1, 0, 0, 0),
  (7, .isub, 1, 0, 0, 0, 0),
  (8, .invokevirtual 101, 3, 0, 0, 0, 0),
  (11, .istore_n 2, 1, 0, 2, 0, 0),
  (12, .aload_n 0, 1, 0, 0, 0, 0),
  (13, .aload_n 1, 1, 0, 1, 0, 0),
  (14, .iload_n 2, 1, 0, 2, 0, 0),
  (15, .invokevirtual 112, 3, 0, 1, 0, 0),
  (18, .istore_n 3, 1, 0, 3, 0, 0),
  (19, .aload_n 0, 1, 0, 0, 0, 0),
  (20, .invokevirtual 104, 3, 0, 2, 0, 0),
  (23, .ifCond .eq 33, 3, 0, 56, 0, 0),
  (26, .aload_n 1, 1, 0, 1, 0, 0),
  (27, .getfield 134, 3, 0, 4, 13, 117),
  (30, .aload_n 1, 1, 0, 1, 0, 0),
  (31, .getfield 73, 3, 0, 4, 2, 76),
  (34, .iload_n 2, 1, 0, 2, 0, 0),
  (35, .iastore, 1, 0, 0, 0, 0),
  (36, .aload_n 1, 1, 0, 1, 0, 0),
  (37, .getfield 137, 3, 0, 4, 14, 120),
  (40, .aload_n 1, 1, 0, 1, 0, 0),
  (41, .getfield 73, 3, 0, 4, 2, 76),
  (44, .iload_n 3, 1, 0, 3, 0, 0),
  (45, .iastore, 1, 0, 0, 0, 0),
  (46, .aload_n 1, 1, 0, 1, 0, 0),
  (47, .dup, 1, 0, 0, 0, 0),
  (48, .getfield 73, 3, 0, 4, 2, 76),
  (51, .iconst 1, 1, 1, 0, 0, 0),
  (52, .iadd, 1, 0, 0, 0, 0),
  (53, .putfield 73, 3, 0, 4, 2, 76),
  (56, .return_, 1, 0, 0, 0, 0)],
  [(0, 101, 3, 0, 0, pt_X6_readNumber), (0, 112, 3, 0, 0, pt_X6_readPlace), (0, 104, 1, 0, 0, pt_X6_endsClause)], [])
set_option maxRecDepth 100000 in
theorem vd_X6_readHook : md_X6_readHook.cd.all (cb_vE md_X6_readHook) = true := by decide +kernel
theorem wd_X6_readHook : cb_wd yX6_readHook md_X6_readHook := ⟨cb_tw (i := 743) (by decide +kernel), cb_tw (i := 2) (by decide +kernel), by decide, by decide⟩
theorem cs_X6_readHook : ∀ X, cb_Bs md_X6_readHook X → ∀ g ∈ md_X6_readHook.ga, cb_CS cb_tb md_X6_readHook X g := fun X B => List.forall_mem_cons.mpr ⟨cb_csV B ok_X6_readNumber wd_X6_readNumber (cb_tw (i := 717) (by decide +kernel)) (cb_tw (i := 719) (by decide +kernel)) (cb_tp (i := 12) (by decide +kernel)) rc_X6_readNumber ⟨by decide, by decide⟩ (by decide +kernel), List.forall_mem_cons.mpr ⟨cb_csV B ok_X6_readPlace wd_X6_readPlace (cb_tw (i := 732) (by decide +kernel)) (cb_tw (i := 734) (by decide +kernel)) (cb_tp (i := 15) (by decide +kernel)) rc_X6_readPlace ⟨by decide, by decide⟩ (by decide +kernel), List.forall_mem_cons.mpr ⟨cb_csV B ok_X6_endsClause wd_X6_endsClause (cb_tw (i := 724) (by decide +kernel)) (cb_tw (i := 726) (by decide +kernel)) (cb_tp (i := 13) (by decide +kernel)) rc_X6_endsClause ⟨by decide, by decide⟩ (by decide +kernel), fun _ h => nomatch h⟩⟩⟩
theorem ok_X6_readHook : cb_MOK cb_tb yX6_readHook md_X6_readHook pt_X6_readHook := by
  refine cb_okm ⟨plainFor_of_name (by decide), rfl⟩ (by decide) cs_X6_readHook (by decide) (fun X n0 f i r M hr ha h => ?_)
  have h0 := cb_a1 (T := 1) rfl ha
  subst h0
  match r, hr, h with
  | [.inr (.inr (some (t, P)))], hr, h =>
    obtain ⟨rfl, hP, len, at_, A, ⟨hE, h0, hV, hC, hpre⟩, h⟩ := h
    have haP := cb_aPP (n := n0) (f := f) hP (t := 3) rfl
    refine cb_run cb_tb_ok vd_X6_readHook (cuts := []) 90 ?_
    refine cb_av.of haP ?_
    have hhi1 : cb_gI M 3 P 0 - 1 = nI A.nb - 1 := by rw [hV.1.1]
    refine And.intro (cb_on rfl) ?_
    show sp_X6_readNumber 0 [.inl 0, .inl (cb_gI M 3 P 0 - 1)] M _
    rw [hhi1]
    refine rd_call hE h0 rfl (fun M1 v k b hF1 en1 hk g4 g5 ex => ?_) (fun M1 w1 e1 b1 hF1 en1 hE1 g3_1 g4_1 g5_1 ht1 => ?_)
    · have hd : ¬ cb_gI M1 1 0 4 = 0 := by rw [g4]; exact hk
      have hfin := (h M1 (rd_fr_1 hF1) (by unfold rd_c2; rw [rd_b_l en1]; exact ⟨hk, g4, g5, ex⟩))
      exact And.intro (cb_on rfl) (rd_dp hP ex (rd_V_1 hF1 hV) hC hd (And.intro (cb_on rfl) (rd_de ex hd (And.intro (fun _ => And.intro rfl hfin) (fun q => absurd rfl q)))))
    refine And.intro (cb_on rfl) (rd_pcall hP hE1 (rd_V_1 hF1 hV) hC g4_1 ht1 (fun M2 v k b hF2 en2 hk g4 g5 ex => ?_) (fun M2 w2 e2 b2 hF2 en2 hE2 g3_2 g4_2 g5_2 ht2 => ?_))
    · have hd : ¬ cb_gI M2 1 0 4 = 0 := by rw [g4]; exact hk
      have hfin := (h M2 (rd_fr_1 (hF1.trans hF2)) (by unfold rd_c2; rw [rd_b_r en1, rd_b_l en2]; exact ⟨hk, g4, g5, ex⟩))
      exact And.intro (cb_on rfl) (rd_de ex hd (And.intro (fun _ => And.intro rfl hfin) (fun q => absurd rfl q)))
    refine And.intro (cb_on rfl) (rd_ecall hE2 g4_2 ht2 (fun M3 k b hF3 en3 hk g4 g5 ex => And.intro (fun _ => And.intro rfl (h M3 (rd_fr_1 ((hF1.trans hF2).trans hF3)) (by unfold rd_c2; rw [rd_b_r en1, rd_b_r en2, rd_b_l en3]; exact ⟨hk, g4, g5, ex⟩))) (fun q => absurd rfl q)) (fun M3 e3 hF3 en3 hE3 g4_3 g5_3 => And.intro (fun q => absurd q (show ¬ (1 : Int32) = 0 by decide)) (fun _ => ?_)))
    have hGs := ((hF1.trans hF2).trans hF3)
    have hVs := rd_V_1 hGs hV
    have g5s : cb_gI M3 1 0 5 = cb_gI M 1 0 5 := ((g5_3.trans g5_2).trans g5_1)
    have hres : ∀ M9, rd_fr P M M9 → rd_V M9 P ((A.nb, A.n, A.h + 1), A.2.1, A.th, A.c, A.ky, (rd_up A.hk.1 A.h w1, rd_up A.hk.2 A.h w2), A.2.2.2.2.2.2) → cb_gI M9 1 0 1 = cb_gI M3 1 0 1 ∧ cb_gI M9 1 0 2 = cb_gI M3 1 0 2 ∧ cb_gI M9 1 0 4 = cb_gI M3 1 0 4 ∧ cb_gI M9 1 0 5 = cb_gI M3 1 0 5 → X.K (.inl none) (cb_aS n0, f) M9 := fun M9 hf hv he => h M9 hf (by unfold rd_c2; rw [rd_b_r en1, rd_b_r en2, rd_b_r en3]; exact ⟨hv, ⟨(by unfold cb_gR; rw [hf.2]; exact hE.1), he.1.trans hE3.2.1, hE3.2.2.1, he.2.1.trans hE3.2.2.2.1, hE3.2.2.2.2⟩, he.2.2.1.trans g4_3, he.2.2.2.trans g5s⟩)
    have hx8 : vp_in (cb_gI M3 3 P 2) 6 := by rw [hVs.1.2.2.1]; exact vp_in_nI hpre (by decide)
    have hxc : (cb_gI M3 3 P 2).toNatClampNeg = A.h := by rw [hVs.1.2.2.1]; exact nI_clamp (by omega)
    refine cb_av.of haP (cb_av.of haP (cb_av.of (cb_aPP hP rfl) (And.intro hx8 (cb_av.of haP (cb_av.of haP (cb_av.of (cb_aPP hP rfl) (And.intro hx8 (cb_av.of haP (cb_av.of haP (And.intro rfl ?_))))))))))
    have em : cb_sI (cb_sI (cb_sI M3 12 P (cb_gI M3 3 P 2).toNatClampNeg w1) 13 P (cb_gI M3 3 P 2).toNatClampNeg w2) 3 P 2 (cb_gI M3 3 P 2 + 1) = cb_sI (cb_sI (cb_sI M3 12 P A.h w1) 13 P A.h w2) 3 P 2 (nI (A.h + 1)) := by rw [hxc, hVs.1.2.2.1, nI_1]
    refine cb_eqN (hres (cb_sI (cb_sI (cb_sI M3 12 P A.h w1) 13 P A.h w2) 3 P 2 (nI (A.h + 1))) ((((rd_fr_1 hGs).set w1 (by decide)).set w2 (by decide)).set (nI (A.h + 1)) (by decide)) ⟨⟨(cb_gs_ne (by omega)).trans hVs.1.1, (cb_gs_ne (by omega)).trans hVs.1.2.1, cb_gs_eq _ _ _ _ _, (cb_gs_ne (by omega)).trans hVs.1.2.2.2.1, (cb_gs_ne (by omega)).trans hVs.1.2.2.2.2⟩, hVs.2.1, hVs.2.2.1, hVs.2.2.2.1, fun i hi => ?_, hVs.2.2.2.2.2⟩ ⟨rfl, rfl, rfl, rfl⟩) em
    have hi : i < A.h + 1 := hi
    exact ⟨rd_gs i (fun q => (hVs.2.2.2.2.1 i (by omega)).1), rd_gs i (fun q => (hVs.2.2.2.2.1 i (by omega)).2)⟩
def sp_X6_readHears : cb_Sp := sp_rd rd_c3 fun A => A.nb = A.nb
def pt_X6_readHears : cb_PT := cb_m 1 1 sp_X6_readHears
theorem rc_X6_readHears : cb_rc cb_tb RX6 pt_X6_readHears := cb_m_rc rfl rfl
def md_X6_readHears : cb_D := (RX6, cX6_readHears, 5, none, (0, 0, 2, 46), [
  (0, .aload_n 0, 1, 0, 0, 0, 0),
  (1, .iconst 0, 1, 0, 0, 0, 0),
  (2, .aload_n 1, 1, 0, 1, 0, 0),
  (3, .getfield 70, 3, 0, 4, 1, 73),
  (6, .iconst 1, 1, 1, 0, 0, 0),
  (7, .isub, 1, 0, 0, 0, 0),
  (8, .invokevirtual 101, 3, 0, 0, 0, 0),
  (11, .istore_n 2, 1, 0, 2, 0, 0),
  (12, .aload_n 0, 1, 0, 0, 0, 0),
  (13, .iconst 0, 1, 0, 0, 0, 0),
  (14, .aload_n 1, 1, 0, 1, 0, 0),
  (15, .getfield 70, 3, 0, 4, 1, 73),
  (18, .iconst 1, 1, 1, 0, 0, 0),
  (19, .isub, 1, 0, 0, 0, 0),
  (20, .invokevirtual 101, 3, 0, 0, 0, 0),
  (23, .istore_n 3, 1, 0, 3, 0, 0),
  (24, .iload_n 2, 1, 0, 2, 0, 0),
  (25, .iload_n 3, 1, 0, 3, 0, 0),
  (26, .if_icmp .ne 12, 3, 0, 38, 0, 0),
  (29, .aload_n 0, 1, 0, 0, 0, 0),
  (30, .aload_n 0, 1, 0, 0, 0, 0),
  (31, .getfield 22, 3, 0, 6, 3, 42),
  (34, .iconst 2, 1, 2, 0, 0, 0),
  (35, .invokevirtual 56, 3, 0, 1, 0, 0),
  (38, .aload_n 0, 1, 0, 0, 0, 0),
  (39, .iconst 0, 1, 0, 0, 0, 0),
  (40, .bipush 99, 2, 99, 0, 0, 0),
  (42, .invokevirtual 101, 3, 0, 0, 0, 0),
  (45, .istore 4, 2, 0, 4, 0, 0),
  (47, .aload_n 0, 1, 0, 0, 0, 0),
  (48, .invokevirtual 104, 3, 0, 2, 0, 0),
  (51, .ifCond .eq 16, 3, 0, 67, 0, 0),
  (54, .aload_n 1, 1, 0, 1, 0, 0),
  (55, .getfield 140, 3, 0, 4, 15, 123),
  (58, .iload_n 2, 1, 0, 2, 0, 0),
  (59, .bipush 8, 2, 8, 0, 0, 0),
  (61, .imul, 1, 0, 0, 0, 0),
  (62, .iload_n 3, 1, 0, 3, 0, 0),
  (63, .iadd, 1, 0, 0, 0, 0),
  (64, .iload 4, 2, 0, 4, 0, 0),
  (66, .iastore, 1, 0, 0, 0, 0),
  (67, .return_, 1, 0, 0, 0, 0)],
  [(0, 101, 3, 0, 0, pt_X6_readNumber), (0, 56, 3, 0, 0, pt_X6_failAt), (0, 104, 1, 0, 0, pt_X6_endsClause)], [])
set_option maxRecDepth 100000 in
theorem vd_X6_readHears : md_X6_readHears.cd.all (cb_vE md_X6_readHears) = true := by decide +kernel
theorem wd_X6_readHears : cb_wd yX6_readHears md_X6_readHears := ⟨cb_tw (i := 747) (by decide +kernel), cb_tw (i := 2) (by decide +kernel), by decide, by decide⟩
theorem cs_X6_readHears : ∀ X, cb_Bs md_X6_readHears X → ∀ g ∈ md_X6_readHears.ga, cb_CS cb_tb md_X6_readHears X g := fun X B => List.forall_mem_cons.mpr ⟨cb_csV B ok_X6_readNumber wd_X6_readNumber (cb_tw (i := 717) (by decide +kernel)) (cb_tw (i := 719) (by decide +kernel)) (cb_tp (i := 12) (by decide +kernel)) rc_X6_readNumber ⟨by decide, by decide⟩ (by decide +kernel), List.forall_mem_cons.mpr ⟨cb_csV B ok_X6_failAt wd_X6_failAt (cb_tw (i := 702) (by decide +kernel)) (cb_tw (i := 704) (by decide +kernel)) (cb_tp (i := 9) (by decide +kernel)) rc_X6_failAt ⟨by decide, by decide⟩ (by decide +kernel), List.forall_mem_cons.mpr ⟨cb_csV B ok_X6_endsClause wd_X6_endsClause (cb_tw (i := 724) (by decide +kernel)) (cb_tw (i := 726) (by decide +kernel)) (cb_tp (i := 13) (by decide +kernel)) rc_X6_endsClause ⟨by decide, by decide⟩ (by decide +kernel), fun _ h => nomatch h⟩⟩⟩
theorem ok_X6_readHears : cb_MOK cb_tb yX6_readHears md_X6_readHears pt_X6_readHears := by
  refine cb_okm ⟨plainFor_of_name (by decide), rfl⟩ (by decide) cs_X6_readHears (by decide) (fun X n0 f i r M hr ha h => ?_)
  have h0 := cb_a1 (T := 1) rfl ha
  subst h0
  match r, hr, h with
  | [.inr (.inr (some (t, P)))], hr, h =>
    obtain ⟨rfl, hP, len, at_, A, ⟨hE, h0, hV, hC, hpre⟩, h⟩ := h
    have haP := cb_aPP (n := n0) (f := f) hP (t := 3) rfl
    refine cb_run cb_tb_ok vd_X6_readHears (cuts := []) 90 ?_
    refine cb_av.of haP ?_
    have hhi1 : cb_gI M 3 P 1 - 1 = nI A.n - 1 := by rw [hV.1.2.1]
    refine And.intro (cb_on rfl) ?_
    show sp_X6_readNumber 0 [.inl 0, .inl (cb_gI M 3 P 1 - 1)] M _
    rw [hhi1]
    refine rd_call hE h0 rfl (fun M1 v k b hF1 en1 hk g4 g5 ex => ?_) (fun M1 w1 e1 b1 hF1 en1 hE1 g3_1 g4_1 g5_1 ht1 => ?_)
    · have hd : ¬ cb_gI M1 1 0 4 = 0 := by rw [g4]; exact hk
      have hfin := (h M1 (rd_fr_1 hF1) (by unfold rd_c3; rw [rd_b_l en1]; exact ⟨hk, g4, g5, ex⟩))
      exact cb_av.of haP (And.intro (cb_on rfl) (rd_dn ex hd (And.intro (fun _ => And.intro (cb_on rfl) (rd_dn ex hd (And.intro (cb_on rfl) (rd_de ex hd (And.intro (fun _ => And.intro rfl hfin) (fun q => absurd rfl q)))))) (fun _ => And.intro (cb_on rfl) (And.intro (fun _ => And.intro (cb_on rfl) (rd_dn ex hd (And.intro (cb_on rfl) (rd_de ex hd (And.intro (fun _ => And.intro rfl hfin) (fun q => absurd rfl q)))))) (fun q => absurd q hd))))))
    refine cb_av.of haP ?_
    have hhi2 : cb_gI M1 3 P 1 - 1 = nI A.n - 1 := by rw [(rd_V_1 hF1 hV).1.2.1]
    refine And.intro (cb_on rfl) ?_
    show sp_X6_readNumber 0 [.inl 0, .inl (cb_gI M1 3 P 1 - 1)] M1 _
    rw [hhi2]
    refine rd_call hE1 g4_1 ht1 (fun M2 v k b hF2 en2 hk g4 g5 ex => ?_) (fun M2 w2 e2 b2 hF2 en2 hE2 g3_2 g4_2 g5_2 ht2 => ?_)
    · have hd : ¬ cb_gI M2 1 0 4 = 0 := by rw [g4]; exact hk
      have hfin := (h M2 (rd_fr_1 (hF1.trans hF2)) (by unfold rd_c3; rw [rd_b_r en1, rd_b_l en2]; exact ⟨hk, g4, g5, ex⟩))
      exact And.intro (fun _ => And.intro (cb_on rfl) (rd_dn ex hd (And.intro (cb_on rfl) (rd_de ex hd (And.intro (fun _ => And.intro rfl hfin) (fun q => absurd rfl q)))))) (fun _ => And.intro (cb_on rfl) (And.intro (fun _ => And.intro (cb_on rfl) (rd_dn ex hd (And.intro (cb_on rfl) (rd_de ex hd (And.intro (fun _ => And.intro rfl hfin) (fun q => absurd rfl q)))))) (fun q => absurd q hd)))
    by_cases hne : w1 = w2
    · have hF2_ := ((hF1.trans hF2).set (t := 1) (i := 0) (j := 4) 2 rfl).set (t := 1) (i := 0) (j := 5) (cb_gI M2 1 0 3) rfl
      obtain ⟨Mf, hMf⟩ : ∃ Mf, Mf = cb_sI (cb_sI M2 1 0 4 2) 1 0 5 (cb_gI M2 1 0 3) := ⟨_, rfl⟩
      have ex : ∃ a, rd_E Mf len a := ⟨e2, by rw [hMf]; exact rd_E_fr hE hF2_ hE2.2.2.2.1 hE2.2.2.2.2⟩
      have hd : ¬ cb_gI Mf 1 0 4 = 0 := by rw [hMf]; show ¬ (2 : Int32) = 0; decide
      have hfin := h Mf (by rw [hMf]; exact rd_fr_1 hF2_) (by unfold rd_c3; rw [rd_b_r en1, rd_b_r en2, if_pos hne]; exact ⟨by decide, by rw [hMf]; rfl, by rw [hMf]; exact g3_2, ex⟩)
      refine And.intro (fun q => absurd hne q) (fun _ => And.intro (cb_on rfl) (And.intro (fun q => absurd g4_2 q) (fun _ => ?_)))
      rw [← hMf]
      exact And.intro (cb_on rfl) (rd_dn ex hd (And.intro (cb_on rfl) (rd_de ex hd (And.intro (fun _ => And.intro rfl hfin) (fun q => absurd rfl q)))))
    refine And.intro (fun _ => ?_) (fun q => absurd hne q)
    refine And.intro (cb_on rfl) (rd_call hE2 g4_2 ht2 (fun M3 v k b hF3 en3 hk g4 g5 ex => ?_) (fun M3 w3 e3 b3 hF3 en3 hE3 g3_3 g4_3 g5_3 ht3 => ?_))
    · have hd : ¬ cb_gI M3 1 0 4 = 0 := by rw [g4]; exact hk
      have hfin := (h M3 (rd_fr_1 ((hF1.trans hF2).trans hF3)) (by unfold rd_c3; rw [rd_b_r en1, rd_b_r en2, if_neg hne, rd_b_l en3]; exact ⟨hk, g4, g5, ex⟩))
      exact And.intro (cb_on rfl) (rd_de ex hd (And.intro (fun _ => And.intro rfl hfin) (fun q => absurd rfl q)))
    refine And.intro (cb_on rfl) (rd_ecall hE3 g4_3 ht3 (fun M4 k b hF4 en4 hk g4 g5 ex => And.intro (fun _ => And.intro rfl (h M4 (rd_fr_1 (((hF1.trans hF2).trans hF3).trans hF4)) (by unfold rd_c3; rw [rd_b_r en1, rd_b_r en2, if_neg hne, rd_b_r en3, rd_b_l en4]; exact ⟨hk, g4, g5, ex⟩))) (fun q => absurd rfl q)) (fun M4 e4 hF4 en4 hE4 g4_4 g5_4 => And.intro (fun q => absurd q (show ¬ (1 : Int32) = 0 by decide)) (fun _ => ?_)))
    have hGs := (((hF1.trans hF2).trans hF3).trans hF4)
    have hVs := rd_V_1 hGs hV
    have g5s : cb_gI M4 1 0 5 = cb_gI M 1 0 5 := (((g5_4.trans g5_3).trans g5_2).trans g5_1)
    have hres : ∀ M9, rd_fr P M M9 → rd_V M9 P (A.1, A.2.1, A.th, A.c, A.ky, A.hk, rd_up A.he (w1.toNatClampNeg * 8 + w2.toNatClampNeg) w3, A.dp) → cb_gI M9 1 0 1 = cb_gI M4 1 0 1 ∧ cb_gI M9 1 0 2 = cb_gI M4 1 0 2 ∧ cb_gI M9 1 0 4 = cb_gI M4 1 0 4 ∧ cb_gI M9 1 0 5 = cb_gI M4 1 0 5 → X.K (.inl none) (cb_aS n0, f) M9 := fun M9 hf hv he => h M9 hf (by unfold rd_c3; rw [rd_b_r en1, rd_b_r en2, if_neg hne, rd_b_r en3, rd_b_r en4]; exact ⟨hv, ⟨(by unfold cb_gR; rw [hf.2]; exact hE.1), he.1.trans hE4.2.1, hE4.2.2.1, he.2.1.trans hE4.2.2.2.1, hE4.2.2.2.2⟩, he.2.2.1.trans g4_4, he.2.2.2.trans g5s⟩)
    obtain ⟨i, hi, hw1⟩ := rd_idx hC.2.1 (rd_num_in en1)
    obtain ⟨j, hj, hw2⟩ := rd_idx hC.2.1 (rd_num_in en2)
    have c1 : w1.toNatClampNeg = i := by rw [hw1]; exact nI_clamp (by have := hC.2.1; omega)
    have c2 : w2.toNatClampNeg = j := by rw [hw2]; exact nI_clamp (by have := hC.2.1; omega)
    have hn8 := hC.2.1
    have ex9 : w1 * 8 + w2 = nI (i * 8 + j) := by rw [hw1, hw2, show (8 : Int32) = nI 8 from rfl, show nI i * nI 8 = nI (i * 8) from (Int32.ofNat_mul i 8).symm, nI_add]
    have hx8 : vp_in (w1 * 8 + w2) 64 := by rw [ex9]; exact vp_in_nI (by omega) (by decide)
    have hxc : (w1 * 8 + w2).toNatClampNeg = w1.toNatClampNeg * 8 + w2.toNatClampNeg := by rw [ex9, c1, c2]; exact nI_clamp (by omega)
    refine cb_av.of haP (cb_av.of (cb_aPP hP rfl) (And.intro hx8 (And.intro rfl ?_)))
    have em : cb_sI M4 14 P (w1 * 8 + w2).toNatClampNeg w3 = cb_sI M4 14 P (w1.toNatClampNeg * 8 + w2.toNatClampNeg) w3 := by rw [hxc]
    refine cb_eqN (hres (cb_sI M4 14 P (w1.toNatClampNeg * 8 + w2.toNatClampNeg) w3) ((rd_fr_1 hGs).set w3 (by decide)) ⟨hVs.1, hVs.2.1, hVs.2.2.1, hVs.2.2.2.1, hVs.2.2.2.2.1, fun x hx => ?_, hVs.2.2.2.2.2.2⟩ ⟨rfl, rfl, rfl, rfl⟩) em
    exact rd_gs x (fun q => hVs.2.2.2.2.2.1 x hx)
def sp_X6_readDamp : cb_Sp := sp_rd rd_c4 fun A => A.nb = A.nb
def pt_X6_readDamp : cb_PT := cb_m 1 1 sp_X6_readDamp
theorem rc_X6_readDamp : cb_rc cb_tb RX6 pt_X6_readDamp := cb_m_rc rfl rfl
def md_X6_readDamp : cb_D := (RX6, cX6_readDamp, 4, none, (0, 0, 2, 46), [
  (0, .aload_n 0, 1, 0, 0, 0, 0),
  (1, .iconst 0, 1, 0, 0, 0, 0),
  (2, .sipush 399, 3, 399, 0, 0, 0),
  (5, .invokevirtual 101, 3, 0, 0, 0, 0),
  (8, .istore_n 2, 1, 0, 2, 0, 0),
  (9, .aload_n 0, 1, 0, 0, 0, 0),
  (10, .iconst 0, 1, 0, 0, 0, 0),
  (11, .bipush 50, 2, 50, 0, 0, 0),
  (13, .invokevirtual 101, 3, 0, 0, 0, 0),
  (16, .istore_n 3, 1, 0, 3, 0, 0),
  (17, .aload_n 0, 1, 0, 0, 0, 0),
  (18, .invokevirtual 104, 3, 0, 1, 0, 0),
  (21, .ifCond .eq 10, 3, 0, 31, 0, 0),
  (24, .aload_n 1, 1, 0, 1, 0, 0),
  (25, .getfield 143, 3, 0, 4, 16, 125),
  (28, .iload_n 2, 1, 0, 2, 0, 0),
  (29, .iload_n 3, 1, 0, 3, 0, 0),
  (30, .iastore, 1, 0, 0, 0, 0),
  (31, .return_, 1, 0, 0, 0, 0)],
  [(0, 101, 3, 0, 0, pt_X6_readNumber), (0, 104, 1, 0, 0, pt_X6_endsClause)], [])
set_option maxRecDepth 100000 in
theorem vd_X6_readDamp : md_X6_readDamp.cd.all (cb_vE md_X6_readDamp) = true := by decide +kernel
theorem wd_X6_readDamp : cb_wd yX6_readDamp md_X6_readDamp := ⟨cb_tw (i := 751) (by decide +kernel), cb_tw (i := 2) (by decide +kernel), by decide, by decide⟩
theorem cs_X6_readDamp : ∀ X, cb_Bs md_X6_readDamp X → ∀ g ∈ md_X6_readDamp.ga, cb_CS cb_tb md_X6_readDamp X g := fun X B => List.forall_mem_cons.mpr ⟨cb_csV B ok_X6_readNumber wd_X6_readNumber (cb_tw (i := 717) (by decide +kernel)) (cb_tw (i := 719) (by decide +kernel)) (cb_tp (i := 12) (by decide +kernel)) rc_X6_readNumber ⟨by decide, by decide⟩ (by decide +kernel), List.forall_mem_cons.mpr ⟨cb_csV B ok_X6_endsClause wd_X6_endsClause (cb_tw (i := 724) (by decide +kernel)) (cb_tw (i := 726) (by decide +kernel)) (cb_tp (i := 13) (by decide +kernel)) rc_X6_endsClause ⟨by decide, by decide⟩ (by decide +kernel), fun _ h => nomatch h⟩⟩
theorem ok_X6_readDamp : cb_MOK cb_tb yX6_readDamp md_X6_readDamp pt_X6_readDamp := by
  refine cb_okm ⟨plainFor_of_name (by decide), rfl⟩ (by decide) cs_X6_readDamp (by decide) (fun X n0 f i r M hr ha h => ?_)
  have h0 := cb_a1 (T := 1) rfl ha
  subst h0
  match r, hr, h with
  | [.inr (.inr (some (t, P)))], hr, h =>
    obtain ⟨rfl, hP, len, at_, A, ⟨hE, h0, hV, hC, hpre⟩, h⟩ := h
    have haP := cb_aPP (n := n0) (f := f) hP (t := 3) rfl
    refine cb_run cb_tb_ok vd_X6_readDamp (cuts := []) 90 ?_
    refine And.intro (cb_on rfl) (rd_call hE h0 rfl (fun M1 v k b hF1 en1 hk g4 g5 ex => ?_) (fun M1 w1 e1 b1 hF1 en1 hE1 g3_1 g4_1 g5_1 ht1 => ?_))
    · have hd : ¬ cb_gI M1 1 0 4 = 0 := by rw [g4]; exact hk
      have hfin := (h M1 (rd_fr_1 hF1) (by unfold rd_c4; rw [rd_b_l en1]; exact ⟨hk, g4, g5, ex⟩))
      exact And.intro (cb_on rfl) (rd_dn ex hd (And.intro (cb_on rfl) (rd_de ex hd (And.intro (fun _ => And.intro rfl hfin) (fun q => absurd rfl q)))))
    refine And.intro (cb_on rfl) (rd_call hE1 g4_1 ht1 (fun M2 v k b hF2 en2 hk g4 g5 ex => ?_) (fun M2 w2 e2 b2 hF2 en2 hE2 g3_2 g4_2 g5_2 ht2 => ?_))
    · have hd : ¬ cb_gI M2 1 0 4 = 0 := by rw [g4]; exact hk
      have hfin := (h M2 (rd_fr_1 (hF1.trans hF2)) (by unfold rd_c4; rw [rd_b_r en1, rd_b_l en2]; exact ⟨hk, g4, g5, ex⟩))
      exact And.intro (cb_on rfl) (rd_de ex hd (And.intro (fun _ => And.intro rfl hfin) (fun q => absurd rfl q)))
    refine And.intro (cb_on rfl) (rd_ecall hE2 g4_2 ht2 (fun M3 k b hF3 en3 hk g4 g5 ex => And.intro (fun _ => And.intro rfl (h M3 (rd_fr_1 ((hF1.trans hF2).trans hF3)) (by unfold rd_c4; rw [rd_b_r en1, rd_b_r en2, rd_b_l en3]; exact ⟨hk, g4, g5, ex⟩))) (fun q => absurd rfl q)) (fun M3 e3 hF3 en3 hE3 g4_3 g5_3 => And.intro (fun q => absurd q (show ¬ (1 : Int32) = 0 by decide)) (fun _ => ?_)))
    have hGs := ((hF1.trans hF2).trans hF3)
    have hVs := rd_V_1 hGs hV
    have g5s : cb_gI M3 1 0 5 = cb_gI M 1 0 5 := ((g5_3.trans g5_2).trans g5_1)
    have hres : ∀ M9, rd_fr P M M9 → rd_V M9 P (A.1, A.2.1, A.th, A.c, A.ky, A.hk, A.he, rd_up A.dp w1.toNatClampNeg w2) → cb_gI M9 1 0 1 = cb_gI M3 1 0 1 ∧ cb_gI M9 1 0 2 = cb_gI M3 1 0 2 ∧ cb_gI M9 1 0 4 = cb_gI M3 1 0 4 ∧ cb_gI M9 1 0 5 = cb_gI M3 1 0 5 → X.K (.inl none) (cb_aS n0, f) M9 := fun M9 hf hv he => h M9 hf (by unfold rd_c4; rw [rd_b_r en1, rd_b_r en2, rd_b_r en3]; exact ⟨hv, ⟨(by unfold cb_gR; rw [hf.2]; exact hE.1), he.1.trans hE3.2.1, hE3.2.2.1, he.2.1.trans hE3.2.2.2.1, hE3.2.2.2.2⟩, he.2.2.1.trans g4_3, he.2.2.2.trans g5s⟩)
    obtain ⟨i, hi0, hi, hw1⟩ := rd_rng (lo := 0) (hi := 399) (by decide) (by decide) (rd_num_in en1)
    have hx8 : vp_in w1 400 := by rw [hw1]; exact vp_in_nI (by omega) (by decide)
    refine cb_av.of haP (cb_av.of (cb_aPP hP rfl) (And.intro hx8 (And.intro rfl ?_)))
    refine hres _ ((rd_fr_1 hGs).set w2 (by decide)) ⟨hVs.1, hVs.2.1, hVs.2.2.1, hVs.2.2.2.1, hVs.2.2.2.2.1, hVs.2.2.2.2.2.1, fun x hx => ?_⟩ ⟨rfl, rfl, rfl, rfl⟩
    exact rd_gs x (fun q => hVs.2.2.2.2.2.2 x hx)
def sp_X6_readKey : cb_Sp := sp_rd rd_c5 fun A => A.nb = A.nb
def pt_X6_readKey : cb_PT := cb_m 1 1 sp_X6_readKey
theorem rc_X6_readKey : cb_rc cb_tb RX6 pt_X6_readKey := cb_m_rc rfl rfl
def md_X6_readKey : cb_D := (RX6, cX6_readKey, 4, none, (0, 0, 2, 46), [
  (0, .aload_n 0, 1, 0, 0, 0, 0),
  (1, .iconst 0, 1, 0, 0, 0, 0),
  (2, .aload_n 1, 1, 0, 1, 0, 0),
  (3, .getfield 70, 3, 0, 4, 1, 73),
  (6, .iconst 1, 1, 1, 0, 0, 0),
  (7, .isub, 1, 0, 0, 0, 0),
  (8, .invokevirtual 101, 3, 0, 0, 0, 0),
  (11, .istore_n 2, 1, 0, 2, 0, 0),
  (12, .aload_n 0, 1, 0, 0, 0, 0),
  (13, .iconst 1, 1, 1, 0, 0, 0),
  (14, .bipush 30, 2, 30, 0, 0, 0),
  (16, .invokevirtual 101, 3, 0, 0, 0, 0),
  (19, .istore_n 3, 1, 0, 3, 0, 0),
  (20, .aload_n 0, 1, 0, 0, 0, 0),
  (21, .invokevirtual 104, 3, 0, 1, 0, 0),
  (24, .ifCond .eq 10, 3, 0, 34, 0, 0),
  (27, .aload_n 1, 1, 0, 1, 0, 0),
  (28, .getfield 146, 3, 0, 4, 12, 114),
  (31, .iload_n 2, 1, 0, 2, 0, 0),
  (32, .iload_n 3, 1, 0, 3, 0, 0),
  (33, .iastore, 1, 0, 0, 0, 0),
  (34, .return_, 1, 0, 0, 0, 0)],
  [(0, 101, 3, 0, 0, pt_X6_readNumber), (0, 104, 1, 0, 0, pt_X6_endsClause)], [])
set_option maxRecDepth 100000 in
theorem vd_X6_readKey : md_X6_readKey.cd.all (cb_vE md_X6_readKey) = true := by decide +kernel
theorem wd_X6_readKey : cb_wd yX6_readKey md_X6_readKey := ⟨cb_tw (i := 755) (by decide +kernel), cb_tw (i := 2) (by decide +kernel), by decide, by decide⟩
theorem cs_X6_readKey : ∀ X, cb_Bs md_X6_readKey X → ∀ g ∈ md_X6_readKey.ga, cb_CS cb_tb md_X6_readKey X g := fun X B => List.forall_mem_cons.mpr ⟨cb_csV B ok_X6_readNumber wd_X6_readNumber (cb_tw (i := 717) (by decide +kernel)) (cb_tw (i := 719) (by decide +kernel)) (cb_tp (i := 12) (by decide +kernel)) rc_X6_readNumber ⟨by decide, by decide⟩ (by decide +kernel), List.forall_mem_cons.mpr ⟨cb_csV B ok_X6_endsClause wd_X6_endsClause (cb_tw (i := 724) (by decide +kernel)) (cb_tw (i := 726) (by decide +kernel)) (cb_tp (i := 13) (by decide +kernel)) rc_X6_endsClause ⟨by decide, by decide⟩ (by decide +kernel), fun _ h => nomatch h⟩⟩
theorem ok_X6_readKey : cb_MOK cb_tb yX6_readKey md_X6_readKey pt_X6_readKey := by
  refine cb_okm ⟨plainFor_of_name (by decide), rfl⟩ (by decide) cs_X6_readKey (by decide) (fun X n0 f i r M hr ha h => ?_)
  have h0 := cb_a1 (T := 1) rfl ha
  subst h0
  match r, hr, h with
  | [.inr (.inr (some (t, P)))], hr, h =>
    obtain ⟨rfl, hP, len, at_, A, ⟨hE, h0, hV, hC, hpre⟩, h⟩ := h
    have haP := cb_aPP (n := n0) (f := f) hP (t := 3) rfl
    refine cb_run cb_tb_ok vd_X6_readKey (cuts := []) 90 ?_
    refine cb_av.of haP ?_
    have hhi1 : cb_gI M 3 P 1 - 1 = nI A.n - 1 := by rw [hV.1.2.1]
    refine And.intro (cb_on rfl) ?_
    show sp_X6_readNumber 0 [.inl 0, .inl (cb_gI M 3 P 1 - 1)] M _
    rw [hhi1]
    refine rd_call hE h0 rfl (fun M1 v k b hF1 en1 hk g4 g5 ex => ?_) (fun M1 w1 e1 b1 hF1 en1 hE1 g3_1 g4_1 g5_1 ht1 => ?_)
    · have hd : ¬ cb_gI M1 1 0 4 = 0 := by rw [g4]; exact hk
      have hfin := (h M1 (rd_fr_1 hF1) (by unfold rd_c5; rw [rd_b_l en1]; exact ⟨hk, g4, g5, ex⟩))
      exact And.intro (cb_on rfl) (rd_dn ex hd (And.intro (cb_on rfl) (rd_de ex hd (And.intro (fun _ => And.intro rfl hfin) (fun q => absurd rfl q)))))
    refine And.intro (cb_on rfl) (rd_call hE1 g4_1 ht1 (fun M2 v k b hF2 en2 hk g4 g5 ex => ?_) (fun M2 w2 e2 b2 hF2 en2 hE2 g3_2 g4_2 g5_2 ht2 => ?_))
    · have hd : ¬ cb_gI M2 1 0 4 = 0 := by rw [g4]; exact hk
      have hfin := (h M2 (rd_fr_1 (hF1.trans hF2)) (by unfold rd_c5; rw [rd_b_r en1, rd_b_l en2]; exact ⟨hk, g4, g5, ex⟩))
      exact And.intro (cb_on rfl) (rd_de ex hd (And.intro (fun _ => And.intro rfl hfin) (fun q => absurd rfl q)))
    refine And.intro (cb_on rfl) (rd_ecall hE2 g4_2 ht2 (fun M3 k b hF3 en3 hk g4 g5 ex => And.intro (fun _ => And.intro rfl (h M3 (rd_fr_1 ((hF1.trans hF2).trans hF3)) (by unfold rd_c5; rw [rd_b_r en1, rd_b_r en2, rd_b_l en3]; exact ⟨hk, g4, g5, ex⟩))) (fun q => absurd rfl q)) (fun M3 e3 hF3 en3 hE3 g4_3 g5_3 => And.intro (fun q => absurd q (show ¬ (1 : Int32) = 0 by decide)) (fun _ => ?_)))
    have hGs := ((hF1.trans hF2).trans hF3)
    have hVs := rd_V_1 hGs hV
    have g5s : cb_gI M3 1 0 5 = cb_gI M 1 0 5 := ((g5_3.trans g5_2).trans g5_1)
    have hres : ∀ M9, rd_fr P M M9 → rd_V M9 P (A.1, A.2.1, A.th, A.c, rd_up A.ky w1.toNatClampNeg w2, A.2.2.2.2.2) → cb_gI M9 1 0 1 = cb_gI M3 1 0 1 ∧ cb_gI M9 1 0 2 = cb_gI M3 1 0 2 ∧ cb_gI M9 1 0 4 = cb_gI M3 1 0 4 ∧ cb_gI M9 1 0 5 = cb_gI M3 1 0 5 → X.K (.inl none) (cb_aS n0, f) M9 := fun M9 hf hv he => h M9 hf (by unfold rd_c5; rw [rd_b_r en1, rd_b_r en2, rd_b_r en3]; exact ⟨hv, ⟨(by unfold cb_gR; rw [hf.2]; exact hE.1), he.1.trans hE3.2.1, hE3.2.2.1, he.2.1.trans hE3.2.2.2.1, hE3.2.2.2.2⟩, he.2.2.1.trans g4_3, he.2.2.2.trans g5s⟩)
    obtain ⟨i, hi, hw1⟩ := rd_idx hC.2.1 (rd_num_in en1)
    have hx8 : vp_in w1 8 := by rw [hw1]; exact vp_in_nI (by have := hC.2.1; omega) (by decide)
    refine cb_av.of haP (cb_av.of (cb_aPP hP rfl) (And.intro hx8 (And.intro rfl ?_)))
    refine hres _ ((rd_fr_1 hGs).set w2 (by decide)) ⟨hVs.1, hVs.2.1, hVs.2.2.1, fun x hx => ?_, hVs.2.2.2.2⟩ ⟨rfl, rfl, rfl, rfl⟩
    exact rd_gs x (fun q => hVs.2.2.2.1 x hx)
def sp_X6_readSound : cb_Sp := sp_rd rd_c6 fun A => A.nb = A.nb
def pt_X6_readSound : cb_PT := cb_m 1 1 sp_X6_readSound
theorem rc_X6_readSound : cb_rc cb_tb RX6 pt_X6_readSound := cb_m_rc rfl rfl
def md_X6_readSound : cb_D := (RX6, cX6_readSound, 3, none, (0, 0, 2, 46), [
  (0, .aload_n 0, 1, 0, 0, 0, 0),
  (1, .iconst 0, 1, 0, 0, 0, 0),
  (2, .aload_n 1, 1, 0, 1, 0, 0),
  (3, .getfield 70, 3, 0, 4, 1, 73),
  (6, .iconst 1, 1, 1, 0, 0, 0),
  (7, .isub, 1, 0, 0, 0, 0),
  (8, .invokevirtual 101, 3, 0, 0, 0, 0),
  (11, .istore_n 2, 1, 0, 2, 0, 0),
  (12, .aload_n 0, 1, 0, 0, 0, 0),
  (13, .invokevirtual 104, 3, 0, 1, 0, 0),
  (16, .ifCond .eq 15, 3, 0, 31, 0, 0),
  (19, .aload_n 1, 1, 0, 1, 0, 0),
  (20, .dup, 1, 0, 0, 0, 0),
  (21, .getfield 149, 3, 0, 4, 3, 81),
  (24, .iconst 1, 1, 1, 0, 0, 0),
  (25, .iload_n 2, 1, 0, 2, 0, 0),
  (26, .ishl, 1, 0, 0, 0, 0),
  (27, .ior, 1, 0, 0, 0, 0),
  (28, .putfield 149, 3, 0, 4, 3, 81),
  (31, .return_, 1, 0, 0, 0, 0)],
  [(0, 101, 3, 0, 0, pt_X6_readNumber), (0, 104, 1, 0, 0, pt_X6_endsClause)], [])
set_option maxRecDepth 100000 in
theorem vd_X6_readSound : md_X6_readSound.cd.all (cb_vE md_X6_readSound) = true := by decide +kernel
theorem wd_X6_readSound : cb_wd yX6_readSound md_X6_readSound := ⟨cb_tw (i := 759) (by decide +kernel), cb_tw (i := 2) (by decide +kernel), by decide, by decide⟩
theorem cs_X6_readSound : ∀ X, cb_Bs md_X6_readSound X → ∀ g ∈ md_X6_readSound.ga, cb_CS cb_tb md_X6_readSound X g := fun X B => List.forall_mem_cons.mpr ⟨cb_csV B ok_X6_readNumber wd_X6_readNumber (cb_tw (i := 717) (by decide +kernel)) (cb_tw (i := 719) (by decide +kernel)) (cb_tp (i := 12) (by decide +kernel)) rc_X6_readNumber ⟨by decide, by decide⟩ (by decide +kernel), List.forall_mem_cons.mpr ⟨cb_csV B ok_X6_endsClause wd_X6_endsClause (cb_tw (i := 724) (by decide +kernel)) (cb_tw (i := 726) (by decide +kernel)) (cb_tp (i := 13) (by decide +kernel)) rc_X6_endsClause ⟨by decide, by decide⟩ (by decide +kernel), fun _ h => nomatch h⟩⟩
theorem ok_X6_readSound : cb_MOK cb_tb yX6_readSound md_X6_readSound pt_X6_readSound := by
  refine cb_okm ⟨plainFor_of_name (by decide), rfl⟩ (by decide) cs_X6_readSound (by decide) (fun X n0 f i r M hr ha h => ?_)
  have h0 := cb_a1 (T := 1) rfl ha
  subst h0
  match r, hr, h with
  | [.inr (.inr (some (t, P)))], hr, h =>
    obtain ⟨rfl, hP, len, at_, A, ⟨hE, h0, hV, hC, hpre⟩, h⟩ := h
    have haP := cb_aPP (n := n0) (f := f) hP (t := 3) rfl
    refine cb_run cb_tb_ok vd_X6_readSound (cuts := []) 90 ?_
    refine cb_av.of haP ?_
    have hhi1 : cb_gI M 3 P 1 - 1 = nI A.n - 1 := by rw [hV.1.2.1]
    refine And.intro (cb_on rfl) ?_
    show sp_X6_readNumber 0 [.inl 0, .inl (cb_gI M 3 P 1 - 1)] M _
    rw [hhi1]
    refine rd_call hE h0 rfl (fun M1 v k b hF1 en1 hk g4 g5 ex => ?_) (fun M1 w1 e1 b1 hF1 en1 hE1 g3_1 g4_1 g5_1 ht1 => ?_)
    · have hd : ¬ cb_gI M1 1 0 4 = 0 := by rw [g4]; exact hk
      have hfin := (h M1 (rd_fr_1 hF1) (by unfold rd_c6; rw [rd_b_l en1]; exact ⟨hk, g4, g5, ex⟩))
      exact And.intro (cb_on rfl) (rd_de ex hd (And.intro (fun _ => And.intro rfl hfin) (fun q => absurd rfl q)))
    refine And.intro (cb_on rfl) (rd_ecall hE1 g4_1 ht1 (fun M2 k b hF2 en2 hk g4 g5 ex => And.intro (fun _ => And.intro rfl (h M2 (rd_fr_1 (hF1.trans hF2)) (by unfold rd_c6; rw [rd_b_r en1, rd_b_l en2]; exact ⟨hk, g4, g5, ex⟩))) (fun q => absurd rfl q)) (fun M2 e2 hF2 en2 hE2 g4_2 g5_2 => And.intro (fun q => absurd q (show ¬ (1 : Int32) = 0 by decide)) (fun _ => ?_)))
    have hGs := (hF1.trans hF2)
    have hVs := rd_V_1 hGs hV
    have g5s : cb_gI M2 1 0 5 = cb_gI M 1 0 5 := (g5_2.trans g5_1)
    have hres : ∀ M9, rd_fr P M M9 → rd_V M9 P (A.1, (A.so ||| (1 : Int32) <<< (w1 &&& 31), A.w), A.2.2) → cb_gI M9 1 0 1 = cb_gI M2 1 0 1 ∧ cb_gI M9 1 0 2 = cb_gI M2 1 0 2 ∧ cb_gI M9 1 0 4 = cb_gI M2 1 0 4 ∧ cb_gI M9 1 0 5 = cb_gI M2 1 0 5 → X.K (.inl none) (cb_aS n0, f) M9 := fun M9 hf hv he => h M9 hf (by unfold rd_c6; rw [rd_b_r en1, rd_b_r en2]; exact ⟨hv, ⟨(by unfold cb_gR; rw [hf.2]; exact hE.1), he.1.trans hE2.2.1, hE2.2.2.1, he.2.1.trans hE2.2.2.2.1, hE2.2.2.2.2⟩, he.2.2.1.trans g4_2, he.2.2.2.trans g5s⟩)
    refine cb_av.of haP (cb_av.of haP (And.intro rfl ?_))
    have em : cb_sI M2 3 P 3 (cb_gI M2 3 P 3 ||| (1 : Int32) <<< (w1 &&& 31)) = cb_sI M2 3 P 3 (A.so ||| (1 : Int32) <<< (w1 &&& 31)) := by rw [hVs.1.2.2.2.1]
    exact cb_eqN (hres (cb_sI M2 3 P 3 (A.so ||| (1 : Int32) <<< (w1 &&& 31))) ((rd_fr_1 hGs).set (A.so ||| (1 : Int32) <<< (w1 &&& 31)) (by decide)) ⟨⟨(cb_gs_ne (by omega)).trans hVs.1.1, (cb_gs_ne (by omega)).trans hVs.1.2.1, (cb_gs_ne (by omega)).trans hVs.1.2.2.1, cb_gs_eq _ _ _ _ _, (cb_gs_ne (by omega)).trans hVs.1.2.2.2.2⟩, hVs.2⟩ ⟨rfl, rfl, rfl, rfl⟩) em
def sp_X6_readRight : cb_Sp := sp_rd rd_c7 fun A => A.nb = A.nb
def pt_X6_readRight : cb_PT := cb_m 1 1 sp_X6_readRight
theorem rc_X6_readRight : cb_rc cb_tb RX6 pt_X6_readRight := cb_m_rc rfl rfl
def md_X6_readRight : cb_D := (RX6, cX6_readRight, 3, none, (0, 0, 2, 46), [
  (0, .aload_n 0, 1, 0, 0, 0, 0),
  (1, .iconst 0, 1, 0, 0, 0, 0),
  (2, .sipush 499, 3, 499, 0, 0, 0),
  (5, .invokevirtual 101, 3, 0, 0, 0, 0),
  (8, .istore_n 2, 1, 0, 2, 0, 0),
  (9, .aload_n 0, 1, 0, 0, 0, 0),
  (10, .invokevirtual 104, 3, 0, 1, 0, 0),
  (13, .ifCond .eq 8, 3, 0, 21, 0, 0),
  (16, .aload_n 1, 1, 0, 1, 0, 0),
  (17, .iload_n 2, 1, 0, 2, 0, 0),
  (18, .putfield 152, 3, 0, 4, 4, 84),
  (21, .return_, 1, 0, 0, 0, 0)],
  [(0, 101, 3, 0, 0, pt_X6_readNumber), (0, 104, 1, 0, 0, pt_X6_endsClause)], [])
set_option maxRecDepth 100000 in
theorem vd_X6_readRight : md_X6_readRight.cd.all (cb_vE md_X6_readRight) = true := by decide +kernel
theorem wd_X6_readRight : cb_wd yX6_readRight md_X6_readRight := ⟨cb_tw (i := 763) (by decide +kernel), cb_tw (i := 2) (by decide +kernel), by decide, by decide⟩
theorem cs_X6_readRight : ∀ X, cb_Bs md_X6_readRight X → ∀ g ∈ md_X6_readRight.ga, cb_CS cb_tb md_X6_readRight X g := fun X B => List.forall_mem_cons.mpr ⟨cb_csV B ok_X6_readNumber wd_X6_readNumber (cb_tw (i := 717) (by decide +kernel)) (cb_tw (i := 719) (by decide +kernel)) (cb_tp (i := 12) (by decide +kernel)) rc_X6_readNumber ⟨by decide, by decide⟩ (by decide +kernel), List.forall_mem_cons.mpr ⟨cb_csV B ok_X6_endsClause wd_X6_endsClause (cb_tw (i := 724) (by decide +kernel)) (cb_tw (i := 726) (by decide +kernel)) (cb_tp (i := 13) (by decide +kernel)) rc_X6_endsClause ⟨by decide, by decide⟩ (by decide +kernel), fun _ h => nomatch h⟩⟩
theorem ok_X6_readRight : cb_MOK cb_tb yX6_readRight md_X6_readRight pt_X6_readRight := by
  refine cb_okm ⟨plainFor_of_name (by decide), rfl⟩ (by decide) cs_X6_readRight (by decide) (fun X n0 f i r M hr ha h => ?_)
  have h0 := cb_a1 (T := 1) rfl ha
  subst h0
  match r, hr, h with
  | [.inr (.inr (some (t, P)))], hr, h =>
    obtain ⟨rfl, hP, len, at_, A, ⟨hE, h0, hV, hC, hpre⟩, h⟩ := h
    have haP := cb_aPP (n := n0) (f := f) hP (t := 3) rfl
    refine cb_run cb_tb_ok vd_X6_readRight (cuts := []) 90 ?_
    refine And.intro (cb_on rfl) (rd_call hE h0 rfl (fun M1 v k b hF1 en1 hk g4 g5 ex => ?_) (fun M1 w1 e1 b1 hF1 en1 hE1 g3_1 g4_1 g5_1 ht1 => ?_))
    · have hd : ¬ cb_gI M1 1 0 4 = 0 := by rw [g4]; exact hk
      have hfin := (h M1 (rd_fr_1 hF1) (by unfold rd_c7; rw [rd_b_l en1]; exact ⟨hk, g4, g5, ex⟩))
      exact And.intro (cb_on rfl) (rd_de ex hd (And.intro (fun _ => And.intro rfl hfin) (fun q => absurd rfl q)))
    refine And.intro (cb_on rfl) (rd_ecall hE1 g4_1 ht1 (fun M2 k b hF2 en2 hk g4 g5 ex => And.intro (fun _ => And.intro rfl (h M2 (rd_fr_1 (hF1.trans hF2)) (by unfold rd_c7; rw [rd_b_r en1, rd_b_l en2]; exact ⟨hk, g4, g5, ex⟩))) (fun q => absurd rfl q)) (fun M2 e2 hF2 en2 hE2 g4_2 g5_2 => And.intro (fun q => absurd q (show ¬ (1 : Int32) = 0 by decide)) (fun _ => ?_)))
    have hGs := (hF1.trans hF2)
    have hVs := rd_V_1 hGs hV
    have g5s : cb_gI M2 1 0 5 = cb_gI M 1 0 5 := (g5_2.trans g5_1)
    have hres : ∀ M9, rd_fr P M M9 → rd_V M9 P (A.1, (A.so, w1), A.2.2) → cb_gI M9 1 0 1 = cb_gI M2 1 0 1 ∧ cb_gI M9 1 0 2 = cb_gI M2 1 0 2 ∧ cb_gI M9 1 0 4 = cb_gI M2 1 0 4 ∧ cb_gI M9 1 0 5 = cb_gI M2 1 0 5 → X.K (.inl none) (cb_aS n0, f) M9 := fun M9 hf hv he => h M9 hf (by unfold rd_c7; rw [rd_b_r en1, rd_b_r en2]; exact ⟨hv, ⟨(by unfold cb_gR; rw [hf.2]; exact hE.1), he.1.trans hE2.2.1, hE2.2.2.1, he.2.1.trans hE2.2.2.2.1, hE2.2.2.2.2⟩, he.2.2.1.trans g4_2, he.2.2.2.trans g5s⟩)
    refine cb_av.of haP (And.intro rfl ?_)
    exact hres _ ((rd_fr_1 hGs).set w1 (by decide)) ⟨⟨(cb_gs_ne (by omega)).trans hVs.1.1, (cb_gs_ne (by omega)).trans hVs.1.2.1, (cb_gs_ne (by omega)).trans hVs.1.2.2.1, (cb_gs_ne (by omega)).trans hVs.1.2.2.2.1, cb_gs_eq _ _ _ _ _⟩, hVs.2⟩ ⟨rfl, rfl, rfl, rfl⟩
