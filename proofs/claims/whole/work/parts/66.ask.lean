/-! ===== the reference: the fewest that hold ===== -/
def sp_X10_holds : cb_Sp := fun _ r M K => match r with
  | [.inl some_, .inl N] => ∃ n h nb k, (mi_I M n h nb ∧ wm_wo some_ (cb_gI M 49 0 4) = 0 ∧ N = nI k ∧ k ≤ 400) ∧ ∀ M', cb_fr fr_X M M' → cb_gI M' 46 0 0 = cb_gI M 46 0 0 → K (some (cb_i (cb_z (vq_hok (mv M n h nb) k (wm_wo (wm_all (nI n)) (mv M n h nb).so) some_)))) M'
  | _ => False
theorem wm_wo_bit (x y : Int32) {i : Nat} (hi : i < 32) : cb_bit (wm_wo x y) i = (cb_bit x i && !cb_bit y i) := by
  unfold wm_wo
  rw [cb_bit_and]
  congr 1
  unfold cb_bit
  rw [Int32.toBitVec_xor, BitVec.getLsbD_xor]
  have : ∀ i, i < 32 → (-1 : Int32).toBitVec.getLsbD i = true := by decide
  rw [this i hi, Bool.xor_true]
def pt_X10_holds : cb_PT := cb_m 46 2 sp_X10_holds
theorem rc_X10_holds : cb_rc cb_tb RX10 pt_X10_holds := cb_m_rc rfl rfl
def md_X10_holds : cb_D := (RX10, cX10_holds, 7, (some .boolean), (0, 0, 6, 134), [
  (0, .aload_n 0, 1, 0, 0, 0, 0),
  (1, .invokevirtual 308, 3, 0, 0, 0, 0),
  (4, .aload_n 0, 1, 0, 0, 0, 0),
  (5, .getfield 20, 3, 0, 10, 10, 1338),
  (8, .iconst 4, 1, 4, 0, 0, 0),
  (9, .iaload, 1, 0, 0, 0, 0),
  (10, .iconst (-1), 1, (-1), 0, 0, 0),
  (11, .ixor, 1, 0, 0, 0, 0),
  (12, .iand, 1, 0, 0, 0, 0),
  (13, .iload_n 1, 1, 0, 1, 0, 0),
  (14, .ior, 1, 0, 0, 0, 0),
  (15, .istore_n 3, 1, 0, 3, 0, 0),
  (16, .aload_n 0, 1, 0, 0, 0, 0),
  (17, .iload_n 3, 1, 0, 3, 0, 0),
  (18, .putfield 107, 3, 0, 10, 41, 1369),
  (21, .aload_n 0, 1, 0, 0, 0, 0),
  (22, .iload_n 2, 1, 0, 2, 0, 0),
  (23, .invokevirtual 276, 3, 0, 1, 0, 0),
  (26, .aload_n 0, 1, 0, 0, 0, 0),
  (27, .sipush 255, 3, 255, 0, 0, 0),
  (30, .putfield 107, 3, 0, 10, 41, 1369),
  (33, .iconst 0, 1, 0, 0, 0, 0),
  (34, .istore 4, 2, 0, 4, 0, 0),
  (36, .iload 4, 2, 0, 4, 0, 0),
  (38, .aload_n 0, 1, 0, 0, 0, 0),
  (39, .getfield 20, 3, 0, 10, 10, 1338),
  (42, .iconst 1, 1, 1, 0, 0, 0),
  (43, .iaload, 1, 0, 0, 0, 0),
  (44, .if_icmp .ge 115, 3, 0, 159, 0, 0),
  (47, .iload_n 3, 1, 0, 3, 0, 0),
  (48, .iload 4, 2, 0, 4, 0, 0),
  (50, .ishr, 1, 0, 0, 0, 0),
  (51, .iconst 1, 1, 1, 0, 0, 0),
  (52, .iand, 1, 0, 0, 0, 0),
  (53, .ifCond .eq 100, 3, 0, 153, 0, 0),
  (56, .iload_n 1, 1, 0, 1, 0, 0),
  (57, .iload 4, 2, 0, 4, 0, 0),
  (59, .ishr, 1, 0, 0, 0, 0),
  (60, .iconst 1, 1, 1, 0, 0, 0),
  (61, .iand, 1, 0, 0, 0, 0),
  (62, .iconst 1, 1, 1, 0, 0, 0),
  (63, .if_icmp .eq 90, 3, 0, 153, 0, 0),
  (66, .aload_n 0, 1, 0, 0, 0, 0),
  (67, .getfield 67, 3, 0, 10, 25, 1353),
  (70, .iload 4, 2, 0, 4, 0, 0),
  (72, .iaload, 1, 0, 0, 0, 0),
  (73, .iconst 2, 1, 2, 0, 0, 0),
  (74, .if_icmp .ne 6, 3, 0, 80, 0, 0),
  (77, .goto 76, 3, 0, 153, 0, 0),
  (80, .iconst 0, 1, 0, 0, 0, 0),
  (81, .istore 5, 2, 0, 5, 0, 0),
  (83, .iconst 0, 1, 0, 0, 0, 0),
  (84, .istore 6, 2, 0, 6, 0, 0),
  (86, .iload 6, 2, 0, 6, 0, 0),
  (88, .aload_n 0, 1, 0, 0, 0, 0),
  (89, .getfield 20, 3, 0, 10, 10, 1338),
  (92, .iconst 1, 1, 1, 0, 0, 0),
  (93, .iaload, 1, 0, 0, 0, 0),
  (94, .if_icmp .ge 52, 3, 0, 146, 0, 0),
  (97, .iload 5, 2, 0, 5, 0, 0),
  (99, .ifCond .ne 34, 3, 0, 133, 0, 0),
  (102, .iload_n 1, 1, 0, 1, 0, 0),
  (103, .iload 6, 2, 0, 6, 0, 0),
  (105, .ishr, 1, 0, 0, 0, 0),
  (106, .iconst 1, 1, 1, 0, 0, 0),
  (107, .iand, 1, 0, 0, 0, 0),
  (108, .iconst 1, 1, 1, 0, 0, 0),
  (109, .if_icmp .ne 28, 3, 0, 137, 0, 0),
  (112, .aload_n 0, 1, 0, 0, 0, 0),
  (113, .getfield 94, 3, 0, 10, 37, 1365),
  (116, .iload 4, 2, 0, 4, 0, 0),
  (118, .iaload, 1, 0, 0, 0, 0),
  (119, .aload_n 0, 1, 0, 0, 0, 0),
  (120, .getfield 94, 3, 0, 10, 37, 1365),
  (123, .iload 6, 2, 0, 6, 0, 0),
  (125, .iaload, 1, 0, 0, 0, 0),
  (126, .invokestatic 280, 3, 0, 2, 0, 0),
  (129, .iconst 2, 1, 2, 0, 0, 0),
  (130, .if_icmp .ne 7, 3, 0, 137, 0, 0),
  (133, .iconst 1, 1, 1, 0, 0, 0),
  (134, .goto 4, 3, 0, 138, 0, 0),
  (137, .iconst 0, 1, 0, 0, 0, 0),
  (138, .istore 5, 2, 0, 5, 0, 0),
  (140, .iinc 6 1, 3, 1, 6, 0, 0),
  (143, .goto (-57), 3, 0, 86, 0, 0),
  (146, .iload 5, 2, 0, 5, 0, 0),
  (148, .ifCond .ne 5, 3, 0, 153, 0, 0),
  (151, .iconst 0, 1, 0, 0, 0, 0),
  (152, .ireturn, 1, 0, 0, 0, 0),
  (153, .iinc 4 1, 3, 1, 4, 0, 0),
  (156, .goto (-120), 3, 0, 36, 0, 0),
  (159, .iconst 1, 1, 1, 0, 0, 0),
  (160, .ireturn, 1, 0, 0, 0, 0)],
  [(0, 308, 1, 0, 0, pt_X10_all), (0, 276, 2, 0, 0, pt_X10_goesOn), (1, 280, 2, 0, 0, pt_X10_stepBy)], [])
set_option maxRecDepth 100000 in
theorem vd_X10_holds : md_X10_holds.cd.all (cb_vE md_X10_holds) = true := by decide +kernel
theorem wd_X10_holds : cb_wd yX10_holds md_X10_holds := ⟨cb_tw (i := 1759) (by decide +kernel), cb_tw (i := 11) (by decide +kernel), by decide, by decide⟩
theorem cs_X10_holds : ∀ X, cb_Bs md_X10_holds X → ∀ g ∈ md_X10_holds.ga, cb_CS cb_tb md_X10_holds X g := fun X B => List.forall_mem_cons.mpr ⟨cb_csV B ok_X10_all wd_X10_all (cb_tw (i := 1741) (by decide +kernel)) (cb_tw (i := 1743) (by decide +kernel)) (cb_tp (i := 78) (by decide +kernel)) rc_X10_all ⟨by decide, by decide⟩ (by decide +kernel), List.forall_mem_cons.mpr ⟨cb_csV B ok_X10_goesOn wd_X10_goesOn (cb_tw (i := 1646) (by decide +kernel)) (cb_tw (i := 1648) (by decide +kernel)) (cb_tp (i := 68) (by decide +kernel)) rc_X10_goesOn ⟨by decide, by decide⟩ (by decide +kernel), List.forall_mem_cons.mpr ⟨cb_csS B ok_X10_stepBy wd_X10_stepBy (cb_tw (i := 1667) (by decide +kernel)) (cb_tw (i := 1668) (by decide +kernel)) ⟨by decide, by decide⟩ (by decide +kernel), fun _ h => nomatch h⟩⟩⟩
theorem ok_X10_holds : cb_MOK cb_tb yX10_holds md_X10_holds pt_X10_holds := by
  refine cb_okm ⟨plainFor_of_name (by decide), rfl⟩ (by decide) cs_X10_holds (by decide) (fun X n0 f i r M hr ha h => ?_)
  have h0 := cb_a1 (T := 46) rfl ha
  subst h0
  match r, hr, h with
  | [.inl sm, .inl N], hr, h =>
    obtain ⟨n, hh, nb, k, ⟨hI, hsub, hN, hk⟩, h⟩ := h
    obtain ⟨hG, -, hp, -, -, -, hu, hw, hpr⟩ := id hI
    obtain ⟨hn1, hn8, -⟩ := id hG
    obtain ⟨V, hV⟩ : ∃ V, V = mv M n hh nb := ⟨_, rfl⟩
    have hVn : V.n = n := by rw [hV]; rfl
    have hso : V.so = cb_gI M 49 0 4 := by rw [hV]; rfl
    rw [← hV, hso] at h
    obtain ⟨ot, hot⟩ : ∃ ot, ot = wm_wo (wm_all (nI n)) (cb_gI M 49 0 4) := ⟨_, rfl⟩
    rw [← hot] at h
    refine cb_run cb_tb_ok vd_X10_holds (cuts := [36]) 90 ?_
    refine And.intro (cb_on rfl) (And.intro (mi_v 4 (by decide)) (And.intro (cb_on rfl) ?_))
    have ewho : wm_all (cb_gI M 49 0 1) &&& (cb_gI M 49 0 4 ^^^ (-1)) ||| sm = ot ||| sm := by rw [hn1, hot]; rfl
    show sp_X10_goesOn 0 [.inl N] (cb_sI M 46 0 41 (wm_all (cb_gI M 49 0 1) &&& (cb_gI M 49 0 4 ^^^ (-1)) ||| sm)) _
    rw [ewho]
    refine mg_tr hI rfl hN hk (fun M1 hF1 hP1 hs1 => ?_)
    rw [← hV] at hs1
    show cb_Gd cb_tb md_X10_holds X 36 [some (cb_r 46 0), some (cb_i (sm)), some (cb_i (N)), some (cb_i ((wm_all (cb_gI M 49 0 1) &&& (cb_gI M 49 0 4 ^^^ (-1)) ||| sm))), some (cb_i (0)), none, none] [] (cb_aS n0, f) (cb_sI M1 46 0 41 255) 0 0
    rw [ewho]
    have hF2 : cb_fr fr_X M (cb_sI M1 46 0 41 255) := cb_fr.tmp (hF1.mono fr_n_X) hu
    obtain ⟨M2, hM2⟩ : ∃ M2, M2 = cb_sI M1 46 0 41 255 := ⟨_, rfl⟩
    have hs2 : mk_s M2 n = vq_tr V (ot ||| sm) k := by rw [hM2]; exact hs1
    have hP2 : mk_P M2 n := by rw [hM2]; exact hP1
    rw [← hM2] at hF2 ⊢
    have h := h M2 hF2 (by rw [hM2]; exact hF1.1 46 0 0 rfl)
    have e1 : cb_gI M2 49 0 1 = nI n := (hF2.1 49 0 1 rfl).trans hn1
    obtain ⟨ph, hph⟩ : ∃ ph, ph = (vq_tr V (ot ||| sm) k).2.1 := ⟨_, rfl⟩
    have hpv : ∀ i, i < n → cb_gI M2 80 0 i = ph i := fun i hi => by
      rw [hph, ← hs2]
      exact (wn_tr_lt hi).symm
    have hpp : ∀ i, i < n → wm_ph (ph i) := fun i hi => by rw [← hpv i hi]; exact hP2 i hi
    obtain ⟨g, hg⟩ : ∃ g : Nat → Bool, g = fun i => !(cb_bit ot i && decide (¬ V.kd i = 2)) || wq_held ph n sm i := ⟨_, rfl⟩
    have h : X.K (.inl (some (cb_i (cb_z ((List.range n).all g))))) (cb_aS n0, f) M2 := by
      have e : vq_hok V k ot sm = (List.range n).all g := by
        unfold vq_hok wq_all
        rw [hg, hph, hVn]
      rw [← e]
      exact h
    have disj : ∀ i, i < n → cb_bit ot i = true → cb_bit sm i = false := fun i hi q => by
      rw [hot, wm_wo_bit _ _ (by omega), Bool.and_eq_true] at q
      have z : cb_bit (wm_wo sm (cb_gI M 49 0 4)) i = false := by
        rw [hsub]
        have : ∀ i, i < 32 → cb_bit 0 i = false := by decide
        exact this i (by omega)
      rw [wm_wo_bit _ _ (by omega), q.2, Bool.and_true] at z
      exact z
    have hkd : ∀ i, i < n → cb_gI M2 68 0 i = V.kd i := fun i hi => by
      rw [hF2.1 68 0 i rfl, hV]
      exact (wn_tr_lt hi).symm
    have inner : ∀ i, i < n → (∀ v, cb_Gd cb_tb md_X10_holds X 146 [some (cb_r 46 0), some (cb_i (sm)), some (cb_i (N)), some (cb_i ((ot ||| sm))), some (cb_i (nI i)), some (cb_i (cb_z (wq_held ph n sm i))), v] [] (cb_aS n0, f) M2 0 0) →
        ∀ j, j ≤ n → ∀ (y : Int32) (b : Bool), y = nI j → b = ((List.range j).any fun j => cb_bit sm j && wn_in ph j i) → cb_Gd cb_tb md_X10_holds X 86 [some (cb_r 46 0), some (cb_i (sm)), some (cb_i (N)), some (cb_i ((ot ||| sm))), some (cb_i (nI i)), some (cb_i (cb_z b)), some (cb_i (y))] [] (cb_aS n0, f) M2 0 0 := by
      intro i hi hout
      have hic : (nI i).toNatClampNeg = i := nI_clamp (by omega)
      have hi8 : vp_in (nI i) 8 := cb_in8 hi hn8 (by decide)
      refine cb_up (fun j => ∀ (y : Int32) (b : Bool), y = nI j → b = ((List.range j).any fun j => cb_bit sm j && wn_in ph j i) → cb_Gd cb_tb md_X10_holds X 86 [some (cb_r 46 0), some (cb_i (sm)), some (cb_i (N)), some (cb_i ((ot ||| sm))), some (cb_i (nI i)), some (cb_i (cb_z b)), some (cb_i (y))] [] (cb_aS n0, f) M2 0 0) ?_ ?_
      · intro y b hy hb
        refine cb_run cb_tb_ok vd_X10_holds (cuts := [86, 146]) 90 ?_
        refine And.intro (mi_v 1 (by decide)) (cb_lout hy e1 ?_)
        rw [hb]
        exact hout _
      · intro j hj ih y b hy hb
        subst hy
        have hjc : (nI j).toNatClampNeg = j := nI_clamp (by omega)
        have hj8 : vp_in (nI j) 8 := cb_in8 hj hn8 (by decide)
        have nx : ∀ b' : Bool, b' = (b || (cb_bit sm j && wn_in ph j i)) → cb_Gd cb_tb md_X10_holds X 86 [some (cb_r 46 0), some (cb_i (sm)), some (cb_i (N)), some (cb_i ((ot ||| sm))), some (cb_i (nI i)), some (cb_i (cb_z b')), some (cb_i (nI j + 1))] [] (cb_aS n0, f) M2 0 0 := fun b' hb' => ih _ b' (nI_1 j) (by rw [cb_any_succ, ← hb, hb'])
        refine cb_run cb_tb_ok vd_X10_holds (cuts := [86]) 90 ?_
        refine And.intro (mi_v 1 (by decide)) (cb_lin rfl e1 hj (by omega) (cb_ifnz (fun q => nx true (by rw [q]; rfl)) (fun q => ?_)))
        show (¬ (sm >>> (nI j &&& 31)) &&& 1 = 1 → _) ∧ (¬ ¬ (sm >>> (nI j &&& 31)) &&& 1 = 1 → _)
        rw [mi_sbit _ (by omega)]
        refine cb_ifn1 (fun q1 => nx false (by rw [q, q1]; rfl)) (fun q1 => And.intro hi8 (And.intro hj8 (And.intro ?_ ?_)))
        · rw [hic, hjc]
          exact ⟨hP2 i hi, hP2 j hj⟩
        · rw [hic, hjc, hpv i hi, hpv j hj]
          have es : wn_in ph j i = decide (wm_beat (wm_ap (ph i) (ph j)) = 2) := wn_in_sym (hpp j hj) (hpp i hi)
          exact cb_ifne (fun q2 => nx false (by rw [q, q1, es, decide_eq_false q2]; rfl)) (fun q2 => nx true (by rw [q, q1, es, decide_eq_true q2]; rfl))
    have loop : ∀ i, i ≤ n → ∀ (y : Int32) (v w : Option cb_V), y = nI i → (List.range i).all g = true → cb_Gd cb_tb md_X10_holds X 36 [some (cb_r 46 0), some (cb_i (sm)), some (cb_i (N)), some (cb_i ((ot ||| sm))), some (cb_i (y)), v, w] [] (cb_aS n0, f) M2 0 0 := by
      refine cb_up (fun i => ∀ (y : Int32) (v w : Option cb_V), y = nI i → (List.range i).all g = true → cb_Gd cb_tb md_X10_holds X 36 [some (cb_r 46 0), some (cb_i (sm)), some (cb_i (N)), some (cb_i ((ot ||| sm))), some (cb_i (y)), v, w] [] (cb_aS n0, f) M2 0 0) ?_ ?_
      · intro y v w hy hz
        refine cb_run cb_tb_ok vd_X10_holds (cuts := [36]) 90 ?_
        refine And.intro (mi_v 1 (by decide)) (cb_lout hy e1 (And.intro cb_rt1 ?_))
        rw [hz] at h
        exact h
      · intro i hi ih y v w hy hz
        subst hy
        have hic : (nI i).toNatClampNeg = i := nI_clamp (by omega)
        have hi8 : vp_in (nI i) 8 := cb_in8 hi hn8 (by decide)
        have nx : ∀ v w, g i = true → cb_Gd cb_tb md_X10_holds X 153 [some (cb_r 46 0), some (cb_i (sm)), some (cb_i (N)), some (cb_i ((ot ||| sm))), some (cb_i (nI i)), v, w] [] (cb_aS n0, f) M2 0 0 := fun v w q => by
          refine cb_run cb_tb_ok vd_X10_holds (cuts := [36]) 90 ?_
          exact ih _ _ _ (nI_1 i) (by rw [cb_all_succ, hz, q]; rfl)
        have skip : (cb_bit ot i && decide (¬ V.kd i = 2)) = false → g i = true := fun q => by
          rw [hg]
          show (!(cb_bit ot i && decide (¬ V.kd i = 2)) || _) = true
          rw [q]
          rfl
        refine cb_run cb_tb_ok vd_X10_holds (cuts := [36, 86, 153]) 90 ?_
        refine And.intro (mi_v 1 (by decide)) (cb_lin rfl e1 hi (by omega) ?_)
        show (((ot ||| sm) >>> (nI i &&& 31)) &&& 1 = 0 → _) ∧ (¬ ((ot ||| sm) >>> (nI i &&& 31)) &&& 1 = 0 → _)
        rw [mi_sbit _ (by omega), cb_bit_or]
        refine cb_ifz (fun q => nx _ _ (skip ?_)) (fun q => ?_)
        · rw [Bool.or_eq_false_iff] at q
          rw [q.1]
          rfl
        · show ((sm >>> (nI i &&& 31)) &&& 1 = 1 → _) ∧ (¬ (sm >>> (nI i &&& 31)) &&& 1 = 1 → _)
          rw [mi_sbit _ (by omega)]
          refine And.intro (fun q1 => nx _ _ (skip ?_)) (fun q1 => And.intro hi8 (cb_ifne (fun q2 => ?_) (fun q2 => nx _ _ (skip ?_))))
          · cases z : cb_bit ot i with
            | false => rfl
            | true =>
              rw [disj i hi z] at q1
              exact absurd q1 (by decide)
          · have q2 : ¬ cb_gI M2 68 0 (nI i).toNatClampNeg = 2 := q2
            rw [hic, hkd i hi] at q2
            have q3 : cb_bit sm i = false := by
              cases z : cb_bit sm i with
              | false => rfl
              | true => rw [z] at q1; exact absurd rfl q1
            rw [q3, Bool.or_false] at q
            have eg : g i = wq_held ph n sm i := by
              rw [hg]
              show (!(cb_bit ot i && decide (¬ V.kd i = 2)) || _) = _
              rw [q, decide_eq_true q2]
              rfl
            refine inner i hi (fun v => ?_) 0 (Nat.zero_le _) _ false rfl rfl
            refine cb_run cb_tb_ok vd_X10_holds (cuts := [36, 153]) 90 ?_
            refine cb_ifnz (fun q4 => nx _ _ (eg.trans q4)) (fun q4 => And.intro cb_rt0 ?_)
            rw [cb_all_miss hi (eg.trans q4)] at h
            exact h
          · rw [hic, hkd i hi] at q2
            rw [decide_eq_false (fun w => w q2), Bool.and_false]
    exact loop 0 (Nat.zero_le _) _ _ _ rfl rfl
theorem wm_wo_gt : ∀ so, so < 256 → ∀ j, j < 256 → so < j → ¬ wm_wo (nI j) (nI so) = 0 := by decide +kernel
theorem wq_hold_more {so : Nat} (hso : so < 256) {ok : Int32 → Bool} : ∀ d, so + d < 256 → wq_hold (nI so) ok (so + d) = wq_hold (nI so) ok so
  | 0, _ => rfl
  | d + 1, h => by
    show wq_hstep (nI so) ok (nI (so + d + 1)) (wq_hold (nI so) ok (so + d)) = _
    rw [wq_hold_more hso d (by omega)]
    unfold wq_hstep
    rw [if_pos (Or.inl (wm_wo_gt so hso _ (by omega) (by omega)))]
theorem wm_bc_lt : ∀ c, c < 256 → ¬ (9 : Int32) ≤ wm_bc (nI c) := by decide +kernel
def sp_X10_hold : cb_Sp := fun _ r M K => match r with
  | [.inl N] => ∃ n h nb, mi_I M n h nb ∧ wg_r 1 100 N (mT 1 M K) fun k => mR (vq_hold (mv M n h nb) k) M K
  | _ => False
def pt_X10_hold : cb_PT := cb_m 46 1 sp_X10_hold
theorem rc_X10_hold : cb_rc cb_tb RX10 pt_X10_hold := cb_m_rc rfl rfl
def md_X10_hold : cb_D := (RX10, cX10_hold, 4, (some .int), (0, 0, 7, 160), [
  (0, .aload_n 0, 1, 0, 0, 0, 0),
  (1, .iconst 0, 1, 0, 0, 0, 0),
  (2, .putfield 126, 3, 0, 10, 0, 1328),
  (5, .aload_n 0, 1, 0, 0, 0, 0),
  (6, .iload_n 1, 1, 0, 1, 0, 0),
  (7, .invokestatic 295, 3, 0, 0, 0, 0),
  (10, .ifCond .ne 7, 3, 0, 17, 0, 0),
  (13, .iconst 1, 1, 1, 0, 0, 0),
  (14, .goto 4, 3, 0, 18, 0, 0),
  (17, .iconst 0, 1, 0, 0, 0, 0),
  (18, .iconst 1, 1, 1, 0, 0, 0),
  (19, .invokevirtual 200, 3, 0, 1, 0, 0),
  (22, .ifCond .eq 5, 3, 0, 27, 0, 0),
  (25, .iconst 0, 1, 0, 0, 0, 0),
  (26, .ireturn, 1, 0, 0, 0, 0),
  (27, .iconst (-1), 1, (-1), 0, 0, 0),
  (28, .istore_n 2, 1, 0, 2, 0, 0),
  (29, .iconst 1, 1, 1, 0, 0, 0),
  (30, .istore_n 3, 1, 0, 3, 0, 0),
  (31, .iload_n 3, 1, 0, 3, 0, 0),
  (32, .aload_n 0, 1, 0, 0, 0, 0),
  (33, .invokevirtual 308, 3, 0, 2, 0, 0),
  (36, .if_icmp .gt 56, 3, 0, 92, 0, 0),
  (39, .iload_n 3, 1, 0, 3, 0, 0),
  (40, .aload_n 0, 1, 0, 0, 0, 0),
  (41, .getfield 20, 3, 0, 10, 10, 1338),
  (44, .iconst 4, 1, 4, 0, 0, 0),
  (45, .iaload, 1, 0, 0, 0, 0),
  (46, .iconst (-1), 1, (-1), 0, 0, 0),
  (47, .ixor, 1, 0, 0, 0, 0),
  (48, .iand, 1, 0, 0, 0, 0),
  (49, .ifCond .ne 37, 3, 0, 86, 0, 0),
  (52, .iload_n 2, 1, 0, 2, 0, 0),
  (53, .iconst (-1), 1, (-1), 0, 0, 0),
  (54, .if_icmp .eq 17, 3, 0, 71, 0, 0),
  (57, .iload_n 3, 1, 0, 3, 0, 0),
  (58, .invokestatic 314, 3, 0, 3, 0, 0),
  (61, .iload_n 2, 1, 0, 2, 0, 0),
  (62, .invokestatic 314, 3, 0, 3, 0, 0),
  (65, .if_icmp .lt 6, 3, 0, 71, 0, 0),
  (68, .goto 18, 3, 0, 86, 0, 0),
  (71, .aload_n 0, 1, 0, 0, 0, 0),
  (72, .iload_n 3, 1, 0, 3, 0, 0),
  (73, .iload_n 1, 1, 0, 1, 0, 0),
  (74, .invokevirtual 317, 3, 0, 4, 0, 0),
  (77, .ifCond .eq 7, 3, 0, 84, 0, 0),
  (80, .iload_n 3, 1, 0, 3, 0, 0),
  (81, .goto 4, 3, 0, 85, 0, 0),
  (84, .iload_n 2, 1, 0, 2, 0, 0),
  (85, .istore_n 2, 1, 0, 2, 0, 0),
  (86, .iinc 3 1, 3, 1, 3, 0, 0),
  (89, .goto (-58), 3, 0, 31, 0, 0),
  (92, .iload_n 2, 1, 0, 2, 0, 0),
  (93, .ireturn, 1, 0, 0, 0, 0)],
  [(1, 295, 1, 0, 0, pt_X10_areDays), (0, 200, 3, 0, 0, pt_X10_bad), (0, 308, 1, 0, 0, pt_X10_all), (1, 314, 1, 0, 0, pt_X10_ones), (0, 317, 3, 0, 0, pt_X10_holds)], [])
set_option maxRecDepth 100000 in
theorem vd_X10_hold : md_X10_hold.cd.all (cb_vE md_X10_hold) = true := by decide +kernel
theorem wd_X10_hold : cb_wd yX10_hold md_X10_hold := ⟨cb_tw (i := 1752) (by decide +kernel), cb_tw (i := 11) (by decide +kernel), by decide, by decide⟩
theorem cs_X10_hold : ∀ X, cb_Bs md_X10_hold X → ∀ g ∈ md_X10_hold.ga, cb_CS cb_tb md_X10_hold X g := fun X B => List.forall_mem_cons.mpr ⟨cb_csS B ok_X10_areDays wd_X10_areDays (cb_tw (i := 1702) (by decide +kernel)) (cb_tw (i := 1703) (by decide +kernel)) ⟨by decide, by decide⟩ (by decide +kernel), List.forall_mem_cons.mpr ⟨cb_csV B ok_X10_bad wd_X10_bad (cb_tw (i := 1507) (by decide +kernel)) (cb_tw (i := 1509) (by decide +kernel)) (cb_tp (i := 45) (by decide +kernel)) rc_X10_bad ⟨by decide, by decide⟩ (by decide +kernel), List.forall_mem_cons.mpr ⟨cb_csV B ok_X10_all wd_X10_all (cb_tw (i := 1741) (by decide +kernel)) (cb_tw (i := 1743) (by decide +kernel)) (cb_tp (i := 78) (by decide +kernel)) rc_X10_all ⟨by decide, by decide⟩ (by decide +kernel), List.forall_mem_cons.mpr ⟨cb_csS B ok_X10_ones wd_X10_ones (cb_tw (i := 1753) (by decide +kernel)) (cb_tw (i := 1754) (by decide +kernel)) ⟨by decide, by decide⟩ (by decide +kernel), List.forall_mem_cons.mpr ⟨cb_csV B ok_X10_holds wd_X10_holds (cb_tw (i := 1756) (by decide +kernel)) (cb_tw (i := 1758) (by decide +kernel)) (cb_tp (i := 80) (by decide +kernel)) rc_X10_holds ⟨by decide, by decide⟩ (by decide +kernel), fun _ h => nomatch h⟩⟩⟩⟩⟩
theorem ok_X10_hold : cb_MOK cb_tb yX10_hold md_X10_hold pt_X10_hold := by
  refine cb_okm ⟨plainFor_of_name (by decide), rfl⟩ (by decide) cs_X10_hold (by decide) (fun X n0 f i r M hr ha h => ?_)
  have h0 := cb_a1 (T := 46) rfl ha
  subst h0
  match r, hr, h with
  | [.inl N], hr, h =>
    obtain ⟨n, hh, nb, hI, h⟩ := h
    obtain ⟨hG, -, hp, -, ⟨so, hso, hsoe⟩, -⟩ := id hI
    obtain ⟨hn1, hn8, -⟩ := id hG
    have hp8 : 2 ^ n ≤ 2 ^ 8 := Nat.pow_le_pow_right (by omega) hn8
    have hp1 : 1 ≤ 2 ^ n := Nat.one_le_two_pow
    refine cb_run cb_tb_ok vd_X10_hold (cuts := [31]) 90 ?_
    refine And.intro trivial (cb_ifnz (fun q => And.intro (cb_on rfl) (bad_f rfl (by decide) (ez_f ?_))) (fun q => And.intro (cb_on rfl) (bad_t rfl (by decide) (ez_t (And.intro trivial (h.1 (mi_in_f q) _ (mx2 M 1) rfl))))))
    obtain ⟨k, k1, k2, ke⟩ := mi_in_yes (lo := 1) (hi := 100) (by decide) (by decide) q
    have h := h.2 k k1 k2 ke
    obtain ⟨V, hV⟩ : ∃ V, V = mv M n hh nb := ⟨_, rfl⟩
    have hVn : V.n = n := by rw [hV]; rfl
    have hVs : V.so = nI so := by rw [hV]; exact hsoe
    rw [← hV] at h
    obtain ⟨ok, hok⟩ : ∃ ok, ok = vq_hok V k (wm_wo (wm_all (nI n)) V.so) := ⟨_, rfl⟩
    have hfin : vq_hold V k = (wq_hold (nI so) ok (2 ^ n - 1)).1 := by
      unfold vq_hold
      rw [hVn, ← hok, hVs, nI_clamp (by omega), show 2 ^ n - 1 = so + (2 ^ n - 1 - so) by omega, wq_hold_more (by omega) _ (by omega)]
    rw [hfin] at h
    have loop : ∀ j, j ≤ 2 ^ n - 1 → ∀ (y b : Int32) (M2 : cb_M), y = nI (j + 1) → b = (wq_hold (nI so) ok j).1 → ((b = -1 ∧ (wq_hold (nI so) ok j).2 = 9) ∨ ∃ c, c < 256 ∧ b = nI c ∧ (wq_hold (nI so) ok j).2 = wm_bc (nI c)) → cb_fr fr_X M M2 → cb_gI M2 46 0 0 = 0 → cb_Gd cb_tb md_X10_hold X 31 [some (cb_r 46 0), some (cb_i (N)), some (cb_i (b)), some (cb_i (y))] [] (cb_aS n0, f) M2 0 0 := by
      refine cb_up (fun j => ∀ (y b : Int32) (M2 : cb_M), y = nI (j + 1) → b = (wq_hold (nI so) ok j).1 → ((b = -1 ∧ (wq_hold (nI so) ok j).2 = 9) ∨ ∃ c, c < 256 ∧ b = nI c ∧ (wq_hold (nI so) ok j).2 = wm_bc (nI c)) → cb_fr fr_X M M2 → cb_gI M2 46 0 0 = 0 → cb_Gd cb_tb md_X10_hold X 31 [some (cb_r 46 0), some (cb_i (N)), some (cb_i (b)), some (cb_i (y))] [] (cb_aS n0, f) M2 0 0) ?_ ?_
      · intro y b M2 hy hb _ hF h0
        have ea : wm_all (cb_gI M2 49 0 1) = nI (2 ^ n - 1) := by rw [hF.1 49 0 1 rfl, hn1]; exact wm_all_val n hn8
        refine cb_run cb_tb_ok vd_X10_hold (cuts := [31]) 90 ?_
        refine And.intro (cb_on rfl) (And.intro (fun _ => And.intro trivial (cb_eqK (h M2 hF h0) hb)) (fun q => ?_))
        have q : ¬ wm_all (cb_gI M2 49 0 1) < y := q
        rw [ea, hy] at q
        exact absurd (nI_lt (by omega) (by omega)) q
      · intro j hj ih y b M2 hy hb hinv hF h0
        have ea : wm_all (cb_gI M2 49 0 1) = nI (2 ^ n - 1) := by rw [hF.1 49 0 1 rfl, hn1]; exact wm_all_val n hn8
        have e4 : cb_gI M2 49 0 4 = nI so := (hF.1 49 0 4 rfl).trans hsoe
        have hI2 := mi_I_X hF hI
        have skip : (¬ wm_wo (nI (j + 1)) (nI so) = 0 ∨ (wq_hold (nI so) ok j).2 ≤ wm_bc (nI (j + 1))) → cb_Gd cb_tb md_X10_hold X 86 [some (cb_r 46 0), some (cb_i (N)), some (cb_i (b)), some (cb_i (y))] [] (cb_aS n0, f) M2 0 0 := fun w => by
          have es : wq_hold (nI so) ok (j + 1) = wq_hold (nI so) ok j := by
            show wq_hstep (nI so) ok (nI (j + 1)) (wq_hold (nI so) ok j) = _
            unfold wq_hstep
            rw [if_pos w]
          refine cb_run cb_tb_ok vd_X10_hold (cuts := [31]) 90 ?_
          exact ih _ _ M2 (by rw [hy, nI_1]) (by rw [es]; exact hb) (by rw [es]; exact hinv) hF h0
        have try_ : wm_wo (nI (j + 1)) (nI so) = 0 → ¬ (wq_hold (nI so) ok j).2 ≤ wm_bc (nI (j + 1)) → cb_Gd cb_tb md_X10_hold X 71 [some (cb_r 46 0), some (cb_i (N)), some (cb_i (b)), some (cb_i (y))] [] (cb_aS n0, f) M2 0 0 := fun w1 w2 => by
          have es : wq_hold (nI so) ok (j + 1) = if ok (nI (j + 1)) = true then (nI (j + 1), wm_bc (nI (j + 1))) else wq_hold (nI so) ok j := by
            show wq_hstep (nI so) ok (nI (j + 1)) (wq_hold (nI so) ok j) = _
            unfold wq_hstep
            rw [if_neg (fun w => w.elim (fun w => w w1) w2)]
          refine cb_run cb_tb_ok vd_X10_hold (cuts := [31]) 90 ?_
          refine And.intro (cb_on rfl) ⟨n, hh, nb, k, ⟨hI2, by rw [e4, hy]; exact w1, ke, by omega⟩, fun M3 hF3 h03 => ?_⟩
          rw [mv_X hF, ← hV, ← hok, hy]
          refine cb_ifz (fun q => ?_) (fun q => ?_)
          · rw [if_neg (by rw [q]; decide)] at es
            exact ih _ _ M3 (by rw [nI_1]) (by rw [es]; exact hb) (by rw [es]; exact hinv) (hF.trans hF3) (h03.trans h0)
          · rw [if_pos q] at es
            exact ih _ _ M3 (by rw [nI_1]) (by rw [es]) (Or.inr ⟨j + 1, by omega, rfl, by rw [es]⟩) (hF.trans hF3) (h03.trans h0)
        refine cb_run cb_tb_ok vd_X10_hold (cuts := [31, 71, 86]) 90 ?_
        refine And.intro (cb_on rfl) (And.intro (fun q => ?_) (fun q => And.intro (mi_v 4 (by decide)) ?_))
        · have q : wm_all (cb_gI M2 49 0 1) < y := q
          rw [ea, hy] at q
          exact absurd q (nI_nlt (by omega) (by omega))
        · show (¬ y &&& (cb_gI M2 49 0 4 ^^^ (-1)) = 0 → _) ∧ (¬ ¬ y &&& (cb_gI M2 49 0 4 ^^^ (-1)) = 0 → _)
          rw [e4, hy]
          rw [hy] at skip try_
          refine cb_ifne (fun q1 => skip (Or.inl q1)) (fun q1 => And.intro (fun q2 => ?_) (fun q2 => And.intro trivial (And.intro trivial ?_)))
          · have q2 : b = -1 := q2
            rcases hinv with ⟨-, e9⟩ | ⟨c, hc, e, -⟩
            · exact try_ q1 (by rw [e9]; exact wm_bc_lt _ (by omega))
            · rw [e] at q2
              exact absurd (show nI c < 0 by rw [q2]; decide) (nI_pos (by omega))
          · have q2 : ¬ b = -1 := q2
            rcases hinv with ⟨e, -⟩ | ⟨c, hc, e, e9⟩
            · exact absurd e q2
            · rw [e, mi_ones_bc _ (by omega), mi_ones_bc c hc]
              rw [e] at skip try_
              refine And.intro (fun q3 => try_ q1 ?_) (fun q3 => skip (Or.inr ?_))
              · rw [e9]
                exact Int32.not_le.mpr q3
              · rw [e9]
                exact Int32.not_lt.mp q3
    exact loop 0 (Nat.zero_le _) _ _ _ rfl rfl (Or.inl ⟨rfl, rfl⟩) (mx1 M) rfl
