/-! ===== the reference: hung ===== -/
def sp_X10_hung : cb_Sp := fun _ r M K => match r with
  | [.inl those, .inl N, .inl what] => ∃ n h nb, (mi_I M n h nb ∧ ∀ i, i < n → ∃ c, c ≤ 20 ∧ cb_gI M 67 0 i = nI c) ∧ ((mi_in those 1 (wm_all (nI n)) = false ∨ 4 < mi_ones those ∨ mi_in N 1 100 = false ∨ mi_in what 0 2 = false) → mT 1 M K) ∧ (mi_in those 1 (wm_all (nI n)) = true → ¬ 4 < mi_ones those → ∀ k, 1 ≤ k → k ≤ 100 → N = nI k → mi_in what 0 2 = true → mR (vq_hung (mv M n h nb) those what k) M K)
  | _ => False
theorem wq_bits_ones : ∀ c, c < 256 → ∀ n, n ≤ 8 → nI c ≤ wm_all (nI n) → nI (wq_bits (nI c) n).length = mi_ones (nI c) := by decide +kernel
def pt_X10_hung : cb_PT := cb_m 46 3 sp_X10_hung
theorem rc_X10_hung : cb_rc cb_tb RX10 pt_X10_hung := cb_m_rc rfl rfl
def md_X10_hung : cb_D := (RX10, cX10_hung, 4, (some .int), (0, 0, 11, 269), [
  (0, .aload_n 0, 1, 0, 0, 0, 0),
  (1, .iconst 0, 1, 0, 0, 0, 0),
  (2, .putfield 126, 3, 0, 10, 0, 1328),
  (5, .aload_n 0, 1, 0, 0, 0, 0),
  (6, .iload_n 1, 1, 0, 1, 0, 0),
  (7, .iconst 1, 1, 1, 0, 0, 0),
  (8, .aload_n 0, 1, 0, 0, 0, 0),
  (9, .invokevirtual 308, 3, 0, 0, 0, 0),
  (12, .invokestatic 160, 3, 0, 1, 0, 0),
  (15, .ifCond .eq 27, 3, 0, 42, 0, 0),
  (18, .iload_n 1, 1, 0, 1, 0, 0),
  (19, .invokestatic 314, 3, 0, 2, 0, 0),
  (22, .iconst 4, 1, 4, 0, 0, 0),
  (23, .if_icmp .gt 19, 3, 0, 42, 0, 0),
  (26, .iload_n 2, 1, 0, 2, 0, 0),
  (27, .invokestatic 295, 3, 0, 3, 0, 0),
  (30, .ifCond .eq 12, 3, 0, 42, 0, 0),
  (33, .iload_n 3, 1, 0, 3, 0, 0),
  (34, .iconst 0, 1, 0, 0, 0, 0),
  (35, .iconst 2, 1, 2, 0, 0, 0),
  (36, .invokestatic 160, 3, 0, 1, 0, 0),
  (39, .ifCond .ne 7, 3, 0, 46, 0, 0),
  (42, .iconst 1, 1, 1, 0, 0, 0),
  (43, .goto 4, 3, 0, 47, 0, 0),
  (46, .iconst 0, 1, 0, 0, 0, 0),
  (47, .iconst 1, 1, 1, 0, 0, 0),
  (48, .invokevirtual 200, 3, 0, 4, 0, 0),
  (51, .ifCond .eq 5, 3, 0, 56, 0, 0),
  (54, .iconst 0, 1, 0, 0, 0, 0),
  (55, .ireturn, 1, 0, 0, 0, 0),
  (56, .aload_n 0, 1, 0, 0, 0, 0),
  (57, .iconst (-1), 1, (-1), 0, 0, 0),
  (58, .putfield 320, 3, 0, 10, 48, 1376),
  (61, .aload_n 0, 1, 0, 0, 0, 0),
  (62, .iconst (-1), 1, (-1), 0, 0, 0),
  (63, .putfield 323, 3, 0, 10, 49, 1377),
  (66, .aload_n 0, 1, 0, 0, 0, 0),
  (67, .iconst (-1), 1, (-1), 0, 0, 0),
  (68, .putfield 329, 3, 0, 10, 50, 1378),
  (71, .aload_n 0, 1, 0, 0, 0, 0),
  (72, .iload_n 1, 1, 0, 1, 0, 0),
  (73, .iconst 0, 1, 0, 0, 0, 0),
  (74, .iconst 0, 1, 0, 0, 0, 0),
  (75, .iconst 0, 1, 0, 0, 0, 0),
  (76, .iload_n 2, 1, 0, 2, 0, 0),
  (77, .invokevirtual 332, 3, 0, 5, 0, 0),
  (80, .iload_n 3, 1, 0, 3, 0, 0),
  (81, .ifCond .ne 10, 3, 0, 91, 0, 0),
  (84, .aload_n 0, 1, 0, 0, 0, 0),
  (85, .getfield 320, 3, 0, 10, 48, 1376),
  (88, .goto 19, 3, 0, 107, 0, 0),
  (91, .iload_n 3, 1, 0, 3, 0, 0),
  (92, .iconst 1, 1, 1, 0, 0, 0),
  (93, .if_icmp .ne 10, 3, 0, 103, 0, 0),
  (96, .aload_n 0, 1, 0, 0, 0, 0),
  (97, .getfield 323, 3, 0, 10, 49, 1377),
  (100, .goto 7, 3, 0, 107, 0, 0),
  (103, .aload_n 0, 1, 0, 0, 0, 0),
  (104, .getfield 329, 3, 0, 10, 50, 1378),
  (107, .ireturn, 1, 0, 0, 0, 0)],
  [(0, 308, 1, 0, 0, pt_X10_all), (1, 160, 3, 0, 0, pt_X10_in), (1, 314, 1, 0, 0, pt_X10_ones), (1, 295, 1, 0, 0, pt_X10_areDays), (0, 200, 3, 0, 0, pt_X10_bad), (0, 332, 6, 0, 0, pt_X10_tries4)], [])
set_option maxRecDepth 100000 in
theorem vd_X10_hung : md_X10_hung.cd.all (cb_vE md_X10_hung) = true := by decide +kernel
theorem wd_X10_hung : cb_wd yX10_hung md_X10_hung := ⟨cb_tw (i := 1763) (by decide +kernel), cb_tw (i := 11) (by decide +kernel), by decide, by decide⟩
theorem cs_X10_hung : ∀ X, cb_Bs md_X10_hung X → ∀ g ∈ md_X10_hung.ga, cb_CS cb_tb md_X10_hung X g := fun X B => List.forall_mem_cons.mpr ⟨cb_csV B ok_X10_all wd_X10_all (cb_tw (i := 1741) (by decide +kernel)) (cb_tw (i := 1743) (by decide +kernel)) (cb_tp (i := 78) (by decide +kernel)) rc_X10_all ⟨by decide, by decide⟩ (by decide +kernel), List.forall_mem_cons.mpr ⟨cb_csS B ok_X10_in wd_X10_in (cb_tw (i := 1504) (by decide +kernel)) (cb_tw (i := 1505) (by decide +kernel)) ⟨by decide, by decide⟩ (by decide +kernel), List.forall_mem_cons.mpr ⟨cb_csS B ok_X10_ones wd_X10_ones (cb_tw (i := 1753) (by decide +kernel)) (cb_tw (i := 1754) (by decide +kernel)) ⟨by decide, by decide⟩ (by decide +kernel), List.forall_mem_cons.mpr ⟨cb_csS B ok_X10_areDays wd_X10_areDays (cb_tw (i := 1702) (by decide +kernel)) (cb_tw (i := 1703) (by decide +kernel)) ⟨by decide, by decide⟩ (by decide +kernel), List.forall_mem_cons.mpr ⟨cb_csV B ok_X10_bad wd_X10_bad (cb_tw (i := 1507) (by decide +kernel)) (cb_tw (i := 1509) (by decide +kernel)) (cb_tp (i := 45) (by decide +kernel)) rc_X10_bad ⟨by decide, by decide⟩ (by decide +kernel), List.forall_mem_cons.mpr ⟨cb_csV B ok_X10_tries4 wd_X10_tries4 (cb_tw (i := 1764) (by decide +kernel)) (cb_tw (i := 1766) (by decide +kernel)) (cb_tp (i := 81) (by decide +kernel)) rc_X10_tries4 ⟨by decide, by decide⟩ (by decide +kernel), fun _ h => nomatch h⟩⟩⟩⟩⟩⟩
theorem ok_X10_hung : cb_MOK cb_tb yX10_hung md_X10_hung pt_X10_hung := by
  refine cb_okm ⟨plainFor_of_name (by decide), rfl⟩ (by decide) cs_X10_hung (by decide) (fun X n0 f i r M hr ha h => ?_)
  have h0 := cb_a1 (T := 46) rfl ha
  subst h0
  match r, hr, h with
  | [.inl those, .inl N, .inl what], hr, h =>
    obtain ⟨n, hh, nb, ⟨hI, hw⟩, he, h⟩ := h
    obtain ⟨hG, ⟨hh1, hh6, -⟩, -⟩ := id hI
    obtain ⟨hn1, hn8, -⟩ := id hG
    have e0 : ∀ Z : Prop, (Z → mi_in those 1 (wm_all (nI n)) = false ∨ 4 < mi_ones those ∨ mi_in N 1 100 = false ∨ mi_in what 0 2 = false) → Z → mT 1 M (fun v M' => X.K (.inl v) (cb_aS n0, f) M') := fun Z z q => he (z q)
    refine cb_run cb_tb_ok vd_X10_hung (cuts := []) 90 ?_
    refine And.intro (cb_on rfl) (cb_ifz (fun q => And.intro (cb_on rfl) (bad_t rfl (by decide) (ez_t (And.intro trivial (he (Or.inl ?_) _ (mx2 M 1) rfl))))) (fun q => And.intro trivial (And.intro (fun q1 => And.intro (cb_on rfl) (bad_t rfl (by decide) (ez_t (And.intro trivial (he (Or.inr (Or.inl q1)) _ (mx2 M 1) rfl))))) (fun q1 => And.intro trivial (cb_ifz (fun q2 => And.intro (cb_on rfl) (bad_t rfl (by decide) (ez_t (And.intro trivial (he (Or.inr (Or.inr (Or.inl q2))) _ (mx2 M 1) rfl))))) (fun q2 => cb_ifnz (fun q3 => And.intro (cb_on rfl) (bad_f rfl (by decide) (ez_f ?_))) (fun q3 => And.intro (cb_on rfl) (bad_t rfl (by decide) (ez_t (And.intro trivial (he (Or.inr (Or.inr (Or.inr q3))) _ (mx2 M 1) rfl)))))))))))
    · have q : mi_in those 1 (wm_all (cb_gI M 49 0 1)) = false := q
      rw [hn1] at q
      exact q
    · have q : mi_in those 1 (wm_all (cb_gI M 49 0 1)) = true := q
      rw [hn1] at q
      obtain ⟨k, k1, k2, ke⟩ := mi_in_yes (lo := 1) (hi := 100) (by decide) (by decide) q2
      have hp8 : 2 ^ n ≤ 2 ^ 8 := Nat.pow_le_pow_right (by omega) hn8
      have hp1 : 1 ≤ 2 ^ n := Nat.one_le_two_pow
      have h := h q q1 k k1 k2 ke q3
      have ev := wm_all_val n hn8
      have qn := mi_in_t q
      rw [ev] at qn
      obtain ⟨c, c1, c2, ce⟩ := wg_r_yes (lo := 1) (hi := 2 ^ n) (x := those) (by omega) (fun w => qn (w.imp id (fun w => Int32.lt_of_le_of_lt (nI_le (by omega) (by omega)) w))) (by omega)
      have c3 : c ≤ 2 ^ n - 1 := by
        apply Classical.byContradiction
        intro w
        exact qn (Or.inr (by rw [ce]; exact nI_lt (by omega) (by omega)))
      have hlen := wq_bits_ones c (by omega) n hn8 (by rw [ev]; exact nI_le c3 (by omega))
      rw [← ce] at hlen
      have hl8 : (wq_bits those n).length ≤ 8 := by
        unfold wq_bits
        exact Nat.le_trans (List.length_filter_le _ _) (by rw [List.length_range]; exact hn8)
      have hl4 : (wq_bits those n).length ≤ 4 := by
        apply Classical.byContradiction
        intro w
        refine q1 ?_
        show (4 : Int32) < mi_ones those
        rw [← hlen]
        exact nI_lt (a := 4) (by omega) (by omega)
      obtain ⟨V, hV⟩ : ∃ V, V = mv M n hh nb := ⟨_, rfl⟩
      have hVn : V.n = n := by rw [hV]; rfl
      have hVh : V.h = hh := by rw [hV]; rfl
      rw [← hV] at h
      have h3 : what = 0 ∨ what = 1 ∨ what = 2 := by
        obtain ⟨z, hz, e⟩ := mi_what (hi := 2) (by decide) (mi_in_t q3)
        rw [e]
        rcases (show z = 0 ∨ z = 1 ∨ z = 2 by omega) with rfl | rfl | rfl
        · exact Or.inl rfl
        · exact Or.inr (Or.inl rfl)
        · exact Or.inr (Or.inr rfl)
      have hH := mt_hung (V := V) (those := those) (what := what) (k := k) (by omega) (by omega) (by rw [hVn]; exact hl4) (fun i hi => by
        obtain ⟨c, hc, e⟩ := hw i (by omega)
        refine ⟨c, hc, ?_⟩
        rw [hV]
        exact (wn_tr_lt (by omega)).trans e) h3
      rw [hH] at h
      have hX1 : cb_fr fr_X M (cb_sI (cb_sI (cb_sI (cb_sI M 46 0 0 0) 46 0 48 (-1)) 46 0 49 (-1)) 46 0 50 (-1)) := (((mx1 M).set _ rfl).set _ rfl).set _ rfl
      refine And.intro (cb_on rfl) ⟨M, n, hh, nb, k, V.bd, V.pl, V.hb, V.hp, 0, 0, ⟨hX1.mono fr_X_J, mi_I_X hX1 hI, fun i hi => ?_, fun l hl => ?_, rfl, Nat.zero_le _, rfl, ke, by omega, by rw [mt_L_0]; exact hl4⟩, fun M2 hF2 h02 hg2 => ?_⟩
      · rw [hV]
        exact ⟨(wn_tr_lt hi).symm, (wn_tr_lt hi).symm⟩
      · rw [hV]
        exact ⟨(wn_tr_lt hl).symm, (wn_tr_lt hl).symm⟩
      · have hK := h M2 (hX1.trans hF2) h02
        rw [mt_L_0, ← hV] at hg2
        have hg2 : mt_g M2 = mt_dfs V those k (wq_bits those V.n) 0 0 V.bd V.pl V.hb V.hp (-1, -1, -1) := by rw [hVn]; exact hg2
        rw [← hg2] at hK
        unfold mt_pick mt_g at hK
        refine cb_ifne (fun q => cb_ifne (fun q1 => And.intro trivial ?_) (fun q1 => And.intro trivial ?_)) (fun q => And.intro trivial ?_)
        · rw [if_neg q, if_neg q1] at hK
          exact hK
        · rw [if_neg q, if_pos q1] at hK
          exact hK
        · rw [if_pos q] at hK
          exact hK
