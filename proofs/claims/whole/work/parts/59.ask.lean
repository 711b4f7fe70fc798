/-! ===== the reference: standing, pushed ===== -/
def sp_X10_standing : cb_Sp := fun _ r M K => match r with
  | [.inl N] => ∃ n h nb, mi_I M n h nb ∧ wg_r 1 100 N (mT 1 M K) fun k => mR (cb_z (vq_std (mv M n h nb) k)) M K
  | _ => False
def pt_X10_standing : cb_PT := cb_m 46 1 sp_X10_standing
theorem rc_X10_standing : cb_rc cb_tb RX10 pt_X10_standing := cb_m_rc rfl rfl
def md_X10_standing : cb_D := (RX10, cX10_standing, 4, (some .boolean), (0, 0, 6, 134), [
  (0, .aload_n 0, 1, 0, 0, 0, 0),
  (1, .iconst 0, 1, 0, 0, 0, 0),
  (2, .putfield 126, 3, 0, 10, 0, 1328),
  (5, .aload_n 0, 1, 0, 0, 0, 0),
  (6, .iload_n 1, 1, 0, 1, 0, 0),
  (7, .invokestatic 295, 3, 0, 0, 0, 0),
  (10, .ifCond .ne 7, 3, 0, 17, 0, 0),
  (13, .iconst 1, 1, 1, 0, 0, 0),
  (14, .goto 4, 3, 0, 18, 0, 0),
  (17, .iconst 0, 1, 0, 0, 0, 0),
  (18, .iconst 1, 1, 1, 0, 0, 0),
  (19, .invokevirtual 200, 3, 0, 1, 0, 0),
  (22, .ifCond .eq 5, 3, 0, 27, 0, 0),
  (25, .iconst 0, 1, 0, 0, 0, 0),
  (26, .ireturn, 1, 0, 0, 0, 0),
  (27, .aload_n 0, 1, 0, 0, 0, 0),
  (28, .iload_n 1, 1, 0, 1, 0, 0),
  (29, .invokevirtual 276, 3, 0, 2, 0, 0),
  (32, .iconst (-1), 1, (-1), 0, 0, 0),
  (33, .istore_n 2, 1, 0, 2, 0, 0),
  (34, .iconst 0, 1, 0, 0, 0, 0),
  (35, .istore_n 3, 1, 0, 3, 0, 0),
  (36, .iload_n 3, 1, 0, 3, 0, 0),
  (37, .aload_n 0, 1, 0, 0, 0, 0),
  (38, .getfield 20, 3, 0, 10, 10, 1338),
  (41, .iconst 1, 1, 1, 0, 0, 0),
  (42, .iaload, 1, 0, 0, 0, 0),
  (43, .if_icmp .ge 70, 3, 0, 113, 0, 0),
  (46, .aload_n 0, 1, 0, 0, 0, 0),
  (47, .iload_n 3, 1, 0, 3, 0, 0),
  (48, .aload_n 0, 1, 0, 0, 0, 0),
  (49, .getfield 223, 3, 0, 10, 42, 1370),
  (52, .invokevirtual 226, 3, 0, 3, 0, 0),
  (55, .ifCond .ne 6, 3, 0, 61, 0, 0),
  (58, .goto 49, 3, 0, 107, 0, 0),
  (61, .iload_n 2, 1, 0, 2, 0, 0),
  (62, .iconst (-1), 1, (-1), 0, 0, 0),
  (63, .if_icmp .ne 7, 3, 0, 70, 0, 0),
  (66, .iload_n 3, 1, 0, 3, 0, 0),
  (67, .goto 4, 3, 0, 71, 0, 0),
  (70, .iload_n 2, 1, 0, 2, 0, 0),
  (71, .istore_n 2, 1, 0, 2, 0, 0),
  (72, .aload_n 0, 1, 0, 0, 0, 0),
  (73, .getfield 94, 3, 0, 10, 37, 1365),
  (76, .iload_n 2, 1, 0, 2, 0, 0),
  (77, .iaload, 1, 0, 0, 0, 0),
  (78, .aload_n 0, 1, 0, 0, 0, 0),
  (79, .getfield 94, 3, 0, 10, 37, 1365),
  (82, .iload_n 3, 1, 0, 3, 0, 0),
  (83, .iaload, 1, 0, 0, 0, 0),
  (84, .invokestatic 236, 3, 0, 4, 0, 0),
  (87, .aload_n 0, 1, 0, 0, 0, 0),
  (88, .getfield 70, 3, 0, 10, 26, 1354),
  (91, .iload_n 2, 1, 0, 2, 0, 0),
  (92, .iaload, 1, 0, 0, 0, 0),
  (93, .aload_n 0, 1, 0, 0, 0, 0),
  (94, .getfield 70, 3, 0, 10, 26, 1354),
  (97, .iload_n 3, 1, 0, 3, 0, 0),
  (98, .iaload, 1, 0, 0, 0, 0),
  (99, .invokestatic 236, 3, 0, 4, 0, 0),
  (102, .if_icmp .eq 5, 3, 0, 107, 0, 0),
  (105, .iconst 0, 1, 0, 0, 0, 0),
  (106, .ireturn, 1, 0, 0, 0, 0),
  (107, .iinc 3 1, 3, 1, 3, 0, 0),
  (110, .goto (-74), 3, 0, 36, 0, 0),
  (113, .iconst 1, 1, 1, 0, 0, 0),
  (114, .ireturn, 1, 0, 0, 0, 0)],
  [(1, 295, 1, 0, 0, pt_X10_areDays), (0, 200, 3, 0, 0, pt_X10_bad), (0, 276, 2, 0, 0, pt_X10_goesOn), (0, 226, 3, 0, 0, pt_X10_runs), (1, 236, 2, 0, 0, pt_X10_apartBy)], [])
set_option maxRecDepth 100000 in
theorem vd_X10_standing : md_X10_standing.cd.all (cb_vE md_X10_standing) = true := by decide +kernel
theorem wd_X10_standing : cb_wd yX10_standing md_X10_standing := ⟨cb_tw (i := 1724) (by decide +kernel), cb_tw (i := 11) (by decide +kernel), by decide, by decide⟩
theorem cs_X10_standing : ∀ X, cb_Bs md_X10_standing X → ∀ g ∈ md_X10_standing.ga, cb_CS cb_tb md_X10_standing X g := fun X B => List.forall_mem_cons.mpr ⟨cb_csS B ok_X10_areDays wd_X10_areDays (cb_tw (i := 1702) (by decide +kernel)) (cb_tw (i := 1703) (by decide +kernel)) ⟨by decide, by decide⟩ (by decide +kernel), List.forall_mem_cons.mpr ⟨cb_csV B ok_X10_bad wd_X10_bad (cb_tw (i := 1507) (by decide +kernel)) (cb_tw (i := 1509) (by decide +kernel)) (cb_tp (i := 45) (by decide +kernel)) rc_X10_bad ⟨by decide, by decide⟩ (by decide +kernel), List.forall_mem_cons.mpr ⟨cb_csV B ok_X10_goesOn wd_X10_goesOn (cb_tw (i := 1646) (by decide +kernel)) (cb_tw (i := 1648) (by decide +kernel)) (cb_tp (i := 68) (by decide +kernel)) rc_X10_goesOn ⟨by decide, by decide⟩ (by decide +kernel), List.forall_mem_cons.mpr ⟨cb_csV B ok_X10_runs wd_X10_runs (cb_tw (i := 1589) (by decide +kernel)) (cb_tw (i := 1591) (by decide +kernel)) (cb_tp (i := 60) (by decide +kernel)) rc_X10_runs ⟨by decide, by decide⟩ (by decide +kernel), List.forall_mem_cons.mpr ⟨cb_csS B ok_X10_apartBy wd_X10_apartBy (cb_tw (i := 1620) (by decide +kernel)) (cb_tw (i := 1621) (by decide +kernel)) ⟨by decide, by decide⟩ (by decide +kernel), fun _ h => nomatch h⟩⟩⟩⟩⟩
theorem ok_X10_standing : cb_MOK cb_tb yX10_standing md_X10_standing pt_X10_standing := by
  refine cb_okm ⟨plainFor_of_name (by decide), rfl⟩ (by decide) cs_X10_standing (by decide) (fun X n0 f i r M hr ha h => ?_)
  have h0 := cb_a1 (T := 46) rfl ha
  subst h0
  match r, hr, h with
  | [.inl N], hr, h =>
    obtain ⟨n, hh, nb, hI, h⟩ := h
    obtain ⟨hG, -, hp, -, -, ⟨d, hd, hday⟩, hu, hw, hpr⟩ := id hI
    obtain ⟨hn1, hn8, -⟩ := id hG
    refine cb_run cb_tb_ok vd_X10_standing (cuts := [36]) 90 ?_
    refine And.intro trivial (cb_ifnz (fun q => And.intro (cb_on rfl) (bad_f rfl (by decide) (ez_f ?_))) (fun q => And.intro (cb_on rfl) (bad_t rfl (by decide) (ez_t (And.intro cb_rt0 (h.1 (mi_in_f q) _ (mx2 M 1) rfl))))))
    obtain ⟨k, k1, k2, ke⟩ := mi_in_yes (lo := 1) (hi := 100) (by decide) (by decide) q
    have h := h.2 k k1 k2 ke
    refine And.intro (cb_on rfl) (mg_on (mi_I_X (mx1 M) hI) ke (by omega) (fun M1 hF1 hP1 hs1 => ?_))
    rw [mv_X (mx1 M)] at hs1
    have hX1 := (mx1 M).trans (hF1.mono fr_n_X)
    have hI1 := mi_I_X hX1 hI
    have h := h M1 hX1 (hF1.1 46 0 0 rfl)
    obtain ⟨V, hV⟩ : ∃ V, V = mv M n hh nb := ⟨_, rfl⟩
    rw [← hV] at h hs1
    have hVn : V.n = n := by rw [hV]; rfl
    have hday1 : cb_gI M1 46 0 42 = nI (d + k) := by
      have e : (mk_s M1 n).1 = V.s.1 + nI k := by rw [hs1]; unfold vq_on; exact wn_days_day k
      rw [show V.s.1 = nI d by rw [hV]; exact hday, nI_add] at e
      exact e
    obtain ⟨run, hrn⟩ : ∃ run : Nat → Bool, run = fun i => wn_run (vc V) (wu_all V.n) (vq_on V k).1 i := ⟨_, rfl⟩
    have hrun : ∀ i, i < n → (decide (¬ cb_gI M1 46 0 45 = 0) || decide (cb_rem (cb_gI M1 46 0 42) (cb_gI M1 55 0 i) < 8)) = run i := fun i hi => by
      have := mk_run (d := d + k) hI1.1 hi (by omega)
      rw [hrn, ← hs1, hVn, hV, ← mv_c hI, ← mk_c_X hX1, ← mu_all hn8 hI1.2.2.2.2.2.2.1 hI1.2.2.2.2.2.2.2.2, show (mk_s M1 n).1 = nI (d + k) from hday1]
      show _ = wn_run (mk_c M1 n) (mk_u M1 n) (nI (d + k)) i
      rw [this, hday1]
      have b5 : ∀ i, i < 8 → cb_bit 255 i = true := by decide
      rw [hI1.2.2.2.2.2.2.1, b5 i (by omega), Bool.true_and]
    obtain ⟨g, hg⟩ : ∃ g : Nat → Nat → Bool, g = fun a i => !run i || decide (wm_ap ((vq_on V k).2.1 a) ((vq_on V k).2.1 i) = wm_ap (V.s.2.1 a) (V.s.2.1 i)) := ⟨_, rfl⟩
    have estd : ∀ a, a < n → run a = true → (∀ i, i < a → run i = false) → vq_std V k = (List.range n).all (g a) := fun a ha h1 h2 => by
      have e9 : (List.range V.n).find? (fun i => wn_run (vc V) (wu_all V.n) (vq_on V k).1 i) = some a := by
        rw [← hrn]
        exact cb_find_some (by omega) h1 h2
      unfold vq_std
      rw [e9, hg, hrn, hVn]
    have hpp : ∀ i, i < n → cb_gI M1 80 0 i = (vq_on V k).2.1 i := fun i hi => by
      rw [← hs1]
      exact (wn_tr_lt hi).symm
    have hph : ∀ i, i < n → cb_gI M1 69 0 i = V.s.2.1 i := fun i hi => by
      rw [hX1.1 69 0 i rfl, hV]
      exact (wn_tr_lt hi).symm
    have hphp : ∀ i, i < n → wm_ph (cb_gI M1 69 0 i) := fun i hi => (hI1.2.2.1 i hi).2
    have loop : ∀ j, j ≤ n → ∀ (y fi : Int32), y = nI j → ((fi = -1 ∧ ∀ i, i < j → run i = false) ∨ ∃ a, fi = nI a ∧ a < j ∧ run a = true ∧ (∀ i, i < a → run i = false) ∧ (List.range j).all (g a) = true) → cb_Gd cb_tb md_X10_standing X 36 [some (cb_r 46 0), some (cb_i (N)), some (cb_i (fi)), some (cb_i (y))] [] (cb_aS n0, f) M1 0 0 := by
      refine cb_up (fun j => ∀ (y fi : Int32), y = nI j → ((fi = -1 ∧ ∀ i, i < j → run i = false) ∨ ∃ a, fi = nI a ∧ a < j ∧ run a = true ∧ (∀ i, i < a → run i = false) ∧ (List.range j).all (g a) = true) → cb_Gd cb_tb md_X10_standing X 36 [some (cb_r 46 0), some (cb_i (N)), some (cb_i (fi)), some (cb_i (y))] [] (cb_aS n0, f) M1 0 0) ?_ ?_
      · intro y fi hy hz
        refine cb_run cb_tb_ok vd_X10_standing (cuts := [36]) 90 ?_
        refine And.intro (mi_v 1 (by decide)) (cb_lout hy hI1.1.1 (And.intro cb_rt1 ?_))
        have : vq_std V k = true := by
          rcases hz with ⟨-, hz⟩ | ⟨a, -, ha, h1, h2, h3⟩
          · unfold vq_std
            rw [cb_find_none (fun i hi => ?_)]
            have := hz i (by omega)
            rw [hrn] at this
            exact this
          · rw [estd a ha h1 h2]
            exact h3
        rw [this] at h
        exact h
      · intro j hj ih y fi hy hz
        subst hy
        have hjc : (nI j).toNatClampNeg = j := nI_clamp (by omega)
        have hj8 : vp_in (nI j) 8 := cb_in8 hj hn8 (by decide)
        have cmp : ∀ a, a ≤ j → run a = true → (∀ i, i < a → run i = false) → run j = true → (List.range j).all (g a) = true → cb_Gd cb_tb md_X10_standing X 71 [some (cb_r 46 0), some (cb_i N), some (cb_i fi), some (cb_i (nI j))] [cb_i (nI a)] (cb_aS n0, f) M1 0 0 := by
          intro a ha h1 h2 hrj h3
          have hac : (nI a).toNatClampNeg = a := nI_clamp (by omega)
          have ha8 : vp_in (nI a) 8 := cb_in8 (show a < n by omega) hn8 (by decide)
          refine cb_run cb_tb_ok vd_X10_standing (cuts := [36]) 90 ?_
          refine And.intro ha8 (And.intro hj8 (And.intro ?_ (And.intro ha8 (And.intro hj8 (And.intro ?_ ?_)))))
          · rw [hac, hjc]
            exact ⟨hP1 a (by omega), hP1 j hj⟩
          · rw [hac, hjc]
            exact ⟨hphp a (by omega), hphp j hj⟩
          · show (wm_ap (cb_gI M1 80 0 (nI a).toNatClampNeg) (cb_gI M1 80 0 (nI j).toNatClampNeg) = wm_ap (cb_gI M1 69 0 (nI a).toNatClampNeg) (cb_gI M1 69 0 (nI j).toNatClampNeg) → _) ∧ (¬ wm_ap (cb_gI M1 80 0 (nI a).toNatClampNeg) (cb_gI M1 80 0 (nI j).toNatClampNeg) = wm_ap (cb_gI M1 69 0 (nI a).toNatClampNeg) (cb_gI M1 69 0 (nI j).toNatClampNeg) → _)
            rw [hac, hjc, hpp a (by omega), hpp j hj, hph a (by omega), hph j hj]
            refine And.intro (fun q => ih _ _ (nI_1 j) (Or.inr ⟨a, rfl, by omega, h1, h2, ?_⟩)) (fun q => And.intro cb_rt0 ?_)
            · rw [cb_all_succ, h3, hg]
              show (true && (!run j || decide _)) = true
              rw [decide_eq_true q]
              simp
            · have : vq_std V k = false := by
                rw [estd a (by omega) h1 h2]
                refine cb_all_miss hj ?_
                rw [hg]
                show (!run j || decide _) = false
                rw [hrj, decide_eq_false q]
                rfl
              rw [this] at h
              exact h
        refine cb_run cb_tb_ok vd_X10_standing (cuts := [36, 71]) 90 ?_
        refine And.intro (mi_v 1 (by decide)) (cb_lin rfl hI1.1.1 hj (by omega) (And.intro (cb_on rfl) ⟨j, ⟨rfl, by omega, mk_k0 hI1.1 hj⟩, ?_⟩))
        rw [hrun j hj]
        refine cb_ifnz (fun q => ?_) (fun q => ?_)
        · rcases hz with ⟨hf, hz⟩ | ⟨a, hf, ha, h1, h2, h3⟩
          · subst hf
            refine cb_ifne (fun q1 => absurd rfl q1) (fun _ => cmp j (Nat.le_refl _) q hz q ?_)
            refine List.all_eq_true.mpr (fun i hi => ?_)
            rw [hg]
            show (!run i || _) = true
            rw [hz i (List.mem_range.mp hi)]
            rfl
          · subst hf
            exact cb_ifne (fun _ => cmp a (by omega) h1 h2 q h3) (fun q1 => absurd q1 (fun w => absurd (show nI a < 0 by rw [w]; decide) (nI_pos (by omega))))
        · rcases hz with ⟨hf, hz⟩ | ⟨a, hf, ha, h1, h2, h3⟩
          · exact ih _ _ (nI_1 j) (Or.inl ⟨hf, fun i hi => by
              by_cases e : i = j
              · rw [e]; exact q
              · exact hz i (by omega)⟩)
          · refine ih _ _ (nI_1 j) (Or.inr ⟨a, hf, by omega, h1, h2, ?_⟩)
            rw [cb_all_succ, h3, hg]
            show (true && (!run j || _)) = true
            rw [q]
            rfl
    exact loop 0 (Nat.zero_le _) _ _ rfl (Or.inl ⟨rfl, fun i hi => absurd hi (by omega)⟩)
theorem wn_in_all : ∀ k, k < 1999 → (wm_beat (wm_ad (nI k - 999)) = 2 ↔ wm_beat (wm_ad (-(nI k - 999))) = 2) := by decide +kernel
theorem wn_in_sym {ph : wm_F} {a b : Nat} (ha : wm_ph (ph a)) (hb : wm_ph (ph b)) : wn_in ph a b = wn_in ph b a := by
  unfold wn_in
  refine decide_eq_decide.mpr ?_
  obtain ⟨k, hk, e⟩ := wm_diff ha hb
  rw [wm_ap_ad, wm_ap_ad, e, show ph a - ph b = -(nI k - 999) by rw [← e, Int32.neg_sub]]
  exact wn_in_all k hk
def sp_X10_areAsNow : cb_Sp := fun _ r M K => match r with
  | [.inr (.inr (some (t, q0)))] => t = 85 ∧ q0 = 0 ∧ ∃ (n : Nat) (q : Nat → Nat → Bool), (cb_gI M 49 0 1 = nI n ∧ n ≤ 8 ∧ mk_P M n ∧ ∀ i j, j < i → i < n → cb_gI M 85 0 (i * 8 + j) = cb_z (q i j)) ∧ K (some (cb_i (cb_z ((List.range n).all fun i => (List.range i).all fun j => wn_in (cb_gI M 80 0) i j == q i j)))) M
  | _ => False
theorem i_eq_z {a b : Bool} : (cb_z a = cb_z b) ↔ (a == b) = true := by
  cases a <;> cases b <;> decide
def pt_X10_areAsNow : cb_PT := cb_m 46 1 sp_X10_areAsNow
theorem rc_X10_areAsNow : cb_rc cb_tb RX10 pt_X10_areAsNow := cb_m_rc rfl rfl
def md_X10_areAsNow : cb_D := (RX10, cX10_areAsNow, 4, (some .boolean), (0, 0, 3, 65), [
  (0, .iconst 0, 1, 0, 0, 0, 0),
  (1, .istore_n 2, 1, 0, 2, 0, 0),
  (2, .iload_n 2, 1, 0, 2, 0, 0),
  (3, .aload_n 0, 1, 0, 0, 0, 0),
  (4, .getfield 20, 3, 0, 10, 10, 1338),
  (7, .iconst 1, 1, 1, 0, 0, 0),
  (8, .iaload, 1, 0, 0, 0, 0),
  (9, .if_icmp .ge 68, 3, 0, 77, 0, 0),
  (12, .iconst 0, 1, 0, 0, 0, 0),
  (13, .istore_n 3, 1, 0, 3, 0, 0),
  (14, .iload_n 3, 1, 0, 3, 0, 0),
  (15, .iload_n 2, 1, 0, 2, 0, 0),
  (16, .if_icmp .ge 55, 3, 0, 71, 0, 0),
  (19, .aload_n 0, 1, 0, 0, 0, 0),
  (20, .getfield 94, 3, 0, 10, 37, 1365),
  (23, .iload_n 2, 1, 0, 2, 0, 0),
  (24, .iaload, 1, 0, 0, 0, 0),
  (25, .aload_n 0, 1, 0, 0, 0, 0),
  (26, .getfield 94, 3, 0, 10, 37, 1365),
  (29, .iload_n 3, 1, 0, 3, 0, 0),
  (30, .iaload, 1, 0, 0, 0, 0),
  (31, .invokestatic 280, 3, 0, 0, 0, 0),
  (34, .iconst 2, 1, 2, 0, 0, 0),
  (35, .if_icmp .ne 7, 3, 0, 42, 0, 0),
  (38, .iconst 1, 1, 1, 0, 0, 0),
  (39, .goto 4, 3, 0, 43, 0, 0),
  (42, .iconst 0, 1, 0, 0, 0, 0),
  (43, .aload_n 1, 1, 0, 1, 0, 0),
  (44, .iload_n 2, 1, 0, 2, 0, 0),
  (45, .bipush 8, 2, 8, 0, 0, 0),
  (47, .imul, 1, 0, 0, 0, 0),
  (48, .iload_n 3, 1, 0, 3, 0, 0),
  (49, .iadd, 1, 0, 0, 0, 0),
  (50, .iaload, 1, 0, 0, 0, 0),
  (51, .iconst 1, 1, 1, 0, 0, 0),
  (52, .if_icmp .ne 7, 3, 0, 59, 0, 0),
  (55, .iconst 1, 1, 1, 0, 0, 0),
  (56, .goto 4, 3, 0, 60, 0, 0),
  (59, .iconst 0, 1, 0, 0, 0, 0),
  (60, .if_icmp .eq 5, 3, 0, 65, 0, 0),
  (63, .iconst 0, 1, 0, 0, 0, 0),
  (64, .ireturn, 1, 0, 0, 0, 0),
  (65, .iinc 3 1, 3, 1, 3, 0, 0),
  (68, .goto (-54), 3, 0, 14, 0, 0),
  (71, .iinc 2 1, 3, 1, 2, 0, 0),
  (74, .goto (-72), 3, 0, 2, 0, 0),
  (77, .iconst 1, 1, 1, 0, 0, 0),
  (78, .ireturn, 1, 0, 0, 0, 0)],
  [(1, 280, 2, 0, 0, pt_X10_stepBy)], [])
set_option maxRecDepth 100000 in
theorem vd_X10_areAsNow : md_X10_areAsNow.cd.all (cb_vE md_X10_areAsNow) = true := by decide +kernel
theorem wd_X10_areAsNow : cb_wd yX10_areAsNow md_X10_areAsNow := ⟨cb_tw (i := 1732) (by decide +kernel), cb_tw (i := 11) (by decide +kernel), by decide, by decide⟩
theorem cs_X10_areAsNow : ∀ X, cb_Bs md_X10_areAsNow X → ∀ g ∈ md_X10_areAsNow.ga, cb_CS cb_tb md_X10_areAsNow X g := fun X B => List.forall_mem_cons.mpr ⟨cb_csS B ok_X10_stepBy wd_X10_stepBy (cb_tw (i := 1667) (by decide +kernel)) (cb_tw (i := 1668) (by decide +kernel)) ⟨by decide, by decide⟩ (by decide +kernel), fun _ h => nomatch h⟩
theorem ok_X10_areAsNow : cb_MOK cb_tb yX10_areAsNow md_X10_areAsNow pt_X10_areAsNow := by
  refine cb_okm ⟨plainFor_of_name (by decide), rfl⟩ (by decide) cs_X10_areAsNow (by decide) (fun X n0 f i r M hr ha h => ?_)
  have h0 := cb_a1 (T := 46) rfl ha
  subst h0
  match r, hr, h with
  | [.inr (.inr (some (t, q0)))], hr, h =>
    obtain ⟨rfl, rfl, n, q, ⟨hn, hn8, hP, hq⟩, h⟩ := h
    obtain ⟨g, hg⟩ : ∃ g : Nat → Nat → Bool, g = fun i j => wn_in (cb_gI M 80 0) i j == q i j := ⟨_, rfl⟩
    have h : X.K (.inl (some (cb_i (cb_z ((List.range n).all fun i => (List.range i).all (g i)))))) (cb_aS n0, f) M := by rw [hg]; exact h
    have inner : ∀ i, i < n → ((List.range i).all (g i) = true → ∀ v : Option cb_V, cb_Gd cb_tb md_X10_areAsNow X 71 [some (cb_r 46 0), some (cb_r 85 0), some (cb_i (nI i)), v] [] (cb_aS n0, f) M 0 0) → ∀ j, j ≤ i → ∀ y : Int32, y = nI j → (List.range j).all (g i) = true → cb_Gd cb_tb md_X10_areAsNow X 14 [some (cb_r 46 0), some (cb_r 85 0), some (cb_i (nI i)), some (cb_i (y))] [] (cb_aS n0, f) M 0 0 := by
      intro i hi hout
      have hic : (nI i).toNatClampNeg = i := nI_clamp (by omega)
      have hi8 : vp_in (nI i) 8 := cb_in8 hi hn8 (by decide)
      refine cb_up (fun j => ∀ y : Int32, y = nI j → (List.range j).all (g i) = true → cb_Gd cb_tb md_X10_areAsNow X 14 [some (cb_r 46 0), some (cb_r 85 0), some (cb_i (nI i)), some (cb_i (y))] [] (cb_aS n0, f) M 0 0) ?_ ?_
      · intro y hy hz
        refine cb_run cb_tb_ok vd_X10_areAsNow (cuts := [14, 71]) 90 ?_
        exact cb_lout hy rfl (hout hz _)
      · intro j hj ih y hy hz
        subst hy
        have hjc : (nI j).toNatClampNeg = j := nI_clamp (by omega)
        have hj8 : vp_in (nI j) 8 := cb_in8 (show j < n by omega) hn8 (by decide)
        have ex : nI i * 8 + nI j = nI (i * 8 + j) := by rw [show (8 : Int32) = nI 8 from rfl, show nI i * nI 8 = nI (i * 8) from (Int32.ofNat_mul i 8).symm, nI_add]
        have hx64 : vp_in (nI i * 8 + nI j) 64 := by rw [ex]; exact vp_in_nI (by omega) (by decide)
        have hxc : (nI i * 8 + nI j).toNatClampNeg = i * 8 + j := by rw [ex]; exact nI_clamp (by omega)
        have last : ∀ a b : Bool, a = wn_in (cb_gI M 80 0) i j → b = q i j → cb_Gd cb_tb md_X10_areAsNow X 60 [some (cb_r 46 0), some (cb_r 85 0), some (cb_i (nI i)), some (cb_i (nI j))] [cb_i (cb_z b), cb_i (cb_z a)] (cb_aS n0, f) M 0 0 := by
          intro a b ha' hb'
          refine cb_run cb_tb_ok vd_X10_areAsNow (cuts := [14]) 90 ?_
          refine And.intro (fun q1 => ih _ (nI_1 j) ?_) (fun q1 => And.intro cb_rt0 ?_)
          · have q1 := i_eq_z.mp q1
            rw [cb_all_succ, hz, hg]
            show (true && (wn_in (cb_gI M 80 0) i j == q i j)) = true
            rw [← ha', ← hb', q1]
            rfl
          · have q1 : ¬ cb_z a = cb_z b := q1
            have q1 : (a == b) = false := by
              cases z : (a == b) with
              | false => rfl
              | true => exact absurd (i_eq_z.mpr z) q1
            have e1 : (List.range i).all (g i) = false := cb_all_miss hj (by rw [hg]; show (wn_in (cb_gI M 80 0) i j == q i j) = false; rw [← ha', ← hb']; exact q1)
            have : ((List.range n).all fun i => (List.range i).all (g i)) = false := cb_all_miss hi e1
            rw [this] at h
            exact h
        have mid : ∀ a : Bool, a = wn_in (cb_gI M 80 0) i j → cb_Gd cb_tb md_X10_areAsNow X 43 [some (cb_r 46 0), some (cb_r 85 0), some (cb_i (nI i)), some (cb_i (nI j))] [cb_i (cb_z a)] (cb_aS n0, f) M 0 0 := by
          intro a ha'
          refine cb_run cb_tb_ok vd_X10_areAsNow (cuts := [14, 60]) 90 ?_
          refine And.intro hx64 ?_
          show (¬ cb_gI M 85 0 (nI i * 8 + nI j).toNatClampNeg = 1 → _) ∧ (¬ ¬ cb_gI M 85 0 (nI i * 8 + nI j).toNatClampNeg = 1 → _)
          rw [hxc, hq i j hj hi]
          exact cb_ifn1 (fun q1 => last a false ha' q1.symm) (fun q1 => last a true ha' q1.symm)
        refine cb_run cb_tb_ok vd_X10_areAsNow (cuts := [14, 43]) 90 ?_
        refine cb_lin rfl rfl hj (by omega) (And.intro hi8 (And.intro hj8 (And.intro ?_ ?_)))
        · rw [hic, hjc]
          exact ⟨hP i hi, hP j (by omega)⟩
        · rw [hic, hjc]
          exact cb_ifne (fun q1 => mid false (decide_eq_false q1).symm) (fun q1 => mid true (decide_eq_true q1).symm)
    have loop : ∀ i, i ≤ n → ∀ (y : Int32) (v : Option cb_V), y = nI i → ((List.range i).all fun i => (List.range i).all (g i)) = true → cb_Gd cb_tb md_X10_areAsNow X 2 [some (cb_r 46 0), some (cb_r 85 0), some (cb_i (y)), v] [] (cb_aS n0, f) M 0 0 := by
      refine cb_up (fun i => ∀ (y : Int32) (v : Option cb_V), y = nI i → ((List.range i).all fun i => (List.range i).all (g i)) = true → cb_Gd cb_tb md_X10_areAsNow X 2 [some (cb_r 46 0), some (cb_r 85 0), some (cb_i (y)), v] [] (cb_aS n0, f) M 0 0) ?_ ?_
      · intro y v hy hz
        refine cb_run cb_tb_ok vd_X10_areAsNow (cuts := [2, 14]) 90 ?_
        refine And.intro (mi_v 1 (by decide)) (cb_lout hy hn (And.intro cb_rt1 ?_))
        rw [hz] at h
        exact h
      · intro i hi ih y v hy hz
        subst hy
        refine cb_run cb_tb_ok vd_X10_areAsNow (cuts := [2, 14]) 90 ?_
        refine And.intro (mi_v 1 (by decide)) (cb_lin rfl hn hi (by omega) ?_)
        refine inner i hi (fun q1 v => ?_) 0 (Nat.zero_le _) _ rfl rfl
        refine cb_run cb_tb_ok vd_X10_areAsNow (cuts := [2]) 90 ?_
        exact ih _ _ (nI_1 i) (by rw [cb_all_succ, hz, q1]; rfl)
    exact cb_run cb_tb_ok vd_X10_areAsNow (cuts := [2]) 40 (loop 0 (Nat.zero_le _) _ _ rfl rfl)
