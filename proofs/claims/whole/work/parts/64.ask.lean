/-! ===== the reference: infected, leader ===== -/
def sp_X10_infected : cb_Sp := fun _ r M K => match r with
  | [.inl N] => ∃ n h nb, mi_I M n h nb ∧ wg_r 1 100 N (mT 1 M K) fun k => mR (vq_inf (mv M n h nb) k) M K
  | _ => False
theorem mi_mb {g : Nat → Bool} {i : Nat} (hi : i < 8) (b : Bool) : cb_bit (wm_mask g i ||| (if b = true then (1 : Int32) <<< (nI i &&& 31) else 0)) i = b := by
  rw [cb_bit_or, wm_mask_bit _ _ (by omega), decide_eq_false (by omega), Bool.false_and, Bool.false_or]
  have h1 : ∀ i, i < 8 → cb_bit ((1 : Int32) <<< (nI i &&& 31)) i = true := by decide +kernel
  have h0 : ∀ i, i < 8 → cb_bit 0 i = false := by decide
  cases b
  · exact h0 i hi
  · exact h1 i hi
def pt_X10_infected : cb_PT := cb_m 46 1 sp_X10_infected
theorem rc_X10_infected : cb_rc cb_tb RX10 pt_X10_infected := cb_m_rc rfl rfl
def md_X10_infected : cb_D := (RX10, cX10_infected, 6, (some .int), (0, 0, 6, 134), [
  (0, .aload_n 0, 1, 0, 0, 0, 0),
  (1, .iconst 0, 1, 0, 0, 0, 0),
  (2, .putfield 126, 3, 0, 10, 0, 1328),
  (5, .aload_n 0, 1, 0, 0, 0, 0),
  (6, .iload_n 1, 1, 0, 1, 0, 0),
  (7, .invokestatic 295, 3, 0, 0, 0, 0),
  (10, .ifCond .ne 7, 3, 0, 17, 0, 0),
  (13, .iconst 1, 1, 1, 0, 0, 0),
  (14, .goto 4, 3, 0, 18, 0, 0),
  (17, .iconst 0, 1, 0, 0, 0, 0),
  (18, .iconst 1, 1, 1, 0, 0, 0),
  (19, .invokevirtual 200, 3, 0, 1, 0, 0),
  (22, .ifCond .eq 5, 3, 0, 27, 0, 0),
  (25, .iconst 0, 1, 0, 0, 0, 0),
  (26, .ireturn, 1, 0, 0, 0, 0),
  (27, .iconst 0, 1, 0, 0, 0, 0),
  (28, .istore_n 2, 1, 0, 2, 0, 0),
  (29, .iconst 0, 1, 0, 0, 0, 0),
  (30, .istore_n 3, 1, 0, 3, 0, 0),
  (31, .iload_n 3, 1, 0, 3, 0, 0),
  (32, .aload_n 0, 1, 0, 0, 0, 0),
  (33, .getfield 20, 3, 0, 10, 10, 1338),
  (36, .iconst 1, 1, 1, 0, 0, 0),
  (37, .iaload, 1, 0, 0, 0, 0),
  (38, .if_icmp .ge 90, 3, 0, 128, 0, 0),
  (41, .aload_n 0, 1, 0, 0, 0, 0),
  (42, .getfield 61, 3, 0, 10, 23, 1351),
  (45, .iload_n 3, 1, 0, 3, 0, 0),
  (46, .iaload, 1, 0, 0, 0, 0),
  (47, .istore 4, 2, 0, 4, 0, 0),
  (49, .bipush (-100), 2, (-100), 0, 0, 0),
  (51, .istore 5, 2, 0, 5, 0, 0),
  (53, .iload 5, 2, 0, 5, 0, 0),
  (55, .bipush 100, 2, 100, 0, 0, 0),
  (57, .if_icmp .gt 57, 3, 0, 114, 0, 0),
  (60, .iload_n 2, 1, 0, 2, 0, 0),
  (61, .iload_n 3, 1, 0, 3, 0, 0),
  (62, .ishr, 1, 0, 0, 0, 0),
  (63, .iconst 1, 1, 1, 0, 0, 0),
  (64, .iand, 1, 0, 0, 0, 0),
  (65, .ifCond .ne 49, 3, 0, 114, 0, 0),
  (68, .iload 5, 2, 0, 5, 0, 0),
  (70, .iload 4, 2, 0, 4, 0, 0),
  (72, .if_icmp .ne 6, 3, 0, 78, 0, 0),
  (75, .goto 33, 3, 0, 108, 0, 0),
  (78, .aload_n 0, 1, 0, 0, 0, 0),
  (79, .getfield 61, 3, 0, 10, 23, 1351),
  (82, .iload_n 3, 1, 0, 3, 0, 0),
  (83, .iload 5, 2, 0, 5, 0, 0),
  (85, .iastore, 1, 0, 0, 0, 0),
  (86, .aload_n 0, 1, 0, 0, 0, 0),
  (87, .iload_n 1, 1, 0, 1, 0, 0),
  (88, .invokevirtual 276, 3, 0, 2, 0, 0),
  (91, .iload_n 2, 1, 0, 2, 0, 0),
  (92, .aload_n 0, 1, 0, 0, 0, 0),
  (93, .invokevirtual 348, 3, 0, 3, 0, 0),
  (96, .ifCond .eq 9, 3, 0, 105, 0, 0),
  (99, .iconst 1, 1, 1, 0, 0, 0),
  (100, .iload_n 3, 1, 0, 3, 0, 0),
  (101, .ishl, 1, 0, 0, 0, 0),
  (102, .goto 4, 3, 0, 106, 0, 0),
  (105, .iconst 0, 1, 0, 0, 0, 0),
  (106, .ior, 1, 0, 0, 0, 0),
  (107, .istore_n 2, 1, 0, 2, 0, 0),
  (108, .iinc 5 1, 3, 1, 5, 0, 0),
  (111, .goto (-58), 3, 0, 53, 0, 0),
  (114, .aload_n 0, 1, 0, 0, 0, 0),
  (115, .getfield 61, 3, 0, 10, 23, 1351),
  (118, .iload_n 3, 1, 0, 3, 0, 0),
  (119, .iload 4, 2, 0, 4, 0, 0),
  (121, .iastore, 1, 0, 0, 0, 0),
  (122, .iinc 3 1, 3, 1, 3, 0, 0),
  (125, .goto (-94), 3, 0, 31, 0, 0),
  (128, .iload_n 2, 1, 0, 2, 0, 0),
  (129, .ireturn, 1, 0, 0, 0, 0)],
  [(1, 295, 1, 0, 0, pt_X10_areDays), (0, 200, 3, 0, 0, pt_X10_bad), (0, 276, 2, 0, 0, pt_X10_goesOn), (0, 348, 1, 0, 0, pt_X10_isAsBook)], [])
set_option maxRecDepth 100000 in
theorem vd_X10_infected : md_X10_infected.cd.all (cb_vE md_X10_infected) = true := by decide +kernel
theorem wd_X10_infected : cb_wd yX10_infected md_X10_infected := ⟨cb_tw (i := 1799) (by decide +kernel), cb_tw (i := 11) (by decide +kernel), by decide, by decide⟩
theorem cs_X10_infected : ∀ X, cb_Bs md_X10_infected X → ∀ g ∈ md_X10_infected.ga, cb_CS cb_tb md_X10_infected X g := fun X B => List.forall_mem_cons.mpr ⟨cb_csS B ok_X10_areDays wd_X10_areDays (cb_tw (i := 1702) (by decide +kernel)) (cb_tw (i := 1703) (by decide +kernel)) ⟨by decide, by decide⟩ (by decide +kernel), List.forall_mem_cons.mpr ⟨cb_csV B ok_X10_bad wd_X10_bad (cb_tw (i := 1507) (by decide +kernel)) (cb_tw (i := 1509) (by decide +kernel)) (cb_tp (i := 45) (by decide +kernel)) rc_X10_bad ⟨by decide, by decide⟩ (by decide +kernel), List.forall_mem_cons.mpr ⟨cb_csV B ok_X10_goesOn wd_X10_goesOn (cb_tw (i := 1646) (by decide +kernel)) (cb_tw (i := 1648) (by decide +kernel)) (cb_tp (i := 68) (by decide +kernel)) rc_X10_goesOn ⟨by decide, by decide⟩ (by decide +kernel), List.forall_mem_cons.mpr ⟨cb_csV B ok_X10_isAsBook wd_X10_isAsBook (cb_tw (i := 1800) (by decide +kernel)) (cb_tw (i := 1802) (by decide +kernel)) (cb_tp (i := 84) (by decide +kernel)) rc_X10_isAsBook ⟨by decide, by decide⟩ (by decide +kernel), fun _ h => nomatch h⟩⟩⟩⟩
theorem ok_X10_infected : cb_MOK cb_tb yX10_infected md_X10_infected pt_X10_infected := by
  refine cb_okm ⟨plainFor_of_name (by decide), rfl⟩ (by decide) cs_X10_infected (by decide) (fun X n0 f i r M hr ha h => ?_)
  have h0 := cb_a1 (T := 46) rfl ha
  subst h0
  match r, hr, h with
  | [.inl N], hr, h =>
    obtain ⟨n, hh, nb, hI, h⟩ := h
    obtain ⟨hn1, hn8, -⟩ := id hI.1
    refine cb_run cb_tb_ok vd_X10_infected (cuts := [31]) 90 ?_
    refine And.intro trivial (cb_ifnz (fun q => And.intro (cb_on rfl) (bad_f rfl (by decide) (ez_f ?_))) (fun q => And.intro (cb_on rfl) (bad_t rfl (by decide) (ez_t (And.intro trivial (h.1 (mi_in_f q) _ (mx2 M 1) rfl))))))
    obtain ⟨k, k1, k2, ke⟩ := mi_in_yes (lo := 1) (hi := 100) (by decide) (by decide) q
    have h := h.2 k k1 k2 ke
    obtain ⟨V, hV⟩ : ∃ V, V = mv M n hh nb := ⟨_, rfl⟩
    have hVn : V.n = n := by rw [hV]; rfl
    rw [← hV] at h
    obtain ⟨g, hg⟩ : ∃ g : Nat → Bool, g = fun i => (List.range 201).any (vq_exp V i k) := ⟨_, rfl⟩
    have hrt : ∀ i, i < n → V.rt i = cb_gI M 66 0 i := fun i hi => by rw [hV]; exact wn_tr_lt hi
    have inner : ∀ i, i < n → (∀ (v : Option cb_V) (M2 : cb_M) (u bits : Int32), bits = wm_mask g (i + 1) → cb_fr fr_X (cb_sI M 66 0 i u) M2 → cb_gI M2 46 0 0 = 0 → cb_Gd cb_tb md_X10_infected X 114 [some (cb_r 46 0), some (cb_i (N)), some (cb_i (bits)), some (cb_i (nI i)), some (cb_i (cb_gI M 66 0 i)), v] [] (cb_aS n0, f) M2 0 0) →
        ∀ j, j ≤ 201 → ∀ (y bits : Int32) (b : Bool) (M2 : cb_M) (u : Int32), y = nI j - 100 → b = (List.range j).any (vq_exp V i k) → bits = wm_mask g i ||| (if b = true then (1 : Int32) <<< (nI i &&& 31) else 0) → cb_fr fr_X (cb_sI M 66 0 i u) M2 → cb_gI M2 46 0 0 = 0 → cb_Gd cb_tb md_X10_infected X 53 [some (cb_r 46 0), some (cb_i (N)), some (cb_i (bits)), some (cb_i (nI i)), some (cb_i (cb_gI M 66 0 i)), some (cb_i (y))] [] (cb_aS n0, f) M2 0 0 := by
      intro i hi hout
      have hic : (nI i).toNatClampNeg = i := nI_clamp (by omega)
      have hi8 : vp_in (nI i) 8 := cb_in8 hi hn8 (by decide)
      refine cb_up (fun j => ∀ (y bits : Int32) (b : Bool) (M2 : cb_M) (u : Int32), y = nI j - 100 → b = (List.range j).any (vq_exp V i k) → bits = wm_mask g i ||| (if b = true then (1 : Int32) <<< (nI i &&& 31) else 0) → cb_fr fr_X (cb_sI M 66 0 i u) M2 → cb_gI M2 46 0 0 = 0 → cb_Gd cb_tb md_X10_infected X 53 [some (cb_r 46 0), some (cb_i (N)), some (cb_i (bits)), some (cb_i (nI i)), some (cb_i (cb_gI M 66 0 i)), some (cb_i (y))] [] (cb_aS n0, f) M2 0 0) ?_ ?_
      · intro y bits b M2 u hy hb hbits hF h0
        refine cb_run cb_tb_ok vd_X10_infected (cuts := [53, 114]) 90 ?_
        refine And.intro (fun _ => hout _ M2 u bits ?_ hF h0) (fun q => ?_)
        · rw [hbits, wm_mask, hb, hg]
        · rw [hy] at q
          exact absurd (show (100 : Int32) < nI 201 - 100 by decide) q
      · intro j hj ih y bits b M2 u hy hb hbits hF h0
        have sb : (bits >>> (nI i &&& 31)) &&& 1 = cb_z b := by rw [mi_sbit _ (by omega), hbits, mi_mb (by omega)]
        refine cb_run cb_tb_ok vd_X10_infected (cuts := [53, 114]) 90 ?_
        refine And.intro (fun q => by rw [hy] at q; exact absurd q (cb_r100 hj)) (fun _ => ?_)
        show (¬ (bits >>> (nI i &&& 31)) &&& 1 = 0 → _) ∧ (¬ ¬ (bits >>> (nI i &&& 31)) &&& 1 = 0 → _)
        rw [sb]
        refine cb_ifnz (fun q => hout _ M2 u bits ?_ hF h0) (fun q => ?_)
        · have : g i = true := by
            rw [hg]
            obtain ⟨a, ha1, ha2⟩ := List.any_eq_true.mp (hb.symm.trans q)
            exact cb_any_hit (Nat.lt_trans (List.mem_range.mp ha1) hj) ha2
          rw [hbits, wm_mask, this, q]
        · subst q
          refine cb_ifne (fun q1 => And.intro hi8 (And.intro (cb_on rfl) ?_)) (fun q1 => ?_)
          · show sp_X10_goesOn 0 [.inl N] (cb_sI M2 66 0 (nI i).toNatClampNeg y) _
            rw [hic]
            refine mg_rt hI (hF.re y) hi ke (by omega) (fun M3 hF3 hP3 hs3 => And.intro (cb_on rfl) ⟨n, ⟨?_, hn8⟩, ?_⟩)
            · rw [hF3.1 49 0 1 rfl]
              exact (hF.1 49 0 1 rfl).trans hn1
            · have ebk : cb_gI M3 71 0 = cb_gI M 71 0 := funext fun a => by
                rw [hF3.1 71 0 a rfl]
                exact hF.1 71 0 a rfl
              have ee : wq_book (cb_gI M3 71 0) (mk_s M3 n).2.2 n = vq_exp V i k j := by
                unfold vq_exp
                rw [hs3, ebk, hy, ← hV, hVn, decide_eq_true (show ¬ nI j - 100 = V.rt i by rw [hrt i hi, ← hy]; exact q1), Bool.true_and]
                unfold wq_book
                exact cb_all_cong (fun a ha' => by rw [hV, show (mv M n hh nb).bk a = cb_gI M 71 0 a from wn_tr_lt (List.mem_range.mp ha')])
              have nx : ∀ b' bits', b' = vq_exp V i k j → bits' = wm_mask g i ||| (if b' = true then (1 : Int32) <<< (nI i &&& 31) else 0) → cb_Gd cb_tb md_X10_infected X 53 [some (cb_r 46 0), some (cb_i (N)), some (cb_i (bits')), some (cb_i (nI i)), some (cb_i (cb_gI M 66 0 i)), some (cb_i ((y + 1)))] [] (cb_aS n0, f) M3 0 0 := fun b' bits' hb' hbits' => ih _ bits' b' M3 y (by rw [hy, cb_r100s]) (by rw [cb_any_succ, ← hb, hb', Bool.false_or]) hbits' ((hF.re y).trans (hF3.mono fr_n_X)) ((hF3.1 46 0 0 rfl).trans h0)
              rw [ee]
              refine cb_ifz (fun q2 => nx false _ q2.symm ?_) (fun q2 => nx true _ q2.symm ?_)
              · rw [hbits]
                show wm_mask g i ||| 0 ||| 0 = wm_mask g i ||| 0
                simp
              · rw [hbits]
                show wm_mask g i ||| 0 ||| (1 : Int32) <<< (nI i &&& 31) = wm_mask g i ||| (1 : Int32) <<< (nI i &&& 31)
                simp
          · refine ih _ bits false M2 u (by rw [hy, cb_r100s]) ?_ hbits hF h0
            rw [cb_any_succ, ← hb]
            unfold vq_exp
            rw [decide_eq_false (fun w => w (by rw [hrt i hi, ← hy]; exact q1))]
            rfl
    have loop : ∀ i, i ≤ n → ∀ (y bits : Int32) (v w : Option cb_V) (M2 : cb_M), y = nI i → bits = wm_mask g i → cb_fr fr_X M M2 → cb_gI M2 46 0 0 = 0 → cb_Gd cb_tb md_X10_infected X 31 [some (cb_r 46 0), some (cb_i (N)), some (cb_i (bits)), some (cb_i (y)), v, w] [] (cb_aS n0, f) M2 0 0 := by
      refine cb_up (fun i => ∀ (y bits : Int32) (v w : Option cb_V) (M2 : cb_M), y = nI i → bits = wm_mask g i → cb_fr fr_X M M2 → cb_gI M2 46 0 0 = 0 → cb_Gd cb_tb md_X10_infected X 31 [some (cb_r 46 0), some (cb_i (N)), some (cb_i (bits)), some (cb_i (y)), v, w] [] (cb_aS n0, f) M2 0 0) ?_ ?_
      · intro y bits v w M2 hy hb hF h0
        refine cb_run cb_tb_ok vd_X10_infected (cuts := [31]) 90 ?_
        refine And.intro (mi_v 1 (by decide)) (cb_lout hy ((hF.1 49 0 1 rfl).trans hn1) (And.intro trivial (cb_eqK (h M2 hF h0) ?_)))
        unfold vq_inf
        rw [← hg, hVn]
        exact hb
      · intro i hi ih y bits v w M2 hy hb hF h0
        subst hy
        have hic : (nI i).toNatClampNeg = i := nI_clamp (by omega)
        have hi8 : vp_in (nI i) 8 := cb_in8 hi hn8 (by decide)
        refine cb_run cb_tb_ok vd_X10_infected (cuts := [31, 53]) 90 ?_
        refine And.intro (mi_v 1 (by decide)) (cb_lin rfl ((hF.1 49 0 1 rfl).trans hn1) hi (by omega) (And.intro hi8 ?_))
        show cb_Gd cb_tb md_X10_infected X 53 [some (cb_r 46 0), some (cb_i (N)), some (cb_i (bits)), some (cb_i (nI i)), some (cb_i (cb_gI M2 66 0 (nI i).toNatClampNeg)), some (cb_i (-100))] [] (cb_aS n0, f) M2 0 0
        rw [hic, hF.1 66 0 i rfl]
        refine inner i hi (fun v M3 u bits' hb' hF3 h03 => ?_) 0 (Nat.zero_le _) _ bits false M2 (cb_gI M 66 0 i) rfl rfl ?_ ?_ h0
        · refine cb_run cb_tb_ok vd_X10_infected (cuts := [31]) 90 ?_
          refine And.intro hi8 ?_
          show cb_Gd cb_tb md_X10_infected X 31 [some (cb_r 46 0), some (cb_i (N)), some (cb_i (bits')), some (cb_i (nI i + 1)), some (cb_i (cb_gI M 66 0 i)), v] [] (cb_aS n0, f) (cb_sI M3 66 0 (nI i).toNatClampNeg (cb_gI M 66 0 i)) 0 0
          rw [hic]
          exact ih _ _ _ _ _ (nI_1 i) hb' (cb_fr.tmp hF3 rfl) h03
        · rw [hb]
          show wm_mask g i = wm_mask g i ||| 0
          simp
        · rw [cb_sI_self]
          exact hF
    exact loop 0 (Nat.zero_le _) _ _ _ _ _ rfl rfl (mx1 M) rfl
/-! leader -/
theorem vq_tr_b {V : wV} (hO : wO V) {i k : Nat} (those : Int32) (hi : i < V.n) (hk : k ≤ 400) : wO_b (2 ^ 29) ((vq_tr V those k).2.2 i) := wO_b_mono (wn_days_b (c := vc V) (dp := V.dp) (s := V.s) (i := i) (B := 140000) (hO.2.1 i hi) hO.2.2 (hO.1 i hi) k (by omega)) (by omega)
theorem vq_on_b {V : wV} (hO : wO V) {i k : Nat} (hi : i < V.n) (hk : k ≤ 400) : wO_b (2 ^ 29) ((vq_on V k).2.2 i) := wO_b_mono (wn_days_b (c := vc V) (dp := V.dp) (s := V.s) (i := i) (B := 140000) (hO.2.1 i hi) hO.2.2 (hO.1 i hi) k (by omega)) (by omega)
def sp_X10_leader : cb_Sp := fun _ r M K => match r with
  | [.inl N] => ∃ n h nb, (mi_I M n h nb ∧ wO (mv M n h nb)) ∧ wg_r 1 100 N (mT 1 M K) fun k => mR (wq_most (vq_mis (mv M n h nb) k) n).2 M K
  | _ => False
def pt_X10_leader : cb_PT := cb_m 46 1 sp_X10_leader
theorem rc_X10_leader : cb_rc cb_tb RX10 pt_X10_leader := cb_m_rc rfl rfl
def md_X10_leader : cb_D := (RX10, cX10_leader, 7, (some .int), (0, 0, 6, 134), [
  (0, .aload_n 0, 1, 0, 0, 0, 0),
  (1, .iconst 0, 1, 0, 0, 0, 0),
  (2, .putfield 126, 3, 0, 10, 0, 1328),
  (5, .aload_n 0, 1, 0, 0, 0, 0),
  (6, .iload_n 1, 1, 0, 1, 0, 0),
  (7, .invokestatic 295, 3, 0, 0, 0, 0),
  (10, .ifCond .ne 7, 3, 0, 17, 0, 0),
  (13, .iconst 1, 1, 1, 0, 0, 0),
  (14, .goto 4, 3, 0, 18, 0, 0),
  (17, .iconst 0, 1, 0, 0, 0, 0),
  (18, .iconst 1, 1, 1, 0, 0, 0),
  (19, .invokevirtual 200, 3, 0, 1, 0, 0),
  (22, .ifCond .eq 5, 3, 0, 27, 0, 0),
  (25, .iconst 0, 1, 0, 0, 0, 0),
  (26, .ireturn, 1, 0, 0, 0, 0),
  (27, .iconst (-1), 1, (-1), 0, 0, 0),
  (28, .istore_n 2, 1, 0, 2, 0, 0),
  (29, .iconst 0, 1, 0, 0, 0, 0),
  (30, .istore_n 3, 1, 0, 3, 0, 0),
  (31, .aload_n 0, 1, 0, 0, 0, 0),
  (32, .iload_n 1, 1, 0, 1, 0, 0),
  (33, .invokevirtual 276, 3, 0, 2, 0, 0),
  (36, .iconst 0, 1, 0, 0, 0, 0),
  (37, .istore 4, 2, 0, 4, 0, 0),
  (39, .iload 4, 2, 0, 4, 0, 0),
  (41, .aload_n 0, 1, 0, 0, 0, 0),
  (42, .getfield 20, 3, 0, 10, 10, 1338),
  (45, .iconst 1, 1, 1, 0, 0, 0),
  (46, .iaload, 1, 0, 0, 0, 0),
  (47, .if_icmp .ge 23, 3, 0, 70, 0, 0),
  (50, .aload_n 0, 1, 0, 0, 0, 0),
  (51, .getfield 122, 3, 0, 10, 53, 1381),
  (54, .iload 4, 2, 0, 4, 0, 0),
  (56, .aload_n 0, 1, 0, 0, 0, 0),
  (57, .getfield 97, 3, 0, 10, 38, 1366),
  (60, .iload 4, 2, 0, 4, 0, 0),
  (62, .iaload, 1, 0, 0, 0, 0),
  (63, .iastore, 1, 0, 0, 0, 0),
  (64, .iinc 4 1, 3, 1, 4, 0, 0),
  (67, .goto (-28), 3, 0, 39, 0, 0),
  (70, .iconst 0, 1, 0, 0, 0, 0),
  (71, .istore 4, 2, 0, 4, 0, 0),
  (73, .iload 4, 2, 0, 4, 0, 0),
  (75, .aload_n 0, 1, 0, 0, 0, 0),
  (76, .getfield 20, 3, 0, 10, 10, 1338),
  (79, .iconst 1, 1, 1, 0, 0, 0),
  (80, .iaload, 1, 0, 0, 0, 0),
  (81, .if_icmp .ge 107, 3, 0, 188, 0, 0),
  (84, .iconst 0, 1, 0, 0, 0, 0),
  (85, .istore 5, 2, 0, 5, 0, 0),
  (87, .aload_n 0, 1, 0, 0, 0, 0),
  (88, .aload_n 0, 1, 0, 0, 0, 0),
  (89, .invokevirtual 308, 3, 0, 3, 0, 0),
  (92, .iconst 1, 1, 1, 0, 0, 0),
  (93, .iload 4, 2, 0, 4, 0, 0),
  (95, .ishl, 1, 0, 0, 0, 0),
  (96, .iconst (-1), 1, (-1), 0, 0, 0),
  (97, .ixor, 1, 0, 0, 0, 0),
  (98, .iand, 1, 0, 0, 0, 0),
  (99, .putfield 107, 3, 0, 10, 41, 1369),
  (102, .aload_n 0, 1, 0, 0, 0, 0),
  (103, .iload_n 1, 1, 0, 1, 0, 0),
  (104, .invokevirtual 276, 3, 0, 2, 0, 0),
  (107, .aload_n 0, 1, 0, 0, 0, 0),
  (108, .sipush 255, 3, 255, 0, 0, 0),
  (111, .putfield 107, 3, 0, 10, 41, 1369),
  (114, .iconst 0, 1, 0, 0, 0, 0),
  (115, .istore 6, 2, 0, 6, 0, 0),
  (117, .iload 6, 2, 0, 6, 0, 0),
  (119, .aload_n 0, 1, 0, 0, 0, 0),
  (120, .getfield 20, 3, 0, 10, 10, 1338),
  (123, .iconst 1, 1, 1, 0, 0, 0),
  (124, .iaload, 1, 0, 0, 0, 0),
  (125, .if_icmp .ge 42, 3, 0, 167, 0, 0),
  (128, .iload 5, 2, 0, 5, 0, 0),
  (130, .iload 6, 2, 0, 6, 0, 0),
  (132, .iload 4, 2, 0, 4, 0, 0),
  (134, .if_icmp .ne 7, 3, 0, 141, 0, 0),
  (137, .iconst 0, 1, 0, 0, 0, 0),
  (138, .goto 20, 3, 0, 158, 0, 0),
  (141, .aload_n 0, 1, 0, 0, 0, 0),
  (142, .getfield 97, 3, 0, 10, 38, 1366),
  (145, .iload 6, 2, 0, 6, 0, 0),
  (147, .iaload, 1, 0, 0, 0, 0),
  (148, .aload_n 0, 1, 0, 0, 0, 0),
  (149, .getfield 122, 3, 0, 10, 53, 1381),
  (152, .iload 6, 2, 0, 6, 0, 0),
  (154, .iaload, 1, 0, 0, 0, 0),
  (155, .invokestatic 229, 3, 0, 4, 0, 0),
  (158, .iadd, 1, 0, 0, 0, 0),
  (159, .istore 5, 2, 0, 5, 0, 0),
  (161, .iinc 6 1, 3, 1, 6, 0, 0),
  (164, .goto (-47), 3, 0, 117, 0, 0),
  (167, .iload 5, 2, 0, 5, 0, 0),
  (169, .iload_n 3, 1, 0, 3, 0, 0),
  (170, .if_icmp .gt 6, 3, 0, 176, 0, 0),
  (173, .goto 9, 3, 0, 182, 0, 0),
  (176, .iload 4, 2, 0, 4, 0, 0),
  (178, .istore_n 2, 1, 0, 2, 0, 0),
  (179, .iload 5, 2, 0, 5, 0, 0),
  (181, .istore_n 3, 1, 0, 3, 0, 0),
  (182, .iinc 4 1, 3, 1, 4, 0, 0),
  (185, .goto (-112), 3, 0, 73, 0, 0),
  (188, .iload_n 2, 1, 0, 2, 0, 0),
  (189, .ireturn, 1, 0, 0, 0, 0)],
  [(1, 295, 1, 0, 0, pt_X10_areDays), (0, 200, 3, 0, 0, pt_X10_bad), (0, 276, 2, 0, 0, pt_X10_goesOn), (0, 308, 1, 0, 0, pt_X10_all), (1, 229, 2, 0, 0, pt_X10_far)], [])
set_option maxRecDepth 100000 in
theorem vd_X10_leader : md_X10_leader.cd.all (cb_vE md_X10_leader) = true := by decide +kernel
theorem wd_X10_leader : cb_wd yX10_leader md_X10_leader := ⟨cb_tw (i := 1823) (by decide +kernel), cb_tw (i := 11) (by decide +kernel), by decide, by decide⟩
theorem cs_X10_leader : ∀ X, cb_Bs md_X10_leader X → ∀ g ∈ md_X10_leader.ga, cb_CS cb_tb md_X10_leader X g := fun X B => List.forall_mem_cons.mpr ⟨cb_csS B ok_X10_areDays wd_X10_areDays (cb_tw (i := 1702) (by decide +kernel)) (cb_tw (i := 1703) (by decide +kernel)) ⟨by decide, by decide⟩ (by decide +kernel), List.forall_mem_cons.mpr ⟨cb_csV B ok_X10_bad wd_X10_bad (cb_tw (i := 1507) (by decide +kernel)) (cb_tw (i := 1509) (by decide +kernel)) (cb_tp (i := 45) (by decide +kernel)) rc_X10_bad ⟨by decide, by decide⟩ (by decide +kernel), List.forall_mem_cons.mpr ⟨cb_csV B ok_X10_goesOn wd_X10_goesOn (cb_tw (i := 1646) (by decide +kernel)) (cb_tw (i := 1648) (by decide +kernel)) (cb_tp (i := 68) (by decide +kernel)) rc_X10_goesOn ⟨by decide, by decide⟩ (by decide +kernel), List.forall_mem_cons.mpr ⟨cb_csV B ok_X10_all wd_X10_all (cb_tw (i := 1741) (by decide +kernel)) (cb_tw (i := 1743) (by decide +kernel)) (cb_tp (i := 78) (by decide +kernel)) rc_X10_all ⟨by decide, by decide⟩ (by decide +kernel), List.forall_mem_cons.mpr ⟨cb_csS B ok_X10_far wd_X10_far (cb_tw (i := 1613) (by decide +kernel)) (cb_tw (i := 1614) (by decide +kernel)) ⟨by decide, by decide⟩ (by decide +kernel), fun _ h => nomatch h⟩⟩⟩⟩⟩
theorem ok_X10_leader : cb_MOK cb_tb yX10_leader md_X10_leader pt_X10_leader := by
  refine cb_okm ⟨plainFor_of_name (by decide), rfl⟩ (by decide) cs_X10_leader (by decide) (fun X n0 f i r M hr ha h => ?_)
  have h0 := cb_a1 (T := 46) rfl ha
  subst h0
  match r, hr, h with
  | [.inl N], hr, h =>
    obtain ⟨n, hh, nb, ⟨hI, hO⟩, h⟩ := h
    obtain ⟨hn1, hn8, -⟩ := id hI.1
    refine cb_run cb_tb_ok vd_X10_leader (cuts := [39]) 90 ?_
    refine And.intro trivial (cb_ifnz (fun q => And.intro (cb_on rfl) (bad_f rfl (by decide) (ez_f ?_))) (fun q => And.intro (cb_on rfl) (bad_t rfl (by decide) (ez_t (And.intro trivial (h.1 (mi_in_f q) _ (mx2 M 1) rfl))))))
    obtain ⟨k, k1, k2, ke⟩ := mi_in_yes (lo := 1) (hi := 100) (by decide) (by decide) q
    have h := h.2 k k1 k2 ke
    refine And.intro (cb_on rfl) (mg_on (mi_I_X (mx1 M) hI) ke (by omega) (fun M1 hF1 hP1 hs1 => ?_))
    obtain ⟨V, hV⟩ : ∃ V, V = mv M n hh nb := ⟨_, rfl⟩
    have hVn : V.n = n := by rw [hV]; rfl
    rw [mv_X (mx1 M), ← hV] at hs1
    rw [← hV] at h hO
    have hX1 := (mx1 M).trans (hF1.mono fr_n_X)
    have third : ∀ i, i < n → ∀ (best most : Int32) (M2 : cb_M), (mk_s M2 n = vq_tr V (wm_wo (wm_all (nI n)) (wm_b1 i)) k) → cb_fr fr_X M M2 → cb_gI M2 46 0 0 = 0 → (∀ a, a < n → cb_gI M2 89 0 a = (vq_on V k).2.2 a) →
        (∀ v, cb_Gd cb_tb md_X10_leader X 167 [some (cb_r 46 0), some (cb_i (N)), some (cb_i (best)), some (cb_i (most)), some (cb_i (nI i)), some (cb_i (vq_mis V k i)), v] [] (cb_aS n0, f) M2 0 0) →
        ∀ j, j ≤ n → ∀ y s : Int32, y = nI j → s = wm_sum (fun a => if a = i then 0 else wm_abs ((vq_tr V (wm_wo (wm_all (nI n)) (wm_b1 i)) k).2.2 a - (vq_on V k).2.2 a)) j → cb_Gd cb_tb md_X10_leader X 117 [some (cb_r 46 0), some (cb_i (N)), some (cb_i (best)), some (cb_i (most)), some (cb_i (nI i)), some (cb_i (s)), some (cb_i (y))] [] (cb_aS n0, f) M2 0 0 := by
      intro i hi best most M2 hs2 hF h0 hw hout
      refine cb_up (fun j => ∀ y s : Int32, y = nI j → s = wm_sum (fun a => if a = i then 0 else wm_abs ((vq_tr V (wm_wo (wm_all (nI n)) (wm_b1 i)) k).2.2 a - (vq_on V k).2.2 a)) j → cb_Gd cb_tb md_X10_leader X 117 [some (cb_r 46 0), some (cb_i (N)), some (cb_i (best)), some (cb_i (most)), some (cb_i (nI i)), some (cb_i (s)), some (cb_i (y))] [] (cb_aS n0, f) M2 0 0) ?_ ?_
      · intro y s hy hs
        refine cb_run cb_tb_ok vd_X10_leader (cuts := [117, 167]) 90 ?_
        refine And.intro (mi_v 1 (by decide)) (cb_lout hy ((hF.1 49 0 1 rfl).trans hn1) ?_)
        have e : vq_mis V k i = s := by
          rw [hs]
          unfold vq_mis wq_oth
          rw [hVn]
        rw [← e]
        exact hout _
      · intro j hj ih y s hy hs
        subst hy
        have hjc : (nI j).toNatClampNeg = j := nI_clamp (by omega)
        have hj8 : vp_in (nI j) 8 := cb_in8 hj hn8 (by decide)
        refine cb_run cb_tb_ok vd_X10_leader (cuts := [117, 167]) 90 ?_
        refine And.intro (mi_v 1 (by decide)) (cb_lin rfl ((hF.1 49 0 1 rfl).trans hn1) hj (by omega) (cb_ifne (fun q => And.intro hj8 (And.intro hj8 (And.intro trivial (ih _ _ (nI_1 j) ?_)))) (fun q => ih _ _ (nI_1 j) ?_)))
        · have q : ¬ j = i := fun w => q (by rw [w])
          rw [wm_sum, if_neg q, ← hs]
          show s + mi_far (cb_gI M2 81 0 (nI j).toNatClampNeg) (cb_gI M2 89 0 (nI j).toNatClampNeg) = _
          rw [hjc, hw j hj, ← show (mk_s M2 n).2.2 j = cb_gI M2 81 0 j from wn_tr_lt hj, hs2, mi_far_b (vq_tr_b hO _ (by omega) (by omega)) (vq_on_b hO (by omega) (by omega))]
        · have q : j = i := (nI_eq (by omega) (by omega)).mp q
          rw [wm_sum, if_pos q, ← hs]
    have second : ∀ i, i ≤ n → ∀ (y best most : Int32) (v w : Option cb_V) (M2 : cb_M), y = nI i → (most, best) = wq_most (vq_mis V k) i → cb_fr fr_X M M2 → cb_gI M2 46 0 0 = 0 → (∀ a, a < n → cb_gI M2 89 0 a = (vq_on V k).2.2 a) → cb_Gd cb_tb md_X10_leader X 73 [some (cb_r 46 0), some (cb_i (N)), some (cb_i (best)), some (cb_i (most)), some (cb_i (y)), v, w] [] (cb_aS n0, f) M2 0 0 := by
      refine cb_up (fun i => ∀ (y best most : Int32) (v w : Option cb_V) (M2 : cb_M), y = nI i → (most, best) = wq_most (vq_mis V k) i → cb_fr fr_X M M2 → cb_gI M2 46 0 0 = 0 → (∀ a, a < n → cb_gI M2 89 0 a = (vq_on V k).2.2 a) → cb_Gd cb_tb md_X10_leader X 73 [some (cb_r 46 0), some (cb_i (N)), some (cb_i (best)), some (cb_i (most)), some (cb_i (y)), v, w] [] (cb_aS n0, f) M2 0 0) ?_ ?_
      · intro y best most v w M2 hy hz hF h0 hw
        refine cb_run cb_tb_ok vd_X10_leader (cuts := [73, 117]) 90 ?_
        refine And.intro (mi_v 1 (by decide)) (cb_lout hy ((hF.1 49 0 1 rfl).trans hn1) (And.intro trivial (cb_eqK (h M2 hF h0) ?_)))
        rw [← hz]
      · intro i hi ih y best most v w M2 hy hz hF h0 hw
        subst hy
        have hI2 := mi_I_X hF hI
        have e1 : cb_gI M2 49 0 1 = nI n := hI2.1.1
        refine cb_run cb_tb_ok vd_X10_leader (cuts := [73, 117]) 90 ?_
        refine And.intro (mi_v 1 (by decide)) (cb_lin rfl e1 hi (by omega) (And.intro (cb_on rfl) (And.intro (cb_on rfl) (mg_tr hI2 rfl ke (by omega) (fun M3 hF3 hP3 hs3 => ?_)))))
        rw [mv_X hF, ← hV] at hs3
        have hs3 : mk_s M3 n = vq_tr V (wm_wo (wm_all (cb_gI M2 49 0 1)) (wm_b1 i)) k := hs3
        rw [e1] at hs3
        have hF4 : cb_fr fr_X M2 (cb_sI M3 46 0 41 255) := cb_fr.tmp (hF3.mono fr_n_X) hI2.2.2.2.2.2.2.1
        have h04 : cb_gI (cb_sI M3 46 0 41 255) 46 0 0 = 0 := (hF3.1 46 0 0 rfl).trans h0
        have hw4 : ∀ a, a < n → cb_gI (cb_sI M3 46 0 41 255) 89 0 a = (vq_on V k).2.2 a := fun a ha' => (hF3.1 89 0 a rfl).trans (hw a ha')
        refine third i hi best most (cb_sI M3 46 0 41 255) hs3 (hF.trans hF4) h04 hw4 (fun v => ?_) 0 (Nat.zero_le _) _ _ rfl rfl
        refine cb_run cb_tb_ok vd_X10_leader (cuts := [73]) 90 ?_
        refine And.intro (fun q => ih _ _ _ _ _ _ (nI_1 i) ?_ (hF.trans hF4) h04 hw4) (fun q => ih _ _ _ _ _ _ (nI_1 i) ?_ (hF.trans hF4) h04 hw4)
        · have q : most < vq_mis V k i := q
          rw [wq_most, ← hz, if_pos q]
        · have q : ¬ most < vq_mis V k i := q
          rw [wq_most, ← hz, if_neg q]
    have first : ∀ j, j ≤ n → ∀ (y : Int32) (M2 : cb_M), y = nI j → cb_fr fr_X M M2 → cb_gI M2 46 0 0 = 0 → (∀ a, a < n → cb_gI M2 81 0 a = (vq_on V k).2.2 a) → (∀ a, a < j → cb_gI M2 89 0 a = (vq_on V k).2.2 a) → cb_Gd cb_tb md_X10_leader X 39 [some (cb_r 46 0), some (cb_i (N)), some (cb_i (-1)), some (cb_i (0)), some (cb_i (y)), none, none] [] (cb_aS n0, f) M2 0 0 := by
      refine cb_up (fun j => ∀ (y : Int32) (M2 : cb_M), y = nI j → cb_fr fr_X M M2 → cb_gI M2 46 0 0 = 0 → (∀ a, a < n → cb_gI M2 81 0 a = (vq_on V k).2.2 a) → (∀ a, a < j → cb_gI M2 89 0 a = (vq_on V k).2.2 a) → cb_Gd cb_tb md_X10_leader X 39 [some (cb_r 46 0), some (cb_i (N)), some (cb_i (-1)), some (cb_i (0)), some (cb_i (y)), none, none] [] (cb_aS n0, f) M2 0 0) ?_ ?_
      · intro y M2 hy hF h0 hf hw
        refine cb_run cb_tb_ok vd_X10_leader (cuts := [39, 73]) 90 ?_
        refine And.intro (mi_v 1 (by decide)) (cb_lout hy ((hF.1 49 0 1 rfl).trans hn1) ?_)
        exact second 0 (Nat.zero_le _) _ _ _ _ _ M2 rfl rfl hF h0 hw
      · intro j hj ih y M2 hy hF h0 hf hw
        have hy8 : vp_in y 8 := by rw [hy]; exact cb_in8 hj hn8 (by decide)
        have hyc : y.toNatClampNeg = j := by rw [hy]; exact nI_clamp (by omega)
        refine cb_run cb_tb_ok vd_X10_leader (cuts := [39, 73]) 90 ?_
        refine And.intro (mi_v 1 (by decide)) (cb_lin hy ((hF.1 49 0 1 rfl).trans hn1) hj (by omega) (And.intro hy8 (And.intro hy8 ?_)))
        refine ih _ _ (by rw [hy, nI_1]) (hF.set _ rfl) h0 hf (fun a ha' => ?_)
        show cb_gI (cb_sI M2 89 0 y.toNatClampNeg (cb_gI M2 81 0 y.toNatClampNeg)) 89 0 a = _
        rw [hyc]
        by_cases e : a = j
        · rw [e, cb_gs_eq]
          exact hf j hj
        · rw [cb_gs_ne (fun w => e w.2.2)]
          exact hw a (by omega)
    refine first 0 (Nat.zero_le _) _ M1 rfl hX1 (hF1.1 46 0 0 rfl) (fun a ha' => ?_) (fun a ha' => absurd ha' (by omega))
    rw [← hs1]
    exact (wn_tr_lt ha').symm
