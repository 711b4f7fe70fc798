/-! ===== keepUp, take ===== -/
def fr_k (t j : Nat) : Bool := Nat.beq t 31 || (Nat.beq t 33 || (Nat.beq t 34 || (Nat.beq t 35 || (Nat.beq t 36 || (Nat.beq t 25 && (Nat.beq j 9 || Nat.beq j 13))))))
theorem wk_c_fk {M M' : cb_M} (h : cb_fr fr_k M M') (P n : Nat) : wk_c M' P n = wk_c M P n := by
  unfold wk_c
  rw [h.fn 9 P (fun _ => rfl), h.fn 29 0 (fun _ => rfl), h.fn 30 0 (fun _ => rfl), h.fn 8 P (fun _ => rfl), h.fn 4 P (fun _ => rfl), h.fn 11 P (fun _ => rfl), h.fn 26 0 (fun _ => rfl), h.fn 14 P (fun _ => rfl)]
theorem wt_c_fk {M M' : cb_M} (h : cb_fr fr_k M M') (P n : Nat) : wt_c M' P n = wt_c M P n := by
  unfold wt_c
  rw [wk_c_fk h, h.fn 9 P (fun _ => rfl), h.fn 29 0 (fun _ => rfl), h.fn 8 P (fun _ => rfl), h.fn 11 P (fun _ => rfl), h.fn 26 0 (fun _ => rfl)]
theorem wk_T_fk {M M' : cb_M} (h : cb_fr fr_k M M') {P n : Nat} (hT : wk_T M P n) : wk_T M' P n := by
  unfold wk_T at *
  rw [h.ref, h.1 25 0 2 rfl]
  exact hT
theorem wk_B_fk {M M' : cb_M} (h : cb_fr fr_k M M') {n : Nat} (hB : wk_B M n) : wk_B M' n := by
  unfold wk_B at *
  rw [h.fn 29 0 (fun _ => rfl), h.fn 30 0 (fun _ => rfl)]
  exact hB
/-- how many pairs there can be so far -/
def wk_N (n j l : Nat) : Nat := ((List.range j).map fun a => n - 1 - a).sum + (l - 1 - j)
theorem wk_N28 : ∀ n, n ≤ 8 → ∀ j, j < n → ∀ l, l < n → j < l → wk_N n j l < 28 := by decide +kernel
theorem wk_Nl {n j l : Nat} : wk_N n j l ≤ wk_N n j (l + 1) := by unfold wk_N; omega
theorem wk_Nl1 {n j l : Nat} (h : j < l) : wk_N n j l + 1 = wk_N n j (l + 1) := by unfold wk_N; omega
theorem wk_Nj {n j : Nat} (h : j < n) : wk_N n j n = wk_N n (j + 1) 0 := by
  unfold wk_N
  rw [List.range_succ, List.map_append, List.sum_append]
  simp
/-- what stands of the pairs at a place of the two loops -/
def wk_I (M0 : cb_M) (P n : Nat) (those : Int32) (j l : Nat) (M : cb_M) : Prop := cb_fr fr_k M0 M ∧ cb_gI M 25 0 9 = those ∧ (∀ a i, a < j → i < n → cb_bit (cb_gI M 31 0 a) i = decide (¬ i = a ∧ cb_gI M0 29 0 i = cb_gI M0 29 0 a)) ∧
  ∃ m, cb_gI M 25 0 13 = nI m ∧ m ≤ wk_N n j l ∧ wk_pw M m ∧ ∀ g, wm_sum (wk_g M g) m = wm_sum (fun a => wm_sum (wk_pg (cb_bit those) (wk_h M0 P n) g a) n) j + wm_sum (wk_pg (cb_bit those) (wk_h M0 P n) g j) l
/-- the board mates of the one under way -/
def wk_J (M0 : cb_M) (n j l : Nat) (M : cb_M) : Prop := ∀ i, i < n → cb_bit (cb_gI M 31 0 j) i = decide (i < l ∧ ¬ i = j ∧ cb_gI M0 29 0 i = cb_gI M0 29 0 j)
def sp_keepUp : cb_Sp := fun _ r M K => match r with
  | [.inl those] => ∃ P n, (wk_T M P n ∧ wk_B M n) ∧ ∀ M' m, cb_fr fr_k M M' → cb_gI M' 25 0 9 = those → wk_bm M' n → (cb_gI M' 25 0 13 = nI m ∧ m ≤ 28 ∧ wk_pw M' m) → wk_pr M' P n m → K none M'
  | _ => False
def pt_X7_keepUp : cb_PT := cb_m 25 1 sp_keepUp
theorem rc_X7_keepUp : cb_rc cb_tb RX7 pt_X7_keepUp := cb_m_rc rfl rfl
def md_X7_keepUp : cb_D := (RX7, cX7_keepUp, 4, none, (0, 0, 3, 70), [
  (0, .aload_n 0, 1, 0, 0, 0, 0),
  (1, .iload_n 1, 1, 0, 1, 0, 0),
  (2, .putfield 34, 3, 0, 7, 9, 247),
  (5, .aload_n 0, 1, 0, 0, 0, 0),
  (6, .iconst 0, 1, 0, 0, 0, 0),
  (7, .putfield 47, 3, 0, 7, 13, 251),
  (10, .iconst 0, 1, 0, 0, 0, 0),
  (11, .istore_n 2, 1, 0, 2, 0, 0),
  (12, .iload_n 2, 1, 0, 2, 0, 0),
  (13, .aload_n 0, 1, 0, 0, 0, 0),
  (14, .getfield 9, 3, 0, 7, 2, 226),
  (17, .if_icmp .ge 99, 3, 0, 116, 0, 0),
  (20, .aload_n 0, 1, 0, 0, 0, 0),
  (21, .getfield 41, 3, 0, 7, 11, 249),
  (24, .iload_n 2, 1, 0, 2, 0, 0),
  (25, .iconst 0, 1, 0, 0, 0, 0),
  (26, .iastore, 1, 0, 0, 0, 0),
  (27, .iconst 0, 1, 0, 0, 0, 0),
  (28, .istore_n 3, 1, 0, 3, 0, 0),
  (29, .iload_n 3, 1, 0, 3, 0, 0),
  (30, .aload_n 0, 1, 0, 0, 0, 0),
  (31, .getfield 9, 3, 0, 7, 2, 226),
  (34, .if_icmp .ge 76, 3, 0, 110, 0, 0),
  (37, .iload_n 3, 1, 0, 3, 0, 0),
  (38, .iload_n 2, 1, 0, 2, 0, 0),
  (39, .if_icmp .eq 30, 3, 0, 69, 0, 0),
  (42, .aload_n 0, 1, 0, 0, 0, 0),
  (43, .getfield 28, 3, 0, 7, 7, 244),
  (46, .iload_n 3, 1, 0, 3, 0, 0),
  (47, .iaload, 1, 0, 0, 0, 0),
  (48, .aload_n 0, 1, 0, 0, 0, 0),
  (49, .getfield 28, 3, 0, 7, 7, 244),
  (52, .iload_n 2, 1, 0, 2, 0, 0),
  (53, .iaload, 1, 0, 0, 0, 0),
  (54, .if_icmp .ne 15, 3, 0, 69, 0, 0),
  (57, .aload_n 0, 1, 0, 0, 0, 0),
  (58, .getfield 41, 3, 0, 7, 11, 249),
  (61, .iload_n 2, 1, 0, 2, 0, 0),
  (62, .dup2, 1, 0, 0, 0, 0),
  (63, .iaload, 1, 0, 0, 0, 0),
  (64, .iconst 1, 1, 1, 0, 0, 0),
  (65, .iload_n 3, 1, 0, 3, 0, 0),
  (66, .ishl, 1, 0, 0, 0, 0),
  (67, .ior, 1, 0, 0, 0, 0),
  (68, .iastore, 1, 0, 0, 0, 0),
  (69, .iload_n 3, 1, 0, 3, 0, 0),
  (70, .iload_n 2, 1, 0, 2, 0, 0),
  (71, .if_icmp .le 33, 3, 0, 104, 0, 0),
  (74, .aload_n 0, 1, 0, 0, 0, 0),
  (75, .getfield 34, 3, 0, 7, 9, 247),
  (78, .iload_n 2, 1, 0, 2, 0, 0),
  (79, .invokestatic 107, 3, 0, 0, 0, 0),
  (82, .iconst 1, 1, 1, 0, 0, 0),
  (83, .if_icmp .ne 21, 3, 0, 104, 0, 0),
  (86, .aload_n 0, 1, 0, 0, 0, 0),
  (87, .getfield 34, 3, 0, 7, 9, 247),
  (90, .iload_n 3, 1, 0, 3, 0, 0),
  (91, .invokestatic 107, 3, 0, 0, 0, 0),
  (94, .iconst 1, 1, 1, 0, 0, 0),
  (95, .if_icmp .ne 9, 3, 0, 104, 0, 0),
  (98, .aload_n 0, 1, 0, 0, 0, 0),
  (99, .iload_n 2, 1, 0, 2, 0, 0),
  (100, .iload_n 3, 1, 0, 3, 0, 0),
  (101, .invokevirtual 110, 3, 0, 1, 0, 0),
  (104, .iinc 3 1, 3, 1, 3, 0, 0),
  (107, .goto (-78), 3, 0, 29, 0, 0),
  (110, .iinc 2 1, 3, 1, 2, 0, 0),
  (113, .goto (-101), 3, 0, 12, 0, 0),
  (116, .return_, 1, 0, 0, 0, 0)],
  [(1, 107, 2, 0, 0, pt_X9_bitOf), (0, 110, 3, 0, 0, pt_X7_keepPair)], [])
set_option maxRecDepth 100000 in
theorem vd_X7_keepUp : md_X7_keepUp.cd.all (cb_vE md_X7_keepUp) = true := by decide +kernel
theorem wd_X7_keepUp : cb_wd yX7_keepUp md_X7_keepUp := ⟨cb_tw (i := 438) (by decide +kernel), cb_tw (i := 5) (by decide +kernel), by decide, by decide⟩
theorem cs_X7_keepUp : ∀ X, cb_Bs md_X7_keepUp X → ∀ g ∈ md_X7_keepUp.ga, cb_CS cb_tb md_X7_keepUp X g := fun X B => List.forall_mem_cons.mpr ⟨cb_csN (host := "WallClocks") B ok_X9_bitOf nt_X9_bitOf wd_X9_bitOf (cb_tw (i := 439) (by decide +kernel)) (cb_tw (i := 440) (by decide +kernel)) ⟨by decide, by decide⟩ (by decide +kernel), List.forall_mem_cons.mpr ⟨cb_csV B ok_X7_keepPair wd_X7_keepPair (cb_tw (i := 442) (by decide +kernel)) (cb_tw (i := 444) (by decide +kernel)) (cb_tp (i := 2) (by decide +kernel)) rc_X7_keepPair ⟨by decide, by decide⟩ (by decide +kernel), fun _ h => nomatch h⟩⟩
theorem wk_g_set {M : cb_M} {m : Nat} {x y u v z : Int32} {g : Nat → Nat → Int32 → Int32 → Int32} {p : Nat} (h : p < m) : wk_g (cb_sI (cb_sI (cb_sI (cb_sI (cb_sI M 33 0 m x) 34 0 m y) 35 0 m u) 36 0 m v) 25 0 13 z) g p = wk_g M g p := by
  have e : ¬ p = m := by omega
  unfold wk_g
  simp [cb_gI_sI, e]
theorem wk_g_new {M : cb_M} {m : Nat} {x y u v z : Int32} {g : Nat → Nat → Int32 → Int32 → Int32} : wk_g (cb_sI (cb_sI (cb_sI (cb_sI (cb_sI M 33 0 m x) 34 0 m y) 35 0 m u) 36 0 m v) 25 0 13 z) g m = g x.toNatClampNeg y.toNatClampNeg u v := by
  unfold wk_g
  simp [cb_gI_sI]
theorem wk_I_no {M0 M : cb_M} {P n : Nat} {those : Int32} {j l : Nat} (h : wk_I M0 P n those j l M) (hz : ∀ g, wk_pg (cb_bit those) (wk_h M0 P n) g j l = 0) : wk_I M0 P n those j (l + 1) M := by
  obtain ⟨h1, h2, h3, m, h4, h5, h6, h7⟩ := h
  refine ⟨h1, h2, h3, m, h4, Nat.le_trans h5 wk_Nl, h6, fun g => ?_⟩
  rw [h7 g, wm_sum, hz g, Int32.add_zero]
theorem wk_I_yes {M0 M : cb_M} {P n : Nat} {those : Int32} {j l : Nat} (h : wk_I M0 P n those j l M) (hn : n ≤ 8) (hj : j < n) (hl : l < n) (hjl : j < l) (c1 : cb_bit those j = true) (c2 : cb_bit those l = true) (c3 : ¬ (wk_h M0 P n l j = 0 ∧ wk_h M0 P n j l = 0)) {m : Nat} (hm : cb_gI M 25 0 13 = nI m) (hm28 : m < 28) :
    wk_I M0 P n those j (l + 1) (cb_sI (cb_sI (cb_sI (cb_sI (cb_sI M 33 0 m (nI j)) 34 0 m (nI l)) 35 0 m (wk_h M0 P n j l)) 36 0 m (wk_h M0 P n l j)) 25 0 13 (nI (m + 1))) := by
  obtain ⟨h1, h2, h3, m', h4, h5, h6, h7⟩ := h
  have h28 := wk_N28 n hn j hj l hl hjl
  have e : m' = m := by
    rw [h4] at hm
    exact (nI_eq (by omega) (by omega)).mp hm
  subst e
  refine ⟨((((h1.set _ rfl).set _ rfl).set _ rfl).set _ rfl).set _ rfl, h2, h3, m' + 1, rfl, by rw [← wk_Nl1 hjl]; omega, ?_, fun g => ?_⟩
  · intro p hp
    by_cases q : p = m'
    · subst q
      simp only [cb_gI_sI]
      simp
      exact ⟨vp_in_nI (by omega) (by decide), vp_in_nI (by omega) (by decide)⟩
    · have := h6 p (by omega)
      simp only [cb_gI_sI]
      simp [q]
      exact this
  · rw [wm_sum, wm_sum_cong (g := wk_g M g) (fun p hp => wk_g_set hp), wk_g_new, h7 g, wm_sum, nI_clamp (by omega), nI_clamp (by omega), Int32.add_assoc]
    congr 2
    unfold wk_pg
    rw [if_pos ⟨hjl, c1, c2, c3⟩]
theorem ok_X7_keepUp : cb_MOK cb_tb yX7_keepUp md_X7_keepUp pt_X7_keepUp := by
  refine cb_okm ⟨plainFor_of_name (by decide), rfl⟩ (by decide) cs_X7_keepUp (by decide) (fun X n0 f i r M hr ha h => ?_)
  have h0 := cb_a1 (T := 25) rfl ha
  subst h0
  match r, hr, h with
  | [.inl those], hr, h =>
    obtain ⟨P, n, ⟨hT, hB⟩, h⟩ := h
    obtain ⟨hP, hP2, hn, hn8⟩ := id hT
    have inner : ∀ j, j < n → (∀ (x : Int32) (M' : cb_M) (v : Option cb_V), x = nI (j + 1) → wk_I M P n those (j + 1) 0 M' → cb_Gd cb_tb md_X7_keepUp X 12 [some (cb_r 25 0), some (cb_i those), some (cb_i x), v] [] (cb_aS n0, f) M' 0 0) →
        ∀ l, l ≤ n → ∀ (y : Int32) (M' : cb_M), y = nI l → wk_I M P n those j l M' → wk_J M n j l M' → cb_Gd cb_tb md_X7_keepUp X 29 [some (cb_r 25 0), some (cb_i those), some (cb_i (nI j)), some (cb_i y)] [] (cb_aS n0, f) M' 0 0 := by
      intro j hj hout
      have hxi : ∀ N, 8 ≤ N → N < 2 ^ 31 → vp_in (nI j) N := fun N h1 h2 => cb_in8 hj (by omega) h2
      have hxc : (nI j).toNatClampNeg = j := nI_clamp (by omega)
      refine cb_up (fun l => ∀ (y : Int32) (M' : cb_M), y = nI l → wk_I M P n those j l M' → wk_J M n j l M' → cb_Gd cb_tb md_X7_keepUp X 29 [some (cb_r 25 0), some (cb_i those), some (cb_i (nI j)), some (cb_i y)] [] (cb_aS n0, f) M' 0 0) ?_ ?_
      · intro y M' hy hI hJ
        obtain ⟨hF, hu, hbm, m, hm, hm28, hpw, hg⟩ := id hI
        refine cb_run cb_tb_ok vd_X7_keepUp (cuts := [12, 29]) 60 ?_
        refine cb_lout hy ((hF.1 25 0 2 rfl).trans hn) ?_
        refine hout _ M' _ (nI_1 j) ⟨hF, hu, fun a i ha' hi => ?_, m, hm, by rw [← wk_Nj hj]; exact hm28, hpw, fun g => ?_⟩
        · by_cases e : a = j
          · subst e
            rw [hJ i hi]
            simp [hi]
          · exact hbm a i (by omega) hi
        · rw [hg g]
          show wm_sum _ j + wm_sum _ n = wm_sum _ (j + 1) + 0
          rw [Int32.add_zero]
          rfl
      · intro l hl ih y M' hy hI hJ
        obtain ⟨hF, hu, hbm, m, hm, hm28, hpw, hg⟩ := id hI
        have hyi : ∀ N, 8 ≤ N → N < 2 ^ 31 → vp_in y N := fun N h1 h2 => by rw [hy]; exact cb_in8 hl (by omega) h2
        have hyc : y.toNatClampNeg = l := by rw [hy]; exact nI_clamp (by omega)
        have hbd := hF.fn 29 0 (fun _ => rfl)
        -- the second half: from 69 on
        have half : ∀ M2, wk_I M P n those j l M2 → wk_J M n j (l + 1) M2 → cb_Gd cb_tb md_X7_keepUp X 69 [some (cb_r 25 0), some (cb_i those), some (cb_i (nI j)), some (cb_i y)] [] (cb_aS n0, f) M2 0 0 := by
          intro M2 hI2 hJ2
          obtain ⟨hF2, hu2, hbm2, m2, hm2, hm282, hpw2, hg2⟩ := id hI2
          have no : (∀ g, wk_pg (cb_bit those) (wk_h M P n) g j l = 0) → cb_Gd cb_tb md_X7_keepUp X 29 [some (cb_r 25 0), some (cb_i those), some (cb_i (nI j)), some (cb_i (y + 1))] [] (cb_aS n0, f) M2 0 0 := fun hz => ih _ M2 (by rw [hy, nI_1]) (wk_I_no hI2 hz) hJ2
          have hu2' : ∀ q : Nat, cb_bit (cb_gI M2 25 0 9) q = cb_bit those q := fun q => by rw [hu2]
          refine cb_run cb_tb_ok vd_X7_keepUp (cuts := [12, 29]) 60 ?_
          refine And.intro (fun q => ?_) (fun q => And.intro (hxi 32 (by decide) (by decide)) (cb_ifn1 (fun q1 => ?_) (fun q1 => And.intro (hyi 32 (by decide) (by decide)) (cb_ifn1 (fun q2 => ?_) (fun q2 => ?_)))))
          · have q : y ≤ nI j := q
            rw [hy] at q
            have : l ≤ j := (nI_leI (by omega) (by omega)).mp q
            exact no (fun g => if_neg (fun w => absurd w.1 (by omega)))
          · rw [hxc, hu2'] at q1
            exact no (fun g => if_neg (fun w => by rw [w.2.1] at q1; cases q1))
          · rw [hyc, hu2'] at q2
            exact no (fun g => if_neg (fun w => by rw [w.2.2.1] at q2; cases q2))
          · rw [hxc, hu2'] at q1
            rw [hyc, hu2'] at q2
            have q : ¬ y ≤ nI j := q
            rw [hy] at q
            have hjl : j < l := Nat.not_le.mp (fun w => q (nI_le w (by omega)))
            have h28 := wk_N28 n hn8 j hj l hl hjl
            have eh : wk_h M2 P n = wk_h M P n := funext fun a => funext fun b => by unfold wk_h; rw [wk_c_fk hF2]
            refine And.intro (cb_on rfl) ⟨P, n, m2, j, l, ⟨wk_T_fk hF2 hT, wk_B_fk hF2 hB, rfl, hy, hj, hl, hm2, by omega⟩, fun w => ?_, fun w => ?_⟩
            · rw [eh] at w
              exact no (fun g => if_neg (fun v => v.2.2.2 w))
            · rw [eh] at w ⊢
              refine ih _ _ (by rw [hy, nI_1]) (wk_I_yes hI2 hn8 hj hl hjl q1 q2 w hm2 (by omega)) ?_
              exact hJ2
        refine cb_run cb_tb_ok vd_X7_keepUp (cuts := [12, 29, 69]) 60 ?_
        refine cb_lin hy ((hF.1 25 0 2 rfl).trans hn) hl (by omega) (And.intro (fun q => ?_) (fun q => And.intro (hyi 8 (by decide) (by decide)) (And.intro (hxi 8 (by decide) (by decide)) (cb_ifne (fun q1 => ?_) (fun q1 => And.intro (hxi 8 (by decide) (by decide)) (And.intro (hxi 8 (by decide) (by decide)) ?_))))))
        · have q : y = nI j := q
          rw [hy] at q
          have e : l = j := (nI_eq (by omega) (by omega)).mp q
          refine half M' hI (fun i hi => ?_)
          rw [hJ i hi]
          refine decide_eq_decide.mpr ⟨fun w => ⟨by omega, w.2⟩, fun w => ⟨by have := w.2.1; omega, w.2⟩⟩
        · rw [hyc, hxc, hbd] at q1
          refine half M' hI (fun i hi => ?_)
          rw [hJ i hi]
          refine decide_eq_decide.mpr ⟨fun w => ⟨by omega, w.2⟩, fun w => ⟨?_, w.2⟩⟩
          by_cases e : i = l
          · subst e
            exact absurd w.2.2 q1
          · omega
        · rw [hyc, hxc, hbd] at q1
          have hlj : ¬ l = j := fun w => q (by rw [hy, w]; rfl)
          refine half _ ⟨hF.set _ rfl, hu, fun a i ha' hi => ?_, m, hm, hm28, hpw, hg⟩ (fun i hi => ?_)
          · rw [cb_gI_sI, hxc, if_neg (fun w => absurd w.2.2 (by omega))]
            exact hbm a i ha' hi
          · rw [cb_gI_sI, hxc, if_pos ⟨rfl, rfl, rfl⟩]
            show cb_bit (cb_gI M' 31 0 j ||| 1 <<< (y &&& 31)) i = _
            rw [cb_bit_or, hy, cb_bit_one (by omega), hJ i hi, ← Bool.decide_or]
            refine decide_eq_decide.mpr ⟨fun w => w.elim (fun v => ⟨by omega, v.2⟩) (fun v => by subst v; exact ⟨by omega, hlj, q1⟩), fun w => ?_⟩
            by_cases e : i = l
            · exact Or.inr e
            · exact Or.inl ⟨by omega, w.2⟩
    have outer : ∀ j, j ≤ n → ∀ (x : Int32) (M' : cb_M) (v : Option cb_V), x = nI j → wk_I M P n those j 0 M' → cb_Gd cb_tb md_X7_keepUp X 12 [some (cb_r 25 0), some (cb_i those), some (cb_i x), v] [] (cb_aS n0, f) M' 0 0 := by
      refine cb_up (fun j => ∀ (x : Int32) (M' : cb_M) (v : Option cb_V), x = nI j → wk_I M P n those j 0 M' → cb_Gd cb_tb md_X7_keepUp X 12 [some (cb_r 25 0), some (cb_i those), some (cb_i x), v] [] (cb_aS n0, f) M' 0 0) ?_ ?_
      · intro x M' v hx hI
        obtain ⟨hF, hu, hbm, m, hm, hm28, hpw, hg⟩ := id hI
        refine cb_run cb_tb_ok vd_X7_keepUp (cuts := [12, 29]) 60 ?_
        refine cb_lout hx ((hF.1 25 0 2 rfl).trans hn) (And.intro rfl (h M' m hF hu (fun i j hi hj => ?_) ⟨hm, ?_, hpw⟩ (fun g => ?_)))
        · rw [hbm j i hj hi, hF.fn 29 0 (fun _ => rfl)]
        · have : ∀ n, n ≤ 8 → wk_N n n 0 ≤ 28 := by decide +kernel
          exact Nat.le_trans hm28 (this n hn8)
        · have e1 : wk_up M' = cb_bit those := funext fun q => by unfold wk_up; rw [hu]
          have e2 : wk_h M' P n = wk_h M P n := funext fun a => funext fun b => by unfold wk_h; rw [wk_c_fk hF]
          rw [e1, e2, hg g]
          exact Int32.add_zero _
      · intro j hj ih x M' v hx hI
        obtain ⟨hF, hu, hbm, m, hm, hm28, hpw, hg⟩ := id hI
        subst hx
        have hxc : (nI j).toNatClampNeg = j := nI_clamp (by omega)
        refine cb_run cb_tb_ok vd_X7_keepUp (cuts := [12, 29]) 60 ?_
        refine cb_lin rfl ((hF.1 25 0 2 rfl).trans hn) hj (by omega) (And.intro (cb_in8 hj hn8 (by decide)) ?_)
        refine inner j hj ih 0 (Nat.zero_le _) _ _ rfl ⟨hF.set _ rfl, hu, fun a i ha' hi => ?_, m, hm, hm28, hpw, hg⟩ (fun i hi => ?_)
        · rw [cb_gI_sI, hxc, if_neg (fun w => absurd w.2.2 (by omega))]
          exact hbm a i ha' hi
        · rw [cb_gI_sI, hxc, if_pos ⟨rfl, rfl, rfl⟩, cb_bit_zero]
          exact (decide_eq_false (fun w => absurd w.1 (by omega))).symm
    refine cb_run cb_tb_ok vd_X7_keepUp (cuts := [12, 29]) 60 ?_
    refine outer 0 (Nat.zero_le _) _ _ _ rfl ⟨((cb_fr.refl M).set _ rfl).set _ rfl, rfl, fun a i ha' hi => absurd ha' (by omega), 0, rfl, Nat.zero_le _, fun p hp => absurd hp (by omega), fun g => ?_⟩
    rfl
