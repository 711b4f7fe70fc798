/-! ===== the reference as a value; its questions ===== -/
theorem cb_ifnz {b : Bool} {A B : Prop} (h1 : b = true → A) (h0 : b = false → B) : (¬ cb_z b = 0 → A) ∧ (¬ ¬ cb_z b = 0 → B) := by
  cases b
  · exact ⟨fun q => absurd rfl q, fun _ => h0 rfl⟩
  · exact ⟨fun _ => h1 rfl, fun q => absurd (by decide) q⟩
theorem nz_t {A B : Prop} (a : A) : (¬ cb_z true = 0 → A) ∧ (¬ ¬ cb_z true = 0 → B) := ⟨fun _ => a, fun q => absurd (by decide) q⟩
theorem nz_f {A B : Prop} (b : B) : (¬ cb_z false = 0 → A) ∧ (¬ ¬ cb_z false = 0 → B) := ⟨fun q => absurd rfl q, fun _ => b⟩
theorem ez_t {A B : Prop} (b : B) : (cb_z true = 0 → A) ∧ (¬ cb_z true = 0 → B) := ⟨fun q => absurd q (by decide), fun _ => b⟩
theorem ez_f {A B : Prop} (a : A) : (cb_z false = 0 → A) ∧ (¬ cb_z false = 0 → B) := ⟨fun _ => a, fun q => absurd rfl q⟩
theorem bad_t {M : cb_M} {K : Option cb_V → cb_M → Prop} {k : Int32} (h0 : cb_gI M 46 0 0 = 0) (hk : ¬ k = 0) (h : K (some (cb_i (cb_z true))) (cb_sI M 46 0 0 k)) : sp_X10_bad 0 [.inl 1, .inl k] M K := ⟨true, ⟨rfl, hk⟩, fun q => absurd h0 q, fun _ => ⟨fun _ => h, (fun q => by cases q)⟩⟩
theorem bad_f {M : cb_M} {K : Option cb_V → cb_M → Prop} {k : Int32} (h0 : cb_gI M 46 0 0 = 0) (hk : ¬ k = 0) (h : K (some (cb_i (cb_z false))) M) : sp_X10_bad 0 [.inl 0, .inl k] M K := ⟨false, ⟨rfl, hk⟩, fun q => absurd h0 q, fun _ => ⟨(fun q => by cases q), fun _ => h⟩⟩
theorem mi_in_f {v lo hi : Int32} (h : mi_in v lo hi = false) : v < lo ∨ hi < v := by
  have := of_decide_eq_false h
  by_cases q : v < lo
  · exact Or.inl q
  · by_cases q2 : hi < v
    · exact Or.inr q2
    · exact absurd ⟨q, q2⟩ this
theorem mi_in_t {v lo hi : Int32} (h : mi_in v lo hi = true) : ¬ (v < lo ∨ hi < v) := fun w => by
  have := of_decide_eq_true h
  exact w.elim this.1 this.2
theorem mi_in_yes {lo hi : Nat} {v : Int32} (hh : hi < 2 ^ 31) (hl : lo ≤ hi) (h : mi_in v (nI lo) (nI hi) = true) : ∃ k, lo ≤ k ∧ k ≤ hi ∧ v = nI k := wg_r_yes hh (mi_in_t h) hl
theorem mi_c_f {x : Int32} {n : Nat} (hn : n < 2 ^ 30) (h : mi_c x n = false) : wg_no x n := by
  apply Classical.byContradiction
  intro w
  rw [(mi_c_iff hn).mpr w] at h
  cases h
theorem wg_p0 {n : Nat} {x y : Int32} {X0 X1 : Prop} {C : Nat → Nat → Prop} (h : wg_p n x y X0 X1 C) (w : wg_no x n ∨ ∃ i, i < n ∧ x = nI i ∧ wg_no y n) : X0 := w.elim h.1 (fun ⟨i, hi, hx, q⟩ => (h.2 i hi hx).1 q)
/-- what the reference may write on -/
def fr_X (t j : Nat) : Bool := (Nat.ble 80 t && Nat.ble t 89) || (Nat.beq t 46 && (Nat.beq j 0 || (Nat.beq j 35 || (Nat.beq j 42 || (Nat.beq j 43 || (Nat.beq j 48 || (Nat.beq j 49 || Nat.beq j 50)))))))
theorem mx1 (M : cb_M) : cb_fr fr_X M (cb_sI M 46 0 0 0) := (cb_fr.refl M).set _ rfl
theorem mx2 (M : cb_M) (c : Int32) : cb_fr fr_X M (cb_sI (cb_sI M 46 0 0 0) 46 0 0 c) := ((cb_fr.refl M).set _ rfl).set _ rfl
theorem fr_n_X : ∀ t j, fr_n t j = true → fr_X t j = true := by
  intro t j h
  unfold fr_n at h
  simp only [Bool.or_eq_true, Bool.and_eq_true] at h
  rcases h with h | h | h | h | ⟨h, h2⟩
  · have := Nat.eq_of_beq_eq_true h; subst this; rfl
  · have := Nat.eq_of_beq_eq_true h; subst this; rfl
  · have := Nat.eq_of_beq_eq_true h; subst this; rfl
  · have := Nat.eq_of_beq_eq_true h; subst this; rfl
  · have := Nat.eq_of_beq_eq_true h
    subst this
    rcases h2 with h2 | h2
    · have := Nat.eq_of_beq_eq_true h2; subst this; rfl
    · have := Nat.eq_of_beq_eq_true h2; subst this; rfl
/-- the wall that the reference's memory holds -/
def mv (M : cb_M) (n h nb : Nat) : wV := (n, h, nb, wn_tr n (cb_gI M 68 0), wn_tr n (cb_gI M 67 0), wn_tr n (cb_gI M 55 0), wn_tr n (cb_gI M 66 0), wn_tr nb (cb_gI M 51 0), wn_tr 400 (cb_gI M 53 0), wn_tr n (cb_gI M 64 0), wn_tr n (cb_gI M 65 0), wn_tr h (cb_gI M 72 0), wn_tr h (cb_gI M 73 0), wn_tr n (cb_gI M 71 0), (fun i j => if i < n ∧ j < n then cb_gI M 63 i j else 0), mk_b M n, cb_gI M 49 0 3, cb_gI M 49 0 4)
def mi_I (M : cb_M) (n h nb : Nat) : Prop := mk_G M n ∧ (cb_gI M 49 0 2 = nI h ∧ h ≤ 6 ∧ cb_gI M 49 0 0 = nI nb ∧ nb ≤ 4) ∧ (∀ i, i < n → vp_in (cb_gI M 64 0 i) nb ∧ wm_ph (cb_gI M 69 0 i)) ∧ (∀ l, l < h → vp_in (cb_gI M 72 0 l) nb ∧ vp_in (cb_gI M 73 0 l) 20) ∧ (∃ so, so < 2 ^ n ∧ cb_gI M 49 0 4 = nI so) ∧ (∃ d, d ≤ 400 ∧ cb_gI M 46 0 33 = nI d) ∧ cb_gI M 46 0 41 = 255 ∧ cb_gI M 46 0 44 = 0 ∧ cb_gI M 46 0 45 = 0
theorem mi_I_X {M M' : cb_M} (h : cb_fr fr_X M M') {n hh nb : Nat} (hI : mi_I M n hh nb) : mi_I M' n hh nb := by
  unfold mi_I mk_G at *
  rw [h.1 49 0 1 rfl, h.1 49 0 2 rfl, h.1 49 0 0 rfl, h.1 49 0 4 rfl, h.1 46 0 33 rfl, h.1 46 0 41 rfl, h.1 46 0 44 rfl, h.1 46 0 45 rfl, h.fn 64 0 (fun _ => rfl), h.fn 65 0 (fun _ => rfl), h.fn 67 0 (fun _ => rfl), h.fn 55 0 (fun _ => rfl), h.fn 69 0 (fun _ => rfl), h.fn 72 0 (fun _ => rfl), h.fn 73 0 (fun _ => rfl)]
  exact hI
theorem mv_X {M M' : cb_M} (h : cb_fr fr_X M M') (n hh nb : Nat) : mv M' n hh nb = mv M n hh nb := by
  have e : ∀ i j, cb_gI M' 63 i j = cb_gI M 63 i j := fun i j => h.1 63 i j rfl
  unfold mv mk_b
  rw [h.1 49 0 3 rfl, h.1 49 0 4 rfl, h.1 46 0 33 rfl, h.fn 68 0 (fun _ => rfl), h.fn 67 0 (fun _ => rfl), h.fn 55 0 (fun _ => rfl), h.fn 66 0 (fun _ => rfl), h.fn 51 0 (fun _ => rfl), h.fn 53 0 (fun _ => rfl), h.fn 64 0 (fun _ => rfl), h.fn 65 0 (fun _ => rfl), h.fn 72 0 (fun _ => rfl), h.fn 73 0 (fun _ => rfl), h.fn 71 0 (fun _ => rfl), h.fn 69 0 (fun _ => rfl), h.fn 70 0 (fun _ => rfl)]
  simp only [e]
theorem mv_hear {M : cb_M} {n h nb i j : Nat} {bd pl bd' pl' : wm_F} (hi : i < n) (hj : j < n) (hb : vp_in (bd i) nb) (hnb : nb ≤ 4) (e : ∀ a, a < n → bd' a = bd a ∧ pl' a = pl a) (rt : wm_F) (ky : wm_F) : wm_hear (0, cb_gI M 68 0, bd, pl, cb_gI M 67 0, cb_gI M 51 0, ky, rt, fun i j => cb_gI M 63 i j) i j = wm_hear (vh (mv M n h nb) bd' pl') i j := by
  obtain ⟨b, hb1, -, hb2⟩ := cb_idx hb (by omega)
  have q1 : (vh (mv M n h nb) bd' pl').kd i = cb_gI M 68 0 i := wn_tr_lt hi
  have q2 : (vh (mv M n h nb) bd' pl').kd j = cb_gI M 68 0 j := wn_tr_lt hj
  have q3 : (vh (mv M n h nb) bd' pl').wt j = cb_gI M 67 0 j := wn_tr_lt hj
  have q4 : (vh (mv M n h nb) bd' pl').th (bd i).toNatClampNeg = cb_gI M 51 0 (bd i).toNatClampNeg := wn_tr_lt (by rw [hb2]; exact hb1)
  have q5 : (vh (mv M n h nb) bd' pl').hr i j = cb_gI M 63 i j := if_pos ⟨hi, hj⟩
  unfold wm_hear
  rw [show (vh (mv M n h nb) bd' pl').bd i = bd i from (e i hi).1, show (vh (mv M n h nb) bd' pl').bd j = bd j from (e j hj).1, show (vh (mv M n h nb) bd' pl').pl i = pl i from (e i hi).2, show (vh (mv M n h nb) bd' pl').pl j = pl j from (e j hj).2, q1, q2, q3, q4, q5]
theorem mv_c {M : cb_M} {n h nb : Nat} (hI : mi_I M n h nb) : mk_c M n = vc (mv M n h nb) := by
  obtain ⟨-, ⟨-, -, -, hnb⟩, hb, -⟩ := hI
  unfold mk_c vc vcc
  rw [show wn_tr (mv M n h nb).n (mv M n h nb).bd = wn_tr n (cb_gI M 64 0) from wn_tr_tr _ _]
  have e : (fun i j => if i < n ∧ j < n then wm_hear (mk_h M) i j else 0) = fun i j => if i < (mv M n h nb).n ∧ j < (mv M n h nb).n then wm_hear (vh (mv M n h nb) (mv M n h nb).bd (mv M n h nb).pl) i j else 0 := by
    funext i j
    show (if i < n ∧ j < n then _ else (0 : Int32)) = if i < n ∧ j < n then _ else 0
    by_cases q : i < n ∧ j < n
    · rw [if_pos q, if_pos q]
      exact mv_hear q.1 q.2 (hb i q.1).1 hnb (fun a ha => ⟨wn_tr_lt ha, wn_tr_lt ha⟩) _ _
    · rw [if_neg q, if_neg q]
  rw [e]
  rfl
theorem mu_all {M : cb_M} {n : Nat} (hn : n ≤ 8) (h1 : cb_gI M 46 0 41 = 255) (h2 : cb_gI M 46 0 45 = 0) : mk_u M n = wu_all n := by
  unfold mk_u wu_all
  rw [h1, h2]
  refine Prod.ext (funext fun i => ?_) (show decide (¬ (0 : Int32) = 0) = false by decide)
  show (decide (i < n) && cb_bit 255 i) = decide (i < n)
  by_cases q : i < n
  · have : ∀ i, i < 8 → cb_bit 255 i = true := by decide
    rw [this i (by omega), Bool.and_true]
  · rw [decide_eq_false q]
    rfl
theorem wu_of_all {n : Nat} (hn : n ≤ 8) : wu_of n (wm_all (nI n)) 0 = wu_all n := by
  unfold wu_of wu_all
  refine Prod.ext (funext fun i => ?_) (show decide (¬ (0 : Int32) = 0) = false by decide)
  show (decide (i < n) && cb_bit (wm_all (nI n)) i) = decide (i < n)
  by_cases q : i < n
  · rw [wm_all_bit n hn i (by omega), decide_eq_true q]
    rfl
  · rw [decide_eq_false q]
    rfl
theorem vq_tr_all {V : wV} (hn : V.n ≤ 8) (k : Nat) : vq_tr V (wm_all (nI V.n)) k = vq_on V k := by
  unfold vq_tr vq_on wq_tr
  rw [show (vc V).n = V.n from rfl, wu_of_all hn]
/-- days gone by the reference as it stands -/
theorem mg_on {M : cb_M} {n h nb : Nat} (hI : mi_I M n h nb) {K : Option cb_V → cb_M → Prop} {N : Int32} {k : Nat} (hN : N = nI k) (hk : k ≤ 400) (hK : ∀ M', cb_fr fr_n M M' → mk_P M' n → mk_s M' n = vq_on (mv M n h nb) k → K none M') : sp_X10_goesOn 0 [.inl N] M K := by
  obtain ⟨hG, -, hp, -, -, ⟨d, hd, hday⟩, hu, hw, hpr⟩ := id hI
  refine ⟨n, k, d, ⟨hG, fun i hi => (hp i hi).2, hN, by omega, hday, by omega, hpr⟩, fun M' hF hP hs _ => hK M' hF hP ?_⟩
  rw [hs hw, mv_c hI, mu_all hG.2.1 hu hpr]
  unfold vq_on
  exact (wn_days_tr k).symm
/-- the same, only those hung -/
theorem mg_tr {M : cb_M} {n h nb : Nat} (hI : mi_I M n h nb) {M0 : cb_M} {those : Int32} (e0 : M0 = cb_sI M 46 0 41 those) {K : Option cb_V → cb_M → Prop} {N : Int32} {k : Nat} (hN : N = nI k) (hk : k ≤ 400) (hK : ∀ M', cb_fr fr_n M0 M' → mk_P M' n → mk_s M' n = vq_tr (mv M n h nb) those k → K none M') : sp_X10_goesOn 0 [.inl N] M0 K := by
  obtain ⟨hG, -, hp, -, -, ⟨d, hd, hday⟩, hu, hw, hpr⟩ := id hI
  subst e0
  refine ⟨n, k, d, ⟨hG, fun i hi => (hp i hi).2, hN, by omega, hday, by omega, hpr⟩, fun M' hF hP hs _ => hK M' hF hP ?_⟩
  rw [hs hw]
  unfold vq_tr wq_tr
  rw [← mv_c hI]
  show wn_days (mk_c M n) (mk_u (cb_sI M 46 0 41 those) n) (cb_gI M 53 0) (mk_b M n) k = wn_days (mk_c M n) (wu_of n those 0) (wn_tr 400 (cb_gI M 53 0)) (mk_b M n) k
  rw [wn_days_tr]
  congr 1
  unfold mk_u wu_of
  rw [cb_gs_eq, cb_gs_ne (by omega), hpr]
def mT (c : Int32) (M : cb_M) (K : Option cb_V → cb_M → Prop) : Prop := ∀ M', cb_fr fr_X M M' → cb_gI M' 46 0 0 = c → K (some (cb_i 0)) M'
def mR (v : Int32) (M : cb_M) (K : Option cb_V → cb_M → Prop) : Prop := ∀ M', cb_fr fr_X M M' → cb_gI M' 46 0 0 = 0 → K (some (cb_i v)) M'
def sp_X10_badPair : cb_Sp := fun _ r M K => match r with
  | [.inl x, .inl y] => ∃ n, (cb_gI M 49 0 1 = nI n ∧ n ≤ 8 ∧ cb_gI M 46 0 0 = 0) ∧ ((wg_no x n ∨ ∃ i, i < n ∧ x = nI i ∧ wg_no y n) → K (some (cb_i (cb_z true))) (cb_sI M 46 0 0 1)) ∧ ∀ i, i < n → x = nI i → ∀ j, j < n → y = nI j → (i = j → K (some (cb_i (cb_z true))) (cb_sI M 46 0 0 2)) ∧ (¬ i = j → K (some (cb_i (cb_z false))) M)
  | _ => False
def pt_X10_badPair : cb_PT := cb_m 46 2 sp_X10_badPair
theorem rc_X10_badPair : cb_rc cb_tb RX10 pt_X10_badPair := cb_m_rc rfl rfl
def md_X10_badPair : cb_D := (RX10, cX10_badPair, 3, (some .boolean), (0, 0, 2, 43), [
  (0, .aload_n 0, 1, 0, 0, 0, 0),
  (1, .aload_n 0, 1, 0, 0, 0, 0),
  (2, .iload_n 1, 1, 0, 1, 0, 0),
  (3, .invokevirtual 267, 3, 0, 0, 0, 0),
  (6, .ifCond .eq 11, 3, 0, 17, 0, 0),
  (9, .aload_n 0, 1, 0, 0, 0, 0),
  (10, .iload_n 2, 1, 0, 2, 0, 0),
  (11, .invokevirtual 267, 3, 0, 0, 0, 0),
  (14, .ifCond .ne 7, 3, 0, 21, 0, 0),
  (17, .iconst 1, 1, 1, 0, 0, 0),
  (18, .goto 4, 3, 0, 22, 0, 0),
  (21, .iconst 0, 1, 0, 0, 0, 0),
  (22, .iconst 1, 1, 1, 0, 0, 0),
  (23, .invokevirtual 200, 3, 0, 1, 0, 0),
  (26, .ifCond .ne 21, 3, 0, 47, 0, 0),
  (29, .aload_n 0, 1, 0, 0, 0, 0),
  (30, .iload_n 1, 1, 0, 1, 0, 0),
  (31, .iload_n 2, 1, 0, 2, 0, 0),
  (32, .if_icmp .ne 7, 3, 0, 39, 0, 0),
  (35, .iconst 1, 1, 1, 0, 0, 0),
  (36, .goto 4, 3, 0, 40, 0, 0),
  (39, .iconst 0, 1, 0, 0, 0, 0),
  (40, .iconst 2, 1, 2, 0, 0, 0),
  (41, .invokevirtual 200, 3, 0, 1, 0, 0),
  (44, .ifCond .eq 7, 3, 0, 51, 0, 0),
  (47, .iconst 1, 1, 1, 0, 0, 0),
  (48, .goto 4, 3, 0, 52, 0, 0),
  (51, .iconst 0, 1, 0, 0, 0, 0),
  (52, .ireturn, 1, 0, 0, 0, 0)],
  [(0, 267, 2, 0, 0, pt_X10_isClock), (0, 200, 3, 0, 0, pt_X10_bad)], [])
set_option maxRecDepth 100000 in
theorem vd_X10_badPair : md_X10_badPair.cd.all (cb_vE md_X10_badPair) = true := by decide +kernel
theorem wd_X10_badPair : cb_wd yX10_badPair md_X10_badPair := ⟨cb_tw (i := 1608) (by decide +kernel), cb_tw (i := 11) (by decide +kernel), by decide, by decide⟩
theorem cs_X10_badPair : ∀ X, cb_Bs md_X10_badPair X → ∀ g ∈ md_X10_badPair.ga, cb_CS cb_tb md_X10_badPair X g := fun X B => List.forall_mem_cons.mpr ⟨cb_csV B ok_X10_isClock wd_X10_isClock (cb_tw (i := 1581) (by decide +kernel)) (cb_tw (i := 1583) (by decide +kernel)) (cb_tp (i := 58) (by decide +kernel)) rc_X10_isClock ⟨by decide, by decide⟩ (by decide +kernel), List.forall_mem_cons.mpr ⟨cb_csV B ok_X10_bad wd_X10_bad (cb_tw (i := 1507) (by decide +kernel)) (cb_tw (i := 1509) (by decide +kernel)) (cb_tp (i := 45) (by decide +kernel)) rc_X10_bad ⟨by decide, by decide⟩ (by decide +kernel), fun _ h => nomatch h⟩⟩
theorem ok_X10_badPair : cb_MOK cb_tb yX10_badPair md_X10_badPair pt_X10_badPair := by
  refine cb_okm ⟨plainFor_of_name (by decide), rfl⟩ (by decide) cs_X10_badPair (by decide) (fun X n0 f i r M hr ha h => ?_)
  have h0 := cb_a1 (T := 46) rfl ha
  subst h0
  match r, hr, h with
  | [.inl x, .inl y], hr, h =>
    obtain ⟨n, ⟨hn, hn8, h0⟩, h1, h2⟩ := h
    refine cb_run cb_tb_ok vd_X10_badPair (cuts := []) 90 ?_
    refine And.intro (cb_on rfl) ⟨n, ⟨hn, hn8⟩, cb_ifz (fun q => ?_) (fun q => And.intro (cb_on rfl) ⟨n, ⟨hn, hn8⟩, cb_ifnz (fun q1 => ?_) (fun q1 => ?_)⟩)⟩
    · exact And.intro (cb_on rfl) (bad_t h0 (by decide) (nz_t (And.intro cb_rt1 (h1 (Or.inl (mi_c_f (by omega) q))))))
    · obtain ⟨i, hi, hx⟩ := wg_yes (by omega) ((mi_c_iff (by omega)).mp q)
      obtain ⟨j, hj, hy⟩ := wg_yes (by omega) ((mi_c_iff (by omega)).mp q1)
      have h2 := h2 i hi hx j hj hy
      refine And.intro (cb_on rfl) (bad_f h0 (by decide) (nz_f (cb_ifne (fun q2 => ?_) (fun q2 => ?_))))
      · exact And.intro (cb_on rfl) (bad_f h0 (by decide) (ez_f (And.intro cb_rt0 (h2.2 (fun w => q2 (by rw [hx, hy, w]))))))
      · rw [hx, hy] at q2
        exact And.intro (cb_on rfl) (bad_t h0 (by decide) (ez_t (And.intro cb_rt1 (h2.1 ((nI_eq (by omega) (by omega)).mp q2)))))
    · obtain ⟨i, hi, hx⟩ := wg_yes (by omega) ((mi_c_iff (by omega)).mp q)
      exact And.intro (cb_on rfl) (bad_t h0 (by decide) (nz_t (And.intro cb_rt1 (h1 (Or.inr ⟨i, hi, hx, mi_c_f (by omega) q1⟩)))))
/-! questions -/
def sp_X10_told : cb_Sp := fun _ r M K => match r with
  | [.inl x] => ∃ n h nb, mi_I M n h nb ∧ wg_r 0 5 x (mT 1 M K) fun k => mR (vq_told (mv M n h nb) k) M K
  | _ => False
def pt_X10_told : cb_PT := cb_m 46 1 sp_X10_told
theorem rc_X10_told : cb_rc cb_tb RX10 pt_X10_told := cb_m_rc rfl rfl
def md_X10_told : cb_D := (RX10, cX10_told, 2, (some .int), (0, 0, 1, 22), [
  (0, .aload_n 0, 1, 0, 0, 0, 0),
  (1, .iconst 0, 1, 0, 0, 0, 0),
  (2, .putfield 126, 3, 0, 10, 0, 1328),
  (5, .aload_n 0, 1, 0, 0, 0, 0),
  (6, .iload_n 1, 1, 0, 1, 0, 0),
  (7, .iconst 0, 1, 0, 0, 0, 0),
  (8, .iconst 5, 1, 5, 0, 0, 0),
  (9, .invokestatic 160, 3, 0, 0, 0, 0),
  (12, .ifCond .ne 7, 3, 0, 19, 0, 0),
  (15, .iconst 1, 1, 1, 0, 0, 0),
  (16, .goto 4, 3, 0, 20, 0, 0),
  (19, .iconst 0, 1, 0, 0, 0, 0),
  (20, .iconst 1, 1, 1, 0, 0, 0),
  (21, .invokevirtual 200, 3, 0, 1, 0, 0),
  (24, .ifCond .eq 5, 3, 0, 29, 0, 0),
  (27, .iconst 0, 1, 0, 0, 0, 0),
  (28, .ireturn, 1, 0, 0, 0, 0),
  (29, .iload_n 1, 1, 0, 1, 0, 0),
  (30, .iconst 3, 1, 3, 0, 0, 0),
  (31, .if_icmp .ge 12, 3, 0, 43, 0, 0),
  (34, .aload_n 0, 1, 0, 0, 0, 0),
  (35, .getfield 20, 3, 0, 10, 10, 1338),
  (38, .iload_n 1, 1, 0, 1, 0, 0),
  (39, .iaload, 1, 0, 0, 0, 0),
  (40, .goto 23, 3, 0, 63, 0, 0),
  (43, .iload_n 1, 1, 0, 1, 0, 0),
  (44, .iconst 3, 1, 3, 0, 0, 0),
  (45, .if_icmp .ne 10, 3, 0, 55, 0, 0),
  (48, .aload_n 0, 1, 0, 0, 0, 0),
  (49, .getfield 210, 3, 0, 10, 33, 1361),
  (52, .goto 11, 3, 0, 63, 0, 0),
  (55, .aload_n 0, 1, 0, 0, 0, 0),
  (56, .getfield 20, 3, 0, 10, 10, 1338),
  (59, .iload_n 1, 1, 0, 1, 0, 0),
  (60, .iconst 1, 1, 1, 0, 0, 0),
  (61, .isub, 1, 0, 0, 0, 0),
  (62, .iaload, 1, 0, 0, 0, 0),
  (63, .ireturn, 1, 0, 0, 0, 0)],
  [(1, 160, 3, 0, 0, pt_X10_in), (0, 200, 3, 0, 0, pt_X10_bad)], [])
set_option maxRecDepth 100000 in
theorem vd_X10_told : md_X10_told.cd.all (cb_vE md_X10_told) = true := by decide +kernel
theorem wd_X10_told : cb_wd yX10_told md_X10_told := ⟨cb_tw (i := 1576) (by decide +kernel), cb_tw (i := 11) (by decide +kernel), by decide, by decide⟩
theorem cs_X10_told : ∀ X, cb_Bs md_X10_told X → ∀ g ∈ md_X10_told.ga, cb_CS cb_tb md_X10_told X g := fun X B => List.forall_mem_cons.mpr ⟨cb_csS B ok_X10_in wd_X10_in (cb_tw (i := 1504) (by decide +kernel)) (cb_tw (i := 1505) (by decide +kernel)) ⟨by decide, by decide⟩ (by decide +kernel), List.forall_mem_cons.mpr ⟨cb_csV B ok_X10_bad wd_X10_bad (cb_tw (i := 1507) (by decide +kernel)) (cb_tw (i := 1509) (by decide +kernel)) (cb_tp (i := 45) (by decide +kernel)) rc_X10_bad ⟨by decide, by decide⟩ (by decide +kernel), fun _ h => nomatch h⟩⟩
theorem ok_X10_told : cb_MOK cb_tb yX10_told md_X10_told pt_X10_told := by
  refine cb_okm ⟨plainFor_of_name (by decide), rfl⟩ (by decide) cs_X10_told (by decide) (fun X n0 f i r M hr ha h => ?_)
  have h0 := cb_a1 (T := 46) rfl ha
  subst h0
  match r, hr, h with
  | [.inl x], hr, h =>
    obtain ⟨n, hh, nb, hI, h⟩ := h
    obtain ⟨hG, ⟨hh1, hh6, hnb1, hnb4⟩, -⟩ := id hI
    obtain ⟨hn1, hn8, -⟩ := id hG
    refine cb_run cb_tb_ok vd_X10_told (cuts := []) 90 ?_
    refine cb_ifnz (fun q => And.intro (cb_on rfl) (bad_f rfl (by decide) (ez_f ?_))) (fun q => And.intro (cb_on rfl) (bad_t rfl (by decide) (ez_t (And.intro trivial (h.1 (mi_in_f q) _ (mx2 M 1) rfl)))))
    obtain ⟨k, k1, k2, ke⟩ := mi_in_yes (lo := 0) (hi := 5) (by decide) (by decide) q
    have h := h.2 k k1 k2 ke
    have hk : ∀ j, j < 10 → x = nI j → k = j := fun j hj e => (nI_eq (by omega) (by omega)).mp (ke.symm.trans e)
    have fin : ∀ v, v = vq_told (mv M n hh nb) k → X.K (.inl (some (cb_i v))) (cb_aS n0, f) (cb_sI M 46 0 0 0) := fun v hv => by
      rw [hv]
      exact h _ (mx1 M) rfl
    unfold vq_told at fin
    refine cb_ifge (fun q => cb_ifne (fun q1 => And.intro ?_ (And.intro trivial (fin _ ?_))) (fun q1 => And.intro trivial (fin _ ?_))) (fun q => And.intro ?_ (And.intro trivial (fin _ ?_)))
    · have q : 3 ≤ x := q
      rw [ke] at q ⊢
      have : 3 ≤ k := (nI_leI (a := 3) (by decide) (by omega)).mp q
      show vp_in (nI k - nI 1) 5
      rw [← nI_sub (by omega)]
      exact mi_v (k - 1) (by omega)
    · have q : 3 ≤ x := q
      rw [ke] at q
      have k3 : 3 ≤ k := (nI_leI (a := 3) (by decide) (by omega)).mp q
      have k4 : ¬ k = 3 := fun w => q1 (by rw [ke, w]; rfl)
      rw [if_neg (by omega), if_neg (by omega), if_neg (by omega), if_neg k4]
      have e1 : (x - 1).toNatClampNeg = k - 1 := by
        rw [ke, show (1 : Int32) = nI 1 from rfl, ← nI_sub (by omega)]
        exact nI_clamp (by omega)
      show cb_gI M 49 0 (x - 1).toNatClampNeg = _
      rw [e1]
      by_cases z : k = 4
      · rw [if_pos z, z]
        rfl
      · rw [if_neg z, show k = 5 by omega]
        rfl
    · have e := hk 3 (by omega) q1
      rw [if_neg (by omega), if_neg (by omega), if_neg (by omega), if_pos e]
      rfl
    · have q : x < 3 := q
      rw [ke] at q ⊢
      have : k < 3 := (nI_ltI (b := 3) (by omega) (by decide)).mp q
      exact mi_v k (by omega)
    · have q : x < 3 := q
      rw [ke] at q
      have k3 : k < 3 := (nI_ltI (b := 3) (by omega) (by decide)).mp q
      have e1 : x.toNatClampNeg = k := by rw [ke]; exact nI_clamp (by omega)
      show cb_gI M 49 0 x.toNatClampNeg = _
      rw [e1]
      by_cases z : k = 0
      · rw [if_pos z, z]
        exact hnb1
      · rw [if_neg z]
        by_cases z1 : k = 1
        · rw [if_pos z1, z1]
          exact hn1
        · rw [if_neg z1, if_pos (by omega), show k = 2 by omega]
          exact hh1
def sp_X10_hearing : cb_Sp := fun _ r M K => match r with
  | [.inl x, .inl y] => ∃ n h nb, mi_I M n h nb ∧ wg_p n x y (mT 1 M K) (mT 2 M K) fun i j => mR (vq_hear (mv M n h nb) i j) M K
  | _ => False
def pt_X10_hearing : cb_PT := cb_m 46 2 sp_X10_hearing
theorem rc_X10_hearing : cb_rc cb_tb RX10 pt_X10_hearing := cb_m_rc rfl rfl
def md_X10_hearing : cb_D := (RX10, cX10_hearing, 3, (some .int), (0, 0, 3, 65), [
  (0, .aload_n 0, 1, 0, 0, 0, 0),
  (1, .iconst 0, 1, 0, 0, 0, 0),
  (2, .putfield 126, 3, 0, 10, 0, 1328),
  (5, .aload_n 0, 1, 0, 0, 0, 0),
  (6, .iload_n 1, 1, 0, 1, 0, 0),
  (7, .iload_n 2, 1, 0, 2, 0, 0),
  (8, .invokevirtual 270, 3, 0, 0, 0, 0),
  (11, .ifCond .eq 5, 3, 0, 16, 0, 0),
  (14, .iconst 0, 1, 0, 0, 0, 0),
  (15, .ireturn, 1, 0, 0, 0, 0),
  (16, .aload_n 0, 1, 0, 0, 0, 0),
  (17, .iload_n 1, 1, 0, 1, 0, 0),
  (18, .iload_n 2, 1, 0, 2, 0, 0),
  (19, .invokevirtual 239, 3, 0, 1, 0, 0),
  (22, .ireturn, 1, 0, 0, 0, 0)],
  [(0, 270, 3, 0, 0, pt_X10_badPair), (0, 239, 3, 0, 0, pt_X10_hearingOf)], [])
set_option maxRecDepth 100000 in
theorem vd_X10_hearing : md_X10_hearing.cd.all (cb_vE md_X10_hearing) = true := by decide +kernel
theorem wd_X10_hearing : cb_wd yX10_hearing md_X10_hearing := ⟨cb_tw (i := 1604) (by decide +kernel), cb_tw (i := 11) (by decide +kernel), by decide, by decide⟩
theorem cs_X10_hearing : ∀ X, cb_Bs md_X10_hearing X → ∀ g ∈ md_X10_hearing.ga, cb_CS cb_tb md_X10_hearing X g := fun X B => List.forall_mem_cons.mpr ⟨cb_csV B ok_X10_badPair wd_X10_badPair (cb_tw (i := 1605) (by decide +kernel)) (cb_tw (i := 1607) (by decide +kernel)) (cb_tp (i := 63) (by decide +kernel)) rc_X10_badPair ⟨by decide, by decide⟩ (by decide +kernel), List.forall_mem_cons.mpr ⟨cb_csV B ok_X10_hearingOf wd_X10_hearingOf (cb_tw (i := 1609) (by decide +kernel)) (cb_tw (i := 1611) (by decide +kernel)) (cb_tp (i := 64) (by decide +kernel)) rc_X10_hearingOf ⟨by decide, by decide⟩ (by decide +kernel), fun _ h => nomatch h⟩⟩
theorem ok_X10_hearing : cb_MOK cb_tb yX10_hearing md_X10_hearing pt_X10_hearing := by
  refine cb_okm ⟨plainFor_of_name (by decide), rfl⟩ (by decide) cs_X10_hearing (by decide) (fun X n0 f i r M hr ha h => ?_)
  have h0 := cb_a1 (T := 46) rfl ha
  subst h0
  match r, hr, h with
  | [.inl x, .inl y], hr, h =>
    obtain ⟨n, hh, nb, hI, h⟩ := h
    obtain ⟨hG, ⟨hh1, hh6, hnb1, hnb4⟩, -⟩ := id hI
    obtain ⟨hn1, hn8, -⟩ := id hG
    refine cb_run cb_tb_ok vd_X10_hearing (cuts := []) 90 ?_
    refine And.intro (cb_on rfl) ⟨n, ⟨hn1, hn8, rfl⟩, fun w => ez_t (And.intro trivial (wg_p0 h w _ (mx2 M 1) rfl)), fun i hi hx j hj hy => ⟨fun e => ez_t (And.intro trivial (((h.2 i hi hx).2 j hj hy).1 e _ (mx2 M 2) rfl)), fun hij => ez_f ?_⟩⟩
    have h := ((h.2 i hi hx).2 j hj hy).2 hij
    refine And.intro (cb_on rfl) ⟨n, i, j, ⟨(mi_I_X (mx1 M) hI).1, hx, hi, hy, hj⟩, And.intro trivial (cb_eqK (h _ (mx1 M) rfl) ?_)⟩
    unfold vq_hear
    rw [← mv_c hI]
    exact (if_pos ⟨hi, hj⟩).symm
def sp_X10_apart : cb_Sp := fun _ r M K => match r with
  | [.inl x, .inl y] => ∃ n h nb, mi_I M n h nb ∧ wg_p n x y (mT 1 M K) (mT 2 M K) fun i j => mR (wm_ap ((mv M n h nb).s.2.1 i) ((mv M n h nb).s.2.1 j)) M K
  | _ => False
def pt_X10_apart : cb_PT := cb_m 46 2 sp_X10_apart
theorem rc_X10_apart : cb_rc cb_tb RX10 pt_X10_apart := cb_m_rc rfl rfl
def md_X10_apart : cb_D := (RX10, cX10_apart, 3, (some .int), (0, 0, 3, 65), [
  (0, .aload_n 0, 1, 0, 0, 0, 0),
  (1, .iconst 0, 1, 0, 0, 0, 0),
  (2, .putfield 126, 3, 0, 10, 0, 1328),
  (5, .aload_n 0, 1, 0, 0, 0, 0),
  (6, .iload_n 1, 1, 0, 1, 0, 0),
  (7, .iload_n 2, 1, 0, 2, 0, 0),
  (8, .invokevirtual 270, 3, 0, 0, 0, 0),
  (11, .ifCond .eq 5, 3, 0, 16, 0, 0),
  (14, .iconst 0, 1, 0, 0, 0, 0),
  (15, .ireturn, 1, 0, 0, 0, 0),
  (16, .aload_n 0, 1, 0, 0, 0, 0),
  (17, .getfield 70, 3, 0, 10, 26, 1354),
  (20, .iload_n 1, 1, 0, 1, 0, 0),
  (21, .iaload, 1, 0, 0, 0, 0),
  (22, .aload_n 0, 1, 0, 0, 0, 0),
  (23, .getfield 70, 3, 0, 10, 26, 1354),
  (26, .iload_n 2, 1, 0, 2, 0, 0),
  (27, .iaload, 1, 0, 0, 0, 0),
  (28, .invokestatic 236, 3, 0, 1, 0, 0),
  (31, .ireturn, 1, 0, 0, 0, 0)],
  [(0, 270, 3, 0, 0, pt_X10_badPair), (1, 236, 2, 0, 0, pt_X10_apartBy)], [])
set_option maxRecDepth 100000 in
theorem vd_X10_apart : md_X10_apart.cd.all (cb_vE md_X10_apart) = true := by decide +kernel
theorem wd_X10_apart : cb_wd yX10_apart md_X10_apart := ⟨cb_tw (i := 1619) (by decide +kernel), cb_tw (i := 11) (by decide +kernel), by decide, by decide⟩
theorem cs_X10_apart : ∀ X, cb_Bs md_X10_apart X → ∀ g ∈ md_X10_apart.ga, cb_CS cb_tb md_X10_apart X g := fun X B => List.forall_mem_cons.mpr ⟨cb_csV B ok_X10_badPair wd_X10_badPair (cb_tw (i := 1605) (by decide +kernel)) (cb_tw (i := 1607) (by decide +kernel)) (cb_tp (i := 63) (by decide +kernel)) rc_X10_badPair ⟨by decide, by decide⟩ (by decide +kernel), List.forall_mem_cons.mpr ⟨cb_csS B ok_X10_apartBy wd_X10_apartBy (cb_tw (i := 1620) (by decide +kernel)) (cb_tw (i := 1621) (by decide +kernel)) ⟨by decide, by decide⟩ (by decide +kernel), fun _ h => nomatch h⟩⟩
theorem ok_X10_apart : cb_MOK cb_tb yX10_apart md_X10_apart pt_X10_apart := by
  refine cb_okm ⟨plainFor_of_name (by decide), rfl⟩ (by decide) cs_X10_apart (by decide) (fun X n0 f i r M hr ha h => ?_)
  have h0 := cb_a1 (T := 46) rfl ha
  subst h0
  match r, hr, h with
  | [.inl x, .inl y], hr, h =>
    obtain ⟨n, hh, nb, hI, h⟩ := h
    obtain ⟨hG, -, hp, -⟩ := id hI
    obtain ⟨hn1, hn8, -⟩ := id hG
    refine cb_run cb_tb_ok vd_X10_apart (cuts := []) 90 ?_
    refine And.intro (cb_on rfl) ⟨n, ⟨hn1, hn8, rfl⟩, fun w => ez_t (And.intro trivial (wg_p0 h w _ (mx2 M 1) rfl)), fun i hi hx j hj hy => ⟨fun e => ez_t (And.intro trivial (((h.2 i hi hx).2 j hj hy).1 e _ (mx2 M 2) rfl)), fun hij => ez_f ?_⟩⟩
    have h := ((h.2 i hi hx).2 j hj hy).2 hij
    have hx8 : vp_in x 8 := by rw [hx]; exact cb_in8 hi hn8 (by decide)
    have hxc : x.toNatClampNeg = i := by rw [hx]; exact nI_clamp (by omega)
    have hy8 : vp_in y 8 := by rw [hy]; exact cb_in8 hj hn8 (by decide)
    have hyc : y.toNatClampNeg = j := by rw [hy]; exact nI_clamp (by omega)
    refine And.intro hx8 (And.intro hy8 (And.intro ?_ (And.intro trivial (cb_eqK (h _ (mx1 M) rfl) ?_))))
    · rw [hxc, hyc]
      exact ⟨(hp i hi).2, (hp j hj).2⟩
    · rw [hxc, hyc]
      show _ = wm_ap (wn_tr n (cb_gI M 69 0) i) (wn_tr n (cb_gI M 69 0) j)
      rw [wn_tr_lt hi, wn_tr_lt hj]
      rfl
def sp_X10_step : cb_Sp := fun _ r M K => match r with
  | [.inl x, .inl y] => ∃ n h nb, mi_I M n h nb ∧ wg_p n x y (mT 1 M K) (mT 2 M K) fun i j => mR (wm_beat (wm_ap ((mv M n h nb).s.2.1 i) ((mv M n h nb).s.2.1 j))) M K
  | _ => False
def pt_X10_step : cb_PT := cb_m 46 2 sp_X10_step
theorem rc_X10_step : cb_rc cb_tb RX10 pt_X10_step := cb_m_rc rfl rfl
def md_X10_step : cb_D := (RX10, cX10_step, 3, (some .int), (0, 0, 3, 65), [
  (0, .aload_n 0, 1, 0, 0, 0, 0),
  (1, .iconst 0, 1, 0, 0, 0, 0),
  (2, .putfield 126, 3, 0, 10, 0, 1328),
  (5, .aload_n 0, 1, 0, 0, 0, 0),
  (6, .iload_n 1, 1, 0, 1, 0, 0),
  (7, .iload_n 2, 1, 0, 2, 0, 0),
  (8, .invokevirtual 270, 3, 0, 0, 0, 0),
  (11, .ifCond .eq 5, 3, 0, 16, 0, 0),
  (14, .iconst 0, 1, 0, 0, 0, 0),
  (15, .ireturn, 1, 0, 0, 0, 0),
  (16, .aload_n 0, 1, 0, 0, 0, 0),
  (17, .getfield 70, 3, 0, 10, 26, 1354),
  (20, .iload_n 1, 1, 0, 1, 0, 0),
  (21, .iaload, 1, 0, 0, 0, 0),
  (22, .aload_n 0, 1, 0, 0, 0, 0),
  (23, .getfield 70, 3, 0, 10, 26, 1354),
  (26, .iload_n 2, 1, 0, 2, 0, 0),
  (27, .iaload, 1, 0, 0, 0, 0),
  (28, .invokestatic 280, 3, 0, 1, 0, 0),
  (31, .ireturn, 1, 0, 0, 0, 0)],
  [(0, 270, 3, 0, 0, pt_X10_badPair), (1, 280, 2, 0, 0, pt_X10_stepBy)], [])
set_option maxRecDepth 100000 in
theorem vd_X10_step : md_X10_step.cd.all (cb_vE md_X10_step) = true := by decide +kernel
theorem wd_X10_step : cb_wd yX10_step md_X10_step := ⟨cb_tw (i := 1666) (by decide +kernel), cb_tw (i := 11) (by decide +kernel), by decide, by decide⟩
theorem cs_X10_step : ∀ X, cb_Bs md_X10_step X → ∀ g ∈ md_X10_step.ga, cb_CS cb_tb md_X10_step X g := fun X B => List.forall_mem_cons.mpr ⟨cb_csV B ok_X10_badPair wd_X10_badPair (cb_tw (i := 1605) (by decide +kernel)) (cb_tw (i := 1607) (by decide +kernel)) (cb_tp (i := 63) (by decide +kernel)) rc_X10_badPair ⟨by decide, by decide⟩ (by decide +kernel), List.forall_mem_cons.mpr ⟨cb_csS B ok_X10_stepBy wd_X10_stepBy (cb_tw (i := 1667) (by decide +kernel)) (cb_tw (i := 1668) (by decide +kernel)) ⟨by decide, by decide⟩ (by decide +kernel), fun _ h => nomatch h⟩⟩
theorem ok_X10_step : cb_MOK cb_tb yX10_step md_X10_step pt_X10_step := by
  refine cb_okm ⟨plainFor_of_name (by decide), rfl⟩ (by decide) cs_X10_step (by decide) (fun X n0 f i r M hr ha h => ?_)
  have h0 := cb_a1 (T := 46) rfl ha
  subst h0
  match r, hr, h with
  | [.inl x, .inl y], hr, h =>
    obtain ⟨n, hh, nb, hI, h⟩ := h
    obtain ⟨hG, -, hp, -⟩ := id hI
    obtain ⟨hn1, hn8, -⟩ := id hG
    refine cb_run cb_tb_ok vd_X10_step (cuts := []) 90 ?_
    refine And.intro (cb_on rfl) ⟨n, ⟨hn1, hn8, rfl⟩, fun w => ez_t (And.intro trivial (wg_p0 h w _ (mx2 M 1) rfl)), fun i hi hx j hj hy => ⟨fun e => ez_t (And.intro trivial (((h.2 i hi hx).2 j hj hy).1 e _ (mx2 M 2) rfl)), fun hij => ez_f ?_⟩⟩
    have h := ((h.2 i hi hx).2 j hj hy).2 hij
    have hx8 : vp_in x 8 := by rw [hx]; exact cb_in8 hi hn8 (by decide)
    have hxc : x.toNatClampNeg = i := by rw [hx]; exact nI_clamp (by omega)
    have hy8 : vp_in y 8 := by rw [hy]; exact cb_in8 hj hn8 (by decide)
    have hyc : y.toNatClampNeg = j := by rw [hy]; exact nI_clamp (by omega)
    refine And.intro hx8 (And.intro hy8 (And.intro ?_ (And.intro trivial (cb_eqK (h _ (mx1 M) rfl) ?_))))
    · rw [hxc, hyc]
      exact ⟨(hp i hi).2, (hp j hj).2⟩
    · rw [hxc, hyc]
      show _ = wm_beat (wm_ap (wn_tr n (cb_gI M 69 0) i) (wn_tr n (cb_gI M 69 0) j))
      rw [wn_tr_lt hi, wn_tr_lt hj]
      rfl
def sp_X10_off : cb_Sp := fun _ r M K => match r with
  | [.inl x, .inl N] => ∃ n h nb, mi_I M n h nb ∧ wg_c n x (mT 1 M K) fun i => wg_r 1 100 N (mT 2 M K) fun k => mR ((vq_on (mv M n h nb) k).2.2 i) M K
  | _ => False
def pt_X10_off : cb_PT := cb_m 46 2 sp_X10_off
theorem rc_X10_off : cb_rc cb_tb RX10 pt_X10_off := cb_m_rc rfl rfl
def md_X10_off : cb_D := (RX10, cX10_off, 3, (some .int), (0, 0, 6, 134), [
  (0, .aload_n 0, 1, 0, 0, 0, 0),
  (1, .iconst 0, 1, 0, 0, 0, 0),
  (2, .putfield 126, 3, 0, 10, 0, 1328),
  (5, .aload_n 0, 1, 0, 0, 0, 0),
  (6, .aload_n 0, 1, 0, 0, 0, 0),
  (7, .iload_n 1, 1, 0, 1, 0, 0),
  (8, .invokevirtual 267, 3, 0, 0, 0, 0),
  (11, .ifCond .ne 7, 3, 0, 18, 0, 0),
  (14, .iconst 1, 1, 1, 0, 0, 0),
  (15, .goto 4, 3, 0, 19, 0, 0),
  (18, .iconst 0, 1, 0, 0, 0, 0),
  (19, .iconst 1, 1, 1, 0, 0, 0),
  (20, .invokevirtual 200, 3, 0, 1, 0, 0),
  (23, .ifCond .ne 23, 3, 0, 46, 0, 0),
  (26, .aload_n 0, 1, 0, 0, 0, 0),
  (27, .iload_n 2, 1, 0, 2, 0, 0),
  (28, .invokestatic 295, 3, 0, 2, 0, 0),
  (31, .ifCond .ne 7, 3, 0, 38, 0, 0),
  (34, .iconst 1, 1, 1, 0, 0, 0),
  (35, .goto 4, 3, 0, 39, 0, 0),
  (38, .iconst 0, 1, 0, 0, 0, 0),
  (39, .iconst 2, 1, 2, 0, 0, 0),
  (40, .invokevirtual 200, 3, 0, 1, 0, 0),
  (43, .ifCond .eq 5, 3, 0, 48, 0, 0),
  (46, .iconst 0, 1, 0, 0, 0, 0),
  (47, .ireturn, 1, 0, 0, 0, 0),
  (48, .aload_n 0, 1, 0, 0, 0, 0),
  (49, .iload_n 2, 1, 0, 2, 0, 0),
  (50, .invokevirtual 276, 3, 0, 3, 0, 0),
  (53, .aload_n 0, 1, 0, 0, 0, 0),
  (54, .getfield 97, 3, 0, 10, 38, 1366),
  (57, .iload_n 1, 1, 0, 1, 0, 0),
  (58, .iaload, 1, 0, 0, 0, 0),
  (59, .ireturn, 1, 0, 0, 0, 0)],
  [(0, 267, 2, 0, 0, pt_X10_isClock), (0, 200, 3, 0, 0, pt_X10_bad), (1, 295, 1, 0, 0, pt_X10_areDays), (0, 276, 2, 0, 0, pt_X10_goesOn)], [])
set_option maxRecDepth 100000 in
theorem vd_X10_off : md_X10_off.cd.all (cb_vE md_X10_off) = true := by decide +kernel
theorem wd_X10_off : cb_wd yX10_off md_X10_off := ⟨cb_tw (i := 1701) (by decide +kernel), cb_tw (i := 11) (by decide +kernel), by decide, by decide⟩
theorem cs_X10_off : ∀ X, cb_Bs md_X10_off X → ∀ g ∈ md_X10_off.ga, cb_CS cb_tb md_X10_off X g := fun X B => List.forall_mem_cons.mpr ⟨cb_csV B ok_X10_isClock wd_X10_isClock (cb_tw (i := 1581) (by decide +kernel)) (cb_tw (i := 1583) (by decide +kernel)) (cb_tp (i := 58) (by decide +kernel)) rc_X10_isClock ⟨by decide, by decide⟩ (by decide +kernel), List.forall_mem_cons.mpr ⟨cb_csV B ok_X10_bad wd_X10_bad (cb_tw (i := 1507) (by decide +kernel)) (cb_tw (i := 1509) (by decide +kernel)) (cb_tp (i := 45) (by decide +kernel)) rc_X10_bad ⟨by decide, by decide⟩ (by decide +kernel), List.forall_mem_cons.mpr ⟨cb_csS B ok_X10_areDays wd_X10_areDays (cb_tw (i := 1702) (by decide +kernel)) (cb_tw (i := 1703) (by decide +kernel)) ⟨by decide, by decide⟩ (by decide +kernel), List.forall_mem_cons.mpr ⟨cb_csV B ok_X10_goesOn wd_X10_goesOn (cb_tw (i := 1646) (by decide +kernel)) (cb_tw (i := 1648) (by decide +kernel)) (cb_tp (i := 68) (by decide +kernel)) rc_X10_goesOn ⟨by decide, by decide⟩ (by decide +kernel), fun _ h => nomatch h⟩⟩⟩⟩
theorem ok_X10_off : cb_MOK cb_tb yX10_off md_X10_off pt_X10_off := by
  refine cb_okm ⟨plainFor_of_name (by decide), rfl⟩ (by decide) cs_X10_off (by decide) (fun X n0 f i r M hr ha h => ?_)
  have h0 := cb_a1 (T := 46) rfl ha
  subst h0
  match r, hr, h with
  | [.inl x, .inl N], hr, h =>
    obtain ⟨n, hh, nb, hI, h⟩ := h
    obtain ⟨hG, -⟩ := id hI
    obtain ⟨hn1, hn8, -⟩ := id hG
    refine cb_run cb_tb_ok vd_X10_off (cuts := []) 90 ?_
    refine And.intro (cb_on rfl) ⟨n, ⟨hn1, hn8⟩, cb_ifnz (fun q => And.intro (cb_on rfl) (bad_f rfl (by decide) (nz_f ?_))) (fun q => And.intro (cb_on rfl) (bad_t rfl (by decide) (nz_t (And.intro trivial (h.1 (mi_c_f (by omega) q) _ (mx2 M 1) rfl)))))⟩
    obtain ⟨i, hi, hx⟩ := wg_yes (by omega) ((mi_c_iff (by omega)).mp q)
    have h := h.2 i hi hx
    refine And.intro trivial (cb_ifnz (fun q => And.intro (cb_on rfl) (bad_f rfl (by decide) (ez_f ?_))) (fun q => And.intro (cb_on rfl) (bad_t rfl (by decide) (ez_t (And.intro trivial (h.1 (mi_in_f q) _ (mx2 M 2) rfl))))))
    obtain ⟨k, k1, k2, ke⟩ := mi_in_yes (lo := 1) (hi := 100) (by decide) (by decide) q
    have h := h.2 k k1 k2 ke
    have hx8 : vp_in x 8 := by rw [hx]; exact cb_in8 hi hn8 (by decide)
    have hxc : x.toNatClampNeg = i := by rw [hx]; exact nI_clamp (by omega)
    refine And.intro (cb_on rfl) (mg_on (mi_I_X (mx1 M) hI) ke (by omega) (fun M' hF hP hs => And.intro hx8 (And.intro trivial (cb_eqK (h M' ((mx1 M).trans (hF.mono fr_n_X)) (hF.1 46 0 0 rfl)) ?_))))
    rw [hxc, ← mv_X (mx1 M), ← hs]
    exact (wn_tr_lt hi).symm
def sp_X10_pull : cb_Sp := fun _ r M K => match r with
  | [.inl x] => ∃ n h nb, mi_I M n h nb ∧ wg_c n x (mT 1 M K) fun i => mR (wn_now (vc (mv M n h nb)) (wu_all n) (mv M n h nb).s i) M K
  | _ => False
def pt_X10_pull : cb_PT := cb_m 46 1 sp_X10_pull
theorem rc_X10_pull : cb_rc cb_tb RX10 pt_X10_pull := cb_m_rc rfl rfl
def md_X10_pull : cb_D := (RX10, cX10_pull, 2, (some .int), (0, 0, 4, 89), [
  (0, .aload_n 0, 1, 0, 0, 0, 0),
  (1, .iconst 0, 1, 0, 0, 0, 0),
  (2, .putfield 126, 3, 0, 10, 0, 1328),
  (5, .aload_n 0, 1, 0, 0, 0, 0),
  (6, .aload_n 0, 1, 0, 0, 0, 0),
  (7, .iload_n 1, 1, 0, 1, 0, 0),
  (8, .invokevirtual 267, 3, 0, 0, 0, 0),
  (11, .ifCond .ne 7, 3, 0, 18, 0, 0),
  (14, .iconst 1, 1, 1, 0, 0, 0),
  (15, .goto 4, 3, 0, 19, 0, 0),
  (18, .iconst 0, 1, 0, 0, 0, 0),
  (19, .iconst 1, 1, 1, 0, 0, 0),
  (20, .invokevirtual 200, 3, 0, 1, 0, 0),
  (23, .ifCond .eq 5, 3, 0, 28, 0, 0),
  (26, .iconst 0, 1, 0, 0, 0, 0),
  (27, .ireturn, 1, 0, 0, 0, 0),
  (28, .aload_n 0, 1, 0, 0, 0, 0),
  (29, .invokevirtual 261, 3, 0, 2, 0, 0),
  (32, .aload_n 0, 1, 0, 0, 0, 0),
  (33, .invokevirtual 258, 3, 0, 3, 0, 0),
  (36, .aload_n 0, 1, 0, 0, 0, 0),
  (37, .getfield 100, 3, 0, 10, 39, 1367),
  (40, .iload_n 1, 1, 0, 1, 0, 0),
  (41, .iaload, 1, 0, 0, 0, 0),
  (42, .ireturn, 1, 0, 0, 0, 0)],
  [(0, 267, 2, 0, 0, pt_X10_isClock), (0, 200, 3, 0, 0, pt_X10_bad), (0, 261, 1, 0, 0, pt_X10_begins), (0, 258, 1, 0, 0, pt_X10_looks)], [])
set_option maxRecDepth 100000 in
theorem vd_X10_pull : md_X10_pull.cd.all (cb_vE md_X10_pull) = true := by decide +kernel
theorem wd_X10_pull : cb_wd yX10_pull md_X10_pull := ⟨cb_tw (i := 1629) (by decide +kernel), cb_tw (i := 11) (by decide +kernel), by decide, by decide⟩
theorem cs_X10_pull : ∀ X, cb_Bs md_X10_pull X → ∀ g ∈ md_X10_pull.ga, cb_CS cb_tb md_X10_pull X g := fun X B => List.forall_mem_cons.mpr ⟨cb_csV B ok_X10_isClock wd_X10_isClock (cb_tw (i := 1581) (by decide +kernel)) (cb_tw (i := 1583) (by decide +kernel)) (cb_tp (i := 58) (by decide +kernel)) rc_X10_isClock ⟨by decide, by decide⟩ (by decide +kernel), List.forall_mem_cons.mpr ⟨cb_csV B ok_X10_bad wd_X10_bad (cb_tw (i := 1507) (by decide +kernel)) (cb_tw (i := 1509) (by decide +kernel)) (cb_tp (i := 45) (by decide +kernel)) rc_X10_bad ⟨by decide, by decide⟩ (by decide +kernel), List.forall_mem_cons.mpr ⟨cb_csV B ok_X10_begins wd_X10_begins (cb_tw (i := 1585) (by decide +kernel)) (cb_tw (i := 1587) (by decide +kernel)) (cb_tp (i := 59) (by decide +kernel)) rc_X10_begins ⟨by decide, by decide⟩ (by decide +kernel), List.forall_mem_cons.mpr ⟨cb_csV B ok_X10_looks wd_X10_looks (cb_tw (i := 1630) (by decide +kernel)) (cb_tw (i := 1632) (by decide +kernel)) (cb_tp (i := 65) (by decide +kernel)) rc_X10_looks ⟨by decide, by decide⟩ (by decide +kernel), fun _ h => nomatch h⟩⟩⟩⟩
theorem ok_X10_pull : cb_MOK cb_tb yX10_pull md_X10_pull pt_X10_pull := by
  refine cb_okm ⟨plainFor_of_name (by decide), rfl⟩ (by decide) cs_X10_pull (by decide) (fun X n0 f i r M hr ha h => ?_)
  have h0 := cb_a1 (T := 46) rfl ha
  subst h0
  match r, hr, h with
  | [.inl x], hr, h =>
    obtain ⟨n, hh, nb, hI, h⟩ := h
    obtain ⟨hG, -, hp, -, -, ⟨d, hd, hday⟩, hu, hw, hpr⟩ := id hI
    obtain ⟨hn1, hn8, -⟩ := id hG
    refine cb_run cb_tb_ok vd_X10_pull (cuts := []) 90 ?_
    refine And.intro (cb_on rfl) ⟨n, ⟨hn1, hn8⟩, cb_ifnz (fun q => And.intro (cb_on rfl) (bad_f rfl (by decide) (ez_f ?_))) (fun q => And.intro (cb_on rfl) (bad_t rfl (by decide) (ez_t (And.intro trivial (h.1 (mi_c_f (by omega) q) _ (mx2 M 1) rfl)))))⟩
    obtain ⟨i, hi, hx⟩ := wg_yes (by omega) ((mi_c_iff (by omega)).mp q)
    have h := h.2 i hi hx
    have hx8 : vp_in x 8 := by rw [hx]; exact cb_in8 hi hn8 (by decide)
    have hxc : x.toNatClampNeg = i := by rw [hx]; exact nI_clamp (by omega)
    refine And.intro (cb_on rfl) ⟨n, ⟨hn1, hn8⟩, fun M1 hF1 hs1 _ => ?_⟩
    have hX1 := (mx1 M).trans (hF1.mono fr_n_X)
    have hI1 := mi_I_X hX1 hI
    have hs1 : mk_s M1 n = mk_b M n := hs1
    refine And.intro (cb_on rfl) ⟨n, d, ⟨hI1.1, ?_, ?_, by omega⟩, fun M2 hF2 hg2 hp2 => And.intro hx8 (And.intro trivial (cb_eqK (h M2 (hX1.trans ((hF2.mono fr_l2_n).mono fr_n_X)) ?_) ?_))⟩
    · rw [mk_P_s, hs1]
      intro a ha'
      show wm_ph (wn_tr n (cb_gI M 69 0) a)
      rw [wn_tr_lt ha']
      exact (hp a ha').2
    · have : (mk_s M1 n).1 = (mk_b M n).1 := by rw [hs1]
      exact this.trans hday
    · rw [hF2.1 46 0 0 rfl, hF1.1 46 0 0 rfl]
      rfl
    · rw [hxc, hp2 i hi]
      unfold wn_now mk_go
      rw [mv_c hI1, mu_all hn8 hI1.2.2.2.2.2.2.1 hI1.2.2.2.2.2.2.2.2, hs1, mv_X hX1]
      rfl
