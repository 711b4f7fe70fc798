/-! ===== two clocks alone ===== -/
def wp_u (n i j : Nat) : wm_U := (fun a => decide (a < n ∧ (a = i ∨ a = j)), true)
def wp_s (i j : Nat) (p q : Int32) : wm_S := (0, fun a => if a = i then p else if a = j then q else 0, fun _ => 0)
def wp_it (c : wn_C) (i j : Nat) (p q : Int32) : Nat → Int32 × Int32
  | 0 => (p, q)
  | k + 1 => ((wn_day c (wp_u c.n i j) 0 (wp_s i j (wp_it c i j p q k).1 (wp_it c i j p q k).2)).2.1 i, (wn_day c (wp_u c.n i j) 0 (wp_s i j (wp_it c i j p q k).1 (wp_it c i j p q k).2)).2.1 j)
theorem wp_run {c : wn_C} {n i j : Nat} (d : Int32) (a : Nat) : wn_run c (wp_u n i j) d a = decide (a < n ∧ (a = i ∨ a = j)) := by
  unfold wn_run wp_u
  simp
theorem wp_stp {c : wn_C} {n i j : Nat} (d d' : Int32) {ph ph' : wm_F} (hi : ph i = ph' i) (hj : ph j = ph' j) (a : Nat) : wn_stp c (wp_u n i j) d ph a = wn_stp c (wp_u n i j) d' ph' a := by
  unfold wn_stp
  refine cb_any_cong (fun b _ => ?_)
  rw [wp_run, wp_run]
  by_cases q : b < n ∧ (b = i ∨ b = j)
  · have e : ph b = ph' b := by
      rcases q.2 with rfl | rfl
      · exact hi
      · exact hj
    rw [e]
  · rw [decide_eq_false q]
    simp
theorem wp_go {c : wn_C} {n i j : Nat} (d d' : Int32) {ph ph' : wm_F} (hi : ph i = ph' i) (hj : ph j = ph' j) (a : Nat) : wn_go c (wp_u n i j) d ph a = wn_go c (wp_u n i j) d' ph' a := by
  unfold wn_go
  rw [wp_run, wp_run, wp_stp d d' hi hj]
theorem wp_drv {c : wn_C} {n i j : Nat} (d d' : Int32) {ph ph' : wm_F} (hi : ph i = ph' i) (hj : ph j = ph' j) {a : Nat} (ha : a = i ∨ a = j) : wn_drv c (wp_u n i j) d ph a = wn_drv c (wp_u n i j) d' ph' a := by
  unfold wn_drv
  refine wm_sum_cong (fun b _ => ?_)
  rw [wp_go d d' hi hj b]
  by_cases q : ¬ b = a ∧ wn_go c (wp_u n i j) d' ph' b = true
  · rw [if_pos q, if_pos q]
    have hb : b = i ∨ b = j := by
      have := q.2
      unfold wn_go at this
      rw [wp_run] at this
      simp only [Bool.and_eq_true, decide_eq_true_eq] at this
      exact this.1.2
    have e : ∀ x, x = i ∨ x = j → ph x = ph' x := fun x hx => by
      rcases hx with rfl | rfl
      · exact hi
      · exact hj
    unfold wn_T
    rw [e a ha, e b hb]
  · rw [if_neg q, if_neg q]
theorem wp_day {c : wn_C} {i j : Nat} {s s' : wm_S} {damp : Int32} (hi : s.2.1 i = s'.2.1 i) (hj : s.2.1 j = s'.2.1 j) {a : Nat} (ha : a = i ∨ a = j) : (wn_day c (wp_u c.n i j) damp s).2.1 a = (wn_day c (wp_u c.n i j) damp s').2.1 a := by
  have e : s.2.1 a = s'.2.1 a := by
    rcases ha with rfl | rfl
    · exact hi
    · exact hj
  have eg := wp_go (c := c) (n := c.n) s.1 s'.1 hi hj a
  by_cases q : a < c.n ∧ wn_go c (wp_u c.n i j) s.1 s.2.1 a = true
  · rw [(wn_day_1 q.1 q.2).1, (wn_day_1 q.1 (eg.symm.trans q.2)).1, e]
    unfold wn_by wn_pul
    rw [wp_drv s.1 s'.1 hi hj ha]
  · rw [(wn_day_0 q).1, (wn_day_0 (fun w => q ⟨w.1, eg.trans w.2⟩)).1, e]
theorem wp_it_step {c : wn_C} {i j : Nat} (hij : ¬ i = j) {p q : Int32} {k : Nat} {s : wm_S} (h : (s.2.1 i, s.2.1 j) = wp_it c i j p q k) : ((wn_day c (wp_u c.n i j) 0 s).2.1 i, (wn_day c (wp_u c.n i j) 0 s).2.1 j) = wp_it c i j p q (k + 1) := by
  have e1 : s.2.1 i = (wp_it c i j p q k).1 := by rw [← h]
  have e2 : s.2.1 j = (wp_it c i j p q k).2 := by rw [← h]
  have hi : s.2.1 i = (wp_s i j (wp_it c i j p q k).1 (wp_it c i j p q k).2).2.1 i := e1.trans (if_pos rfl).symm
  have hj : s.2.1 j = (wp_s i j (wp_it c i j p q k).1 (wp_it c i j p q k).2).2.1 j := e2.trans ((if_neg (fun w => hij w.symm)).trans (if_pos rfl)).symm
  show _ = ((wn_day c (wp_u c.n i j) 0 (wp_s i j (wp_it c i j p q k).1 (wp_it c i j p q k).2)).2.1 i, (wn_day c (wp_u c.n i j) 0 (wp_s i j (wp_it c i j p q k).1 (wp_it c i j p q k).2)).2.1 j)
  rw [wp_day hi hj (Or.inl rfl), wp_day hi hj (Or.inr rfl)]
def fr_10 (t j : Nat) : Bool := Nat.beq t 25 && Nat.beq j 10
def fr_y (t j : Nat) : Bool := fr_q t j || fr_10 t j
theorem wk_R_10 {M M' : cb_M} (h : cb_fr fr_10 M M') {P n m : Nat} (hR : wk_R M P n m) : wk_R M' P n m := by
  obtain ⟨⟨t1, t2, t3, t4⟩, hb, ⟨h1, h2, h3⟩, h4, h5⟩ := hR
  refine ⟨⟨(h.ref 25 0 0).trans t1, t2, (h.1 25 0 2 rfl).trans t3, t4⟩, ?_, ⟨(h.1 25 0 13 rfl).trans h1, h2, ?_⟩, ?_, ?_⟩
  · unfold wk_bm at *
    intro i j hi hj
    rw [h.fn 31 0 (fun _ => rfl), h.fn 29 0 (fun _ => rfl)]
    exact hb i j hi hj
  · unfold wk_pw at *
    rw [h.fn 33 0 (fun _ => rfl), h.fn 34 0 (fun _ => rfl)]
    exact h3
  · have e1 : wk_up M' = wk_up M := funext fun i => by unfold wk_up; rw [h.1 25 0 9 rfl]
    have e2 : wk_h M' P n = wk_h M P n := funext fun a => funext fun b => by
      unfold wk_h wk_c
      rw [h.fn 9 P (fun _ => rfl), h.fn 29 0 (fun _ => rfl), h.fn 30 0 (fun _ => rfl), h.fn 8 P (fun _ => rfl), h.fn 4 P (fun _ => rfl), h.fn 11 P (fun _ => rfl), h.fn 26 0 (fun _ => rfl), h.fn 14 P (fun _ => rfl)]
    have e3 : ∀ g, wk_g M' g = wk_g M g := fun g => funext fun p => by unfold wk_g; rw [h.fn 33 0 (fun _ => rfl), h.fn 34 0 (fun _ => rfl), h.fn 35 0 (fun _ => rfl), h.fn 36 0 (fun _ => rfl)]
    unfold wk_pr at *
    intro g
    rw [e1, e2, e3]
    exact h4 g
  · rw [h.fn 8 P (fun _ => rfl)]
    exact h5
theorem wk_W_y {M M' : cb_M} (h : cb_fr fr_y M M') {P n : Nat} (hW : wk_W M P n) : wk_W M' P n := by
  obtain ⟨⟨h1, h2, h3, h4⟩, hB, h5, h6, h7⟩ := hW
  refine ⟨⟨(h.ref 25 0 0).trans h1, h2, (h.1 25 0 2 rfl).trans h3, h4⟩, ?_, (h.ref 25 0 1).trans h5, ?_, (h.1 3 P 1 rfl).trans h7⟩
  · unfold wk_B at *
    rw [h.fn 29 0 (fun _ => rfl), h.fn 30 0 (fun _ => rfl)]
    exact hB
  · rw [h.fn 8 P (fun _ => rfl)]
    exact h6
theorem wt_c_y {M M' : cb_M} (h : cb_fr fr_y M M') (P n : Nat) : wt_c M' P n = wt_c M P n := by
  have e : wk_c M' P n = wk_c M P n := by
    unfold wk_c
    rw [h.fn 9 P (fun _ => rfl), h.fn 29 0 (fun _ => rfl), h.fn 30 0 (fun _ => rfl), h.fn 8 P (fun _ => rfl), h.fn 4 P (fun _ => rfl), h.fn 11 P (fun _ => rfl), h.fn 26 0 (fun _ => rfl), h.fn 14 P (fun _ => rfl)]
  unfold wt_c
  rw [e, h.fn 9 P (fun _ => rfl), h.fn 29 0 (fun _ => rfl), h.fn 8 P (fun _ => rfl), h.fn 11 P (fun _ => rfl), h.fn 26 0 (fun _ => rfl)]
theorem fr_q_y : ∀ t j, fr_q t j = true → fr_y t j = true := fun t j h => by unfold fr_y; rw [h]; rfl
theorem fr_10_y : ∀ t j, fr_10 t j = true → fr_y t j = true := fun t j h => by unfold fr_y; rw [h]; simp
def sp_X8_takeDownOthers : cb_Sp := fun _ r M K => match r with
  | [.inl x, .inl y] => ∃ P n i j, (wk_W M P n ∧ wk_Ph M n ∧ x = nI i ∧ i < n ∧ y = nI j ∧ j < n) ∧ ∀ M', cb_fr fr_y M M' → wk_Q M' P n → wt_u M' n = wp_u n i j → K none M'
  | _ => False
def pt_X8_takeDownOthers : cb_PT := cb_m 45 2 sp_X8_takeDownOthers
theorem rc_X8_takeDownOthers : cb_rc cb_tb RX8 pt_X8_takeDownOthers := cb_m_rc rfl rfl
def md_X8_takeDownOthers : cb_D := (RX8, cX8_takeDownOthers, 3, none, (0, 0, 4, 93), [
  (0, .aload_n 0, 1, 0, 0, 0, 0),
  (1, .getfield 9, 3, 0, 8, 0, 354),
  (4, .iconst 1, 1, 1, 0, 0, 0),
  (5, .iload_n 1, 1, 0, 1, 0, 0),
  (6, .ishl, 1, 0, 0, 0, 0),
  (7, .iconst 1, 1, 1, 0, 0, 0),
  (8, .iload_n 2, 1, 0, 2, 0, 0),
  (9, .ishl, 1, 0, 0, 0, 0),
  (10, .ior, 1, 0, 0, 0, 0),
  (11, .invokevirtual 15, 3, 0, 0, 0, 0),
  (14, .aload_n 0, 1, 0, 0, 0, 0),
  (15, .getfield 9, 3, 0, 8, 0, 354),
  (18, .invokevirtual 21, 3, 0, 1, 0, 0),
  (21, .return_, 1, 0, 0, 0, 0)],
  [(0, 15, 2, 0, 0, pt_X7_keepUp), (0, 21, 1, 0, 0, pt_X7_windAlways)], [])
set_option maxRecDepth 100000 in
theorem vd_X8_takeDownOthers : md_X8_takeDownOthers.cd.all (cb_vE md_X8_takeDownOthers) = true := by decide +kernel
theorem wd_X8_takeDownOthers : cb_wd yX8_takeDownOthers md_X8_takeDownOthers := ⟨cb_tw (i := 1198) (by decide +kernel), cb_tw (i := 10) (by decide +kernel), by decide, by decide⟩
theorem cs_X8_takeDownOthers : ∀ X, cb_Bs md_X8_takeDownOthers X → ∀ g ∈ md_X8_takeDownOthers.ga, cb_CS cb_tb md_X8_takeDownOthers X g := fun X B => List.forall_mem_cons.mpr ⟨cb_csV B ok_X7_keepUp wd_X7_keepUp (cb_tw (i := 1199) (by decide +kernel)) (cb_tw (i := 436) (by decide +kernel)) (cb_tw (i := 437) (by decide +kernel)) rc_X7_keepUp ⟨by decide, by decide⟩ (by decide +kernel), List.forall_mem_cons.mpr ⟨cb_csV B ok_X7_windAlways wd_X7_windAlways (cb_tw (i := 1200) (by decide +kernel)) (cb_tw (i := 1201) (by decide +kernel)) (cb_tw (i := 1202) (by decide +kernel)) rc_X7_windAlways ⟨by decide, by decide⟩ (by decide +kernel), fun _ h => nomatch h⟩⟩
theorem ok_X8_takeDownOthers : cb_MOK cb_tb yX8_takeDownOthers md_X8_takeDownOthers pt_X8_takeDownOthers := by
  refine cb_okm ⟨plainFor_of_name (by decide), rfl⟩ (by decide) cs_X8_takeDownOthers (by decide) (fun X n0 f i r M hr ha h => ?_)
  have h0 := cb_a1 (T := 45) rfl ha
  subst h0
  match r, hr, h with
  | [.inl x, .inl y], hr, h =>
    obtain ⟨P, n, i, j, ⟨hW, hph, hx, hi, hy, hj⟩, h⟩ := h
    obtain ⟨hT, hB, hq, hwt, hpn⟩ := id hW
    have hn8 := hT.2.2.2
    refine cb_run cb_tb_ok vd_X8_takeDownOthers (cuts := []) 90 ?_
    refine And.intro (cb_on rfl) ⟨P, n, ⟨hT, hB⟩, fun M5 m hF5 hu5 hbm5 hm5 hpr5 => ?_⟩
    have R5 : wk_R M5 P n m := ⟨wk_T_fk hF5 hT, hbm5, hm5, hpr5, fun i hi => by rw [hF5.1 8 P i rfl]; exact hwt i hi⟩
    have hF6 : cb_fr fr_10 M5 (cb_sI M5 25 0 10 1) := (cb_fr.refl M5).set _ rfl
    have hF : cb_fr fr_y M (cb_sI M5 25 0 10 1) := ((hF5.mono fr_k_q).mono fr_q_y).trans (hF6.mono fr_10_y)
    refine And.intro (cb_on rfl) (And.intro rfl (h _ hF ⟨wk_W_y hF hW, ?_, m, wk_R_10 hF6 R5⟩ ?_))
    · intro a ha'
      rw [hF6.1 27 0 a rfl, hF5.1 27 0 a rfl]
      exact hph a ha'
    · refine Prod.ext (funext fun a => ?_) rfl
      show (decide (a < n) && cb_bit (cb_gI M5 25 0 9) a) = decide (a < n ∧ (a = i ∨ a = j))
      rw [hu5, Bool.decide_and]
      congr 1
      show cb_bit ((1 : Int32) <<< (x &&& 31) ||| (1 : Int32) <<< (y &&& 31)) a = _
      rw [cb_bit_or, hx, hy, cb_bit_one (by omega), cb_bit_one (by omega), Bool.decide_or]
theorem wt_s_27 {M : cb_M} {n i : Nat} {p : Int32} (a : Nat) (ha : a < n) : (wt_s (cb_sI M 27 0 i p) n).2.1 a = if a = i then p else cb_gI M 27 0 a := by
  show wn_tr n _ a = _
  rw [wn_tr_lt ha, cb_gI_sI]
  by_cases e : a = i
  · rw [if_pos ⟨rfl, rfl, e⟩, if_pos e]
  · rw [if_neg (fun w => e w.2.2), if_neg e]
def sp_X8_deltaOn : cb_Sp := fun _ r M K => match r with
  | [.inl x, .inl y, .inl delta, .inl N] => ∃ P n i j k, (wk_Q M P n ∧ wt_u M n = wp_u n i j ∧ x = nI i ∧ i < n ∧ y = nI j ∧ j < n ∧ ¬ i = j ∧ N = nI k ∧ k < 2 ^ 31) ∧ ∀ M', cb_fr fr_t M M' → wk_Ph M' n → (cb_gI M' 27 0 i, cb_gI M' 27 0 j) = wp_it (wt_c M P n) i j 500 (wm_fmod (500 + delta) 1000) k → K (some (cb_i (wm_fmod ((wp_it (wt_c M P n) i j 500 (wm_fmod (500 + delta) 1000) k).2 - (wp_it (wt_c M P n) i j 500 (wm_fmod (500 + delta) 1000) k).1) 1000))) M'
  | _ => False
def pt_X8_deltaOn : cb_PT := cb_m 45 4 sp_X8_deltaOn
theorem rc_X8_deltaOn : cb_rc cb_tb RX8 pt_X8_deltaOn := cb_m_rc rfl rfl
def md_X8_deltaOn : cb_D := (RX8, cX8_deltaOn, 6, (some .int), (0, 0, 4, 89), [
  (0, .aload_n 0, 1, 0, 0, 0, 0),
  (1, .getfield 9, 3, 0, 8, 0, 354),
  (4, .iload_n 1, 1, 0, 1, 0, 0),
  (5, .sipush 500, 3, 500, 0, 0, 0),
  (8, .invokevirtual 24, 3, 0, 0, 0, 0),
  (11, .aload_n 0, 1, 0, 0, 0, 0),
  (12, .getfield 9, 3, 0, 8, 0, 354),
  (15, .iload_n 2, 1, 0, 2, 0, 0),
  (16, .sipush 500, 3, 500, 0, 0, 0),
  (19, .iload_n 3, 1, 0, 3, 0, 0),
  (20, .iadd, 1, 0, 0, 0, 0),
  (21, .invokevirtual 24, 3, 0, 0, 0, 0),
  (24, .iconst 0, 1, 0, 0, 0, 0),
  (25, .istore 5, 2, 0, 5, 0, 0),
  (27, .iload 5, 2, 0, 5, 0, 0),
  (29, .iload 4, 2, 0, 4, 0, 0),
  (31, .if_icmp .ge 17, 3, 0, 48, 0, 0),
  (34, .aload_n 0, 1, 0, 0, 0, 0),
  (35, .getfield 9, 3, 0, 8, 0, 354),
  (38, .iconst 0, 1, 0, 0, 0, 0),
  (39, .invokevirtual 28, 3, 0, 1, 0, 0),
  (42, .iinc 5 1, 3, 1, 5, 0, 0),
  (45, .goto (-18), 3, 0, 27, 0, 0),
  (48, .aload_n 0, 1, 0, 0, 0, 0),
  (49, .getfield 9, 3, 0, 8, 0, 354),
  (52, .getfield 31, 3, 0, 7, 5, 237),
  (55, .iload_n 2, 1, 0, 2, 0, 0),
  (56, .iaload, 1, 0, 0, 0, 0),
  (57, .aload_n 0, 1, 0, 0, 0, 0),
  (58, .getfield 9, 3, 0, 8, 0, 354),
  (61, .getfield 31, 3, 0, 7, 5, 237),
  (64, .iload_n 1, 1, 0, 1, 0, 0),
  (65, .iaload, 1, 0, 0, 0, 0),
  (66, .isub, 1, 0, 0, 0, 0),
  (67, .sipush 1000, 3, 1000, 0, 0, 0),
  (70, .invokestatic 35, 3, 0, 2, 0, 0),
  (73, .ireturn, 1, 0, 0, 0, 0)],
  [(0, 24, 3, 0, 0, pt_X7_setPhase), (0, 28, 2, 0, 0, pt_X7_goDay), (1, 35, 2, 0, 0, pt_J9_floorMod_7cf53)], [])
set_option maxRecDepth 100000 in
theorem vd_X8_deltaOn : md_X8_deltaOn.cd.all (cb_vE md_X8_deltaOn) = true := by decide +kernel
theorem wd_X8_deltaOn : cb_wd yX8_deltaOn md_X8_deltaOn := ⟨cb_tw (i := 1207) (by decide +kernel), cb_tw (i := 10) (by decide +kernel), by decide, by decide⟩
theorem cs_X8_deltaOn : ∀ X, cb_Bs md_X8_deltaOn X → ∀ g ∈ md_X8_deltaOn.ga, cb_CS cb_tb md_X8_deltaOn X g := fun X B => List.forall_mem_cons.mpr ⟨cb_csV B ok_X7_setPhase wd_X7_setPhase (cb_tw (i := 1208) (by decide +kernel)) (cb_tw (i := 904) (by decide +kernel)) (cb_tw (i := 905) (by decide +kernel)) rc_X7_setPhase ⟨by decide, by decide⟩ (by decide +kernel), List.forall_mem_cons.mpr ⟨cb_csV B ok_X7_goDay wd_X7_goDay (cb_tw (i := 1209) (by decide +kernel)) (cb_tw (i := 900) (by decide +kernel)) (cb_tw (i := 901) (by decide +kernel)) rc_X7_goDay ⟨by decide, by decide⟩ (by decide +kernel), List.forall_mem_cons.mpr ⟨cb_csS B ok_J9_floorMod_7cf53 wd_J9_floorMod_7cf53 (cb_tw (i := 1210) (by decide +kernel)) (cb_tw (i := 462) (by decide +kernel)) ⟨by decide, by decide⟩ (by decide +kernel), fun _ h => nomatch h⟩⟩⟩
theorem ok_X8_deltaOn : cb_MOK cb_tb yX8_deltaOn md_X8_deltaOn pt_X8_deltaOn := by
  refine cb_okm ⟨plainFor_of_name (by decide), rfl⟩ (by decide) cs_X8_deltaOn (by decide) (fun X n0 f i r M hr ha h => ?_)
  have h0 := cb_a1 (T := 45) rfl ha
  subst h0
  match r, hr, h with
  | [.inl x, .inl y, .inl delta, .inl N], hr, h =>
    obtain ⟨P, n, i, j, k, ⟨hQ, hu, hx, hi, hy, hj, hij, hN, hk⟩, h⟩ := h
    obtain ⟨hW, hph, m, hR⟩ := id hQ
    obtain ⟨hP, hP2, hn, hn8⟩ := id hW.1
    have hx8 : vp_in x 8 := by rw [hx]; exact cb_in8 hi hn8 (by decide)
    have hxc : x.toNatClampNeg = i := by rw [hx]; exact nI_clamp (by omega)
    have hy8 : vp_in y 8 := by rw [hy]; exact cb_in8 hj hn8 (by decide)
    have hyc : y.toNatClampNeg = j := by rw [hy]; exact nI_clamp (by omega)
    have loop : ∀ g, g ≤ k → ∀ (z : Int32) (M' : cb_M), z = nI g → cb_fr fr_t M M' → wk_Ph M' n → (cb_gI M' 27 0 i, cb_gI M' 27 0 j) = wp_it (wt_c M P n) i j 500 (wm_fmod (500 + delta) 1000) g → cb_Gd cb_tb md_X8_deltaOn X 27 [some (cb_r 45 0), some (cb_i (x)), some (cb_i (y)), some (cb_i (delta)), some (cb_i (N)), some (cb_i (z))] [] (cb_aS n0, f) M' 0 0 := by
      refine cb_up (fun g => ∀ (z : Int32) (M' : cb_M), z = nI g → cb_fr fr_t M M' → wk_Ph M' n → (cb_gI M' 27 0 i, cb_gI M' 27 0 j) = wp_it (wt_c M P n) i j 500 (wm_fmod (500 + delta) 1000) g → cb_Gd cb_tb md_X8_deltaOn X 27 [some (cb_r 45 0), some (cb_i (x)), some (cb_i (y)), some (cb_i (delta)), some (cb_i (N)), some (cb_i (z))] [] (cb_aS n0, f) M' 0 0) ?_ ?_
      · intro z M' hz hF hp hs
        refine cb_run cb_tb_ok vd_X8_deltaOn (cuts := [27]) 90 ?_
        refine cb_lout hz hN (And.intro hy8 (And.intro hx8 (And.intro (show ¬ (1000 : Int32) = 0 by decide) (And.intro trivial (cb_eqK (h M' hF hp hs) ?_)))))
        rw [← hs, hxc, hyc]
      · intro g hg ih z M' hz hF hp hs
        refine cb_run cb_tb_ok vd_X8_deltaOn (cuts := [27]) 90 ?_
        refine cb_lin hz hN hg hk (And.intro (cb_on rfl) ⟨P, n, m, ⟨wk_R_fr hF hR, hp⟩, fun M2 hF2 hs2 => ?_⟩)
        rw [wt_c_fr hF, wt_u_fr hF, hu] at hs2
        refine ih _ M2 (by rw [hz, nI_1]) (hF.trans hF2) ?_ ?_
        · rw [wk_Ph_s, hs2]
          exact wn_day_ph (c := wt_c M P n) (wk_Ph_s.mp hp)
        · have e : ((wt_s M' n).2.1 i, (wt_s M' n).2.1 j) = wp_it (wt_c M P n) i j 500 (wm_fmod (500 + delta) 1000) g := by
            rw [show (wt_s M' n).2.1 i = cb_gI M' 27 0 i from wn_tr_lt hi, show (wt_s M' n).2.1 j = cb_gI M' 27 0 j from wn_tr_lt hj]
            exact hs
          rw [← wp_it_step hij e, ← show (wt_s M2 n).2.1 i = cb_gI M2 27 0 i from wn_tr_lt hi, ← show (wt_s M2 n).2.1 j = cb_gI M2 27 0 j from wn_tr_lt hj, hs2]
          rfl
    refine cb_run cb_tb_ok vd_X8_deltaOn (cuts := [27]) 90 ?_
    refine And.intro (cb_on rfl) (And.intro hx8 (And.intro (cb_on rfl) (And.intro hy8 ?_)))
    have hF : cb_fr fr_t M (cb_sI (cb_sI M 27 0 x.toNatClampNeg (wm_fmod 500 1000)) 27 0 y.toNatClampNeg (wm_fmod (500 + delta) 1000)) := ((cb_fr.refl M).set _ rfl).set _ rfl
    refine loop 0 (Nat.zero_le _) _ _ rfl hF (fun a ha' => ?_) ?_
    · rw [cb_gI_sI]
      split
      · exact wm_fmod_ph _
      · rw [cb_gI_sI]
        split
        · exact wm_fmod_ph _
        · exact hph a ha'
    · rw [cb_gI_sI, cb_gI_sI, cb_gI_sI, hxc, hyc, if_neg (fun w => hij w.2.2), if_pos ⟨rfl, rfl, rfl⟩, if_pos ⟨rfl, rfl, rfl⟩]
      rfl
/-- which deltas stay: how many, the first -/
def wq_stay (p : Nat → Bool) : Nat → Int32 × Int32
  | 0 => (0, -1)
  | j + 1 => if p j = true then ((wq_stay p j).1 + 1, (if (wq_stay p j).1 = 0 then nI j else (wq_stay p j).2)) else wq_stay p j
def wp_on (c : wn_C) (i j : Nat) (delta : Int32) (k : Nat) : Int32 := wm_fmod ((wp_it c i j 500 (wm_fmod (500 + delta) 1000) k).2 - (wp_it c i j 500 (wm_fmod (500 + delta) 1000) k).1) 1000
def wp_st (c : wn_C) (i j d : Nat) : Bool := decide (wp_on c i j (nI d) 1 = nI d)
def sp_X8_deltasThatStay : cb_Sp := fun _ r M K => match r with
  | [.inl x, .inl y, .inl what] => ∃ P n i j, (wk_W M P n ∧ wk_Ph M n ∧ x = nI i ∧ i < n ∧ y = nI j ∧ j < n ∧ ¬ i = j) ∧ ∀ M', cb_fr fr_y M M' → K (some (cb_i (if what = 0 then (wq_stay (wp_st (wt_c M P n) i j) 1000).1 else (wq_stay (wp_st (wt_c M P n) i j) 1000).2))) M'
  | _ => False
theorem wt_u_ft {M M' : cb_M} (h : cb_fr fr_t M M') (n : Nat) : wt_u M' n = wt_u M n := wt_u_fr h n
def pt_X8_deltasThatStay : cb_PT := cb_m 45 3 sp_X8_deltasThatStay
theorem rc_X8_deltasThatStay : cb_rc cb_tb RX8 pt_X8_deltasThatStay := cb_m_rc rfl rfl
def md_X8_deltasThatStay : cb_D := (RX8, cX8_deltasThatStay, 7, (some .int), (0, 0, 5, 115), [
  (0, .aload_n 0, 1, 0, 0, 0, 0),
  (1, .iload_n 1, 1, 0, 1, 0, 0),
  (2, .iload_n 2, 1, 0, 2, 0, 0),
  (3, .invokevirtual 41, 3, 0, 0, 0, 0),
  (6, .iconst 0, 1, 0, 0, 0, 0),
  (7, .istore 4, 2, 0, 4, 0, 0),
  (9, .iconst (-1), 1, (-1), 0, 0, 0),
  (10, .istore 5, 2, 0, 5, 0, 0),
  (12, .iconst 0, 1, 0, 0, 0, 0),
  (13, .istore 6, 2, 0, 6, 0, 0),
  (15, .iload 6, 2, 0, 6, 0, 0),
  (17, .sipush 1000, 3, 1000, 0, 0, 0),
  (20, .if_icmp .ge 40, 3, 0, 60, 0, 0),
  (23, .aload_n 0, 1, 0, 0, 0, 0),
  (24, .iload_n 1, 1, 0, 1, 0, 0),
  (25, .iload_n 2, 1, 0, 2, 0, 0),
  (26, .iload 6, 2, 0, 6, 0, 0),
  (28, .iconst 1, 1, 1, 0, 0, 0),
  (29, .invokevirtual 44, 3, 0, 1, 0, 0),
  (32, .iload 6, 2, 0, 6, 0, 0),
  (34, .if_icmp .ne 20, 3, 0, 54, 0, 0),
  (37, .iload 4, 2, 0, 4, 0, 0),
  (39, .ifCond .ne 8, 3, 0, 47, 0, 0),
  (42, .iload 6, 2, 0, 6, 0, 0),
  (44, .goto 5, 3, 0, 49, 0, 0),
  (47, .iload 5, 2, 0, 5, 0, 0),
  (49, .istore 5, 2, 0, 5, 0, 0),
  (51, .iinc 4 1, 3, 1, 4, 0, 0),
  (54, .iinc 6 1, 3, 1, 6, 0, 0),
  (57, .goto (-42), 3, 0, 15, 0, 0),
  (60, .iload_n 3, 1, 0, 3, 0, 0),
  (61, .ifCond .ne 8, 3, 0, 69, 0, 0),
  (64, .iload 4, 2, 0, 4, 0, 0),
  (66, .goto 5, 3, 0, 71, 0, 0),
  (69, .iload 5, 2, 0, 5, 0, 0),
  (71, .ireturn, 1, 0, 0, 0, 0)],
  [(0, 41, 3, 0, 0, pt_X8_takeDownOthers), (0, 44, 5, 0, 0, pt_X8_deltaOn)], [])
set_option maxRecDepth 100000 in
theorem vd_X8_deltasThatStay : md_X8_deltasThatStay.cd.all (cb_vE md_X8_deltasThatStay) = true := by decide +kernel
theorem wd_X8_deltasThatStay : cb_wd yX8_deltasThatStay md_X8_deltasThatStay := ⟨cb_tw (i := 1194) (by decide +kernel), cb_tw (i := 10) (by decide +kernel), by decide, by decide⟩
theorem cs_X8_deltasThatStay : ∀ X, cb_Bs md_X8_deltasThatStay X → ∀ g ∈ md_X8_deltasThatStay.ga, cb_CS cb_tb md_X8_deltasThatStay X g := fun X B => List.forall_mem_cons.mpr ⟨cb_csV B ok_X8_takeDownOthers wd_X8_takeDownOthers (cb_tw (i := 1195) (by decide +kernel)) (cb_tw (i := 1196) (by decide +kernel)) (cb_tw (i := 1197) (by decide +kernel)) rc_X8_takeDownOthers ⟨by decide, by decide⟩ (by decide +kernel), List.forall_mem_cons.mpr ⟨cb_csV B ok_X8_deltaOn wd_X8_deltaOn (cb_tw (i := 1204) (by decide +kernel)) (cb_tw (i := 1205) (by decide +kernel)) (cb_tw (i := 1206) (by decide +kernel)) rc_X8_deltaOn ⟨by decide, by decide⟩ (by decide +kernel), fun _ h => nomatch h⟩⟩
theorem ok_X8_deltasThatStay : cb_MOK cb_tb yX8_deltasThatStay md_X8_deltasThatStay pt_X8_deltasThatStay := by
  refine cb_okm ⟨plainFor_of_name (by decide), rfl⟩ (by decide) cs_X8_deltasThatStay (by decide) (fun X n0 f i r M hr ha h => ?_)
  have h0 := cb_a1 (T := 45) rfl ha
  subst h0
  match r, hr, h with
  | [.inl x, .inl y, .inl what], hr, h =>
    obtain ⟨P, n, i, j, ⟨hW, hph, hx, hi, hy, hj, hij⟩, h⟩ := h
    let H : Nat → Int32 × Int32 := wq_stay (wp_st (wt_c M P n) i j)
    have loop : ∀ d, d ≤ 1000 → ∀ (z : Int32) (M' : cb_M), z = nI d → cb_fr fr_y M M' → wk_Q M' P n → wt_u M' n = wp_u n i j → cb_Gd cb_tb md_X8_deltasThatStay X 15 [some (cb_r 45 0), some (cb_i (x)), some (cb_i (y)), some (cb_i (what)), some (cb_i ((H d).1)), some (cb_i ((H d).2)), some (cb_i (z))] [] (cb_aS n0, f) M' 0 0 := by
      refine cb_up (fun d => ∀ (z : Int32) (M' : cb_M), z = nI d → cb_fr fr_y M M' → wk_Q M' P n → wt_u M' n = wp_u n i j → cb_Gd cb_tb md_X8_deltasThatStay X 15 [some (cb_r 45 0), some (cb_i (x)), some (cb_i (y)), some (cb_i (what)), some (cb_i ((H d).1)), some (cb_i ((H d).2)), some (cb_i (z))] [] (cb_aS n0, f) M' 0 0) ?_ ?_
      · intro z M' hz hF hQ hu
        refine cb_run cb_tb_ok vd_X8_deltasThatStay (cuts := [15]) 90 ?_
        refine cb_lout (N := 1000) hz rfl (cb_ifne (fun q1 => ?_) (fun q1 => ?_))
        · exact And.intro trivial (cb_eqK (h M' hF) (if_neg q1).symm)
        · exact And.intro trivial (cb_eqK (h M' hF) (if_pos q1).symm)
      · intro d hd ih z M' hz hF hQ hu
        refine cb_run cb_tb_ok vd_X8_deltasThatStay (cuts := [15]) 90 ?_
        refine cb_lin (N := 1000) hz rfl hd (by decide) (And.intro (cb_on rfl) ⟨P, n, i, j, 1, ⟨hQ, hu, hx, hi, hy, hj, hij, rfl, by decide⟩, fun M2 hF2 hp2 _ => ?_⟩)
        have nx := ih (z + 1) M2 (by rw [hz, nI_1]) (hF.trans ((hF2.mono fr_t_q).mono fr_q_y)) (wk_Q_fr hF2 hQ hp2) ((wt_u_fr hF2 n).trans hu)
        have ec := wt_c_y hF P n
        refine cb_ifne (fun q => ?_) (fun q => ?_)
        · rw [ec, hz] at q
          have e : H (d + 1) = H d := if_neg (fun w => q (of_decide_eq_true w))
          rw [e] at nx
          exact nx
        · rw [ec, hz] at q
          have e : H (d + 1) = ((H d).1 + 1, (if (H d).1 = 0 then nI d else (H d).2)) := if_pos (decide_eq_true q)
          rw [e, ← hz] at nx
          refine cb_ifne (fun q1 => ?_) (fun q1 => ?_)
          · rw [if_neg q1] at nx
            exact nx
          · rw [if_pos q1] at nx
            exact nx
    refine cb_run cb_tb_ok vd_X8_deltasThatStay (cuts := [15]) 90 ?_
    exact And.intro (cb_on rfl) ⟨P, n, i, j, ⟨hW, hph, hx, hi, hy, hj⟩, fun M2 hF2 hQ2 hu2 => loop 0 (Nat.zero_le _) _ M2 rfl hF2 hQ2 hu2⟩
/-- how many come to that beat -/
def wp_be (c : wn_C) (i j : Nat) (delta : Int32) (k : Nat) : Int32 := wm_beat (wm_ap (wp_it c i j 500 (wm_fmod (500 + delta) 1000) k).1 (wp_it c i j 500 (wm_fmod (500 + delta) 1000) k).2)
def sp_X8_deltasThatCome : cb_Sp := fun _ r M K => match r with
  | [.inl x, .inl y, .inl N, .inl beat] => ∃ P n i j k, (wk_W M P n ∧ wk_Ph M n ∧ x = nI i ∧ i < n ∧ y = nI j ∧ j < n ∧ ¬ i = j ∧ N = nI k ∧ k < 2 ^ 31) ∧ ∀ M', cb_fr fr_y M M' → K (some (cb_i (wm_sum (fun d => if wp_be (wt_c M P n) i j (nI (10 * d)) k = beat then 1 else 0) 100))) M'
  | _ => False
def pt_X8_deltasThatCome : cb_PT := cb_m 45 4 sp_X8_deltasThatCome
theorem rc_X8_deltasThatCome : cb_rc cb_tb RX8 pt_X8_deltasThatCome := cb_m_rc rfl rfl
def md_X8_deltasThatCome : cb_D := (RX8, cX8_deltasThatCome, 7, (some .int), (0, 0, 5, 115), [
  (0, .aload_n 0, 1, 0, 0, 0, 0),
  (1, .iload_n 1, 1, 0, 1, 0, 0),
  (2, .iload_n 2, 1, 0, 2, 0, 0),
  (3, .invokevirtual 41, 3, 0, 0, 0, 0),
  (6, .iconst 0, 1, 0, 0, 0, 0),
  (7, .istore 5, 2, 0, 5, 0, 0),
  (9, .iconst 0, 1, 0, 0, 0, 0),
  (10, .istore 6, 2, 0, 6, 0, 0),
  (12, .iload 6, 2, 0, 6, 0, 0),
  (14, .sipush 1000, 3, 1000, 0, 0, 0),
  (17, .if_icmp .ge 43, 3, 0, 60, 0, 0),
  (20, .aload_n 0, 1, 0, 0, 0, 0),
  (21, .iload_n 1, 1, 0, 1, 0, 0),
  (22, .iload_n 2, 1, 0, 2, 0, 0),
  (23, .iload 6, 2, 0, 6, 0, 0),
  (25, .iload_n 3, 1, 0, 3, 0, 0),
  (26, .invokevirtual 44, 3, 0, 1, 0, 0),
  (29, .pop, 1, 0, 0, 0, 0),
  (30, .iload 5, 2, 0, 5, 0, 0),
  (32, .aload_n 0, 1, 0, 0, 0, 0),
  (33, .getfield 9, 3, 0, 8, 0, 354),
  (36, .iload_n 1, 1, 0, 1, 0, 0),
  (37, .iload_n 2, 1, 0, 2, 0, 0),
  (38, .invokevirtual 48, 3, 0, 2, 0, 0),
  (41, .iload 4, 2, 0, 4, 0, 0),
  (43, .if_icmp .ne 7, 3, 0, 50, 0, 0),
  (46, .iconst 1, 1, 1, 0, 0, 0),
  (47, .goto 4, 3, 0, 51, 0, 0),
  (50, .iconst 0, 1, 0, 0, 0, 0),
  (51, .iadd, 1, 0, 0, 0, 0),
  (52, .istore 5, 2, 0, 5, 0, 0),
  (54, .iinc 6 10, 3, 10, 6, 0, 0),
  (57, .goto (-45), 3, 0, 12, 0, 0),
  (60, .iload 5, 2, 0, 5, 0, 0),
  (62, .ireturn, 1, 0, 0, 0, 0)],
  [(0, 41, 3, 0, 0, pt_X8_takeDownOthers), (0, 44, 5, 0, 0, pt_X8_deltaOn), (0, 48, 3, 0, 0, pt_X7_beatOf)], [])
set_option maxRecDepth 100000 in
theorem vd_X8_deltasThatCome : md_X8_deltasThatCome.cd.all (cb_vE md_X8_deltasThatCome) = true := by decide +kernel
theorem wd_X8_deltasThatCome : cb_wd yX8_deltasThatCome md_X8_deltasThatCome := ⟨cb_tw (i := 1230) (by decide +kernel), cb_tw (i := 10) (by decide +kernel), by decide, by decide⟩
theorem cs_X8_deltasThatCome : ∀ X, cb_Bs md_X8_deltasThatCome X → ∀ g ∈ md_X8_deltasThatCome.ga, cb_CS cb_tb md_X8_deltasThatCome X g := fun X B => List.forall_mem_cons.mpr ⟨cb_csV B ok_X8_takeDownOthers wd_X8_takeDownOthers (cb_tw (i := 1195) (by decide +kernel)) (cb_tw (i := 1196) (by decide +kernel)) (cb_tw (i := 1197) (by decide +kernel)) rc_X8_takeDownOthers ⟨by decide, by decide⟩ (by decide +kernel), List.forall_mem_cons.mpr ⟨cb_csV B ok_X8_deltaOn wd_X8_deltaOn (cb_tw (i := 1204) (by decide +kernel)) (cb_tw (i := 1205) (by decide +kernel)) (cb_tw (i := 1206) (by decide +kernel)) rc_X8_deltaOn ⟨by decide, by decide⟩ (by decide +kernel), List.forall_mem_cons.mpr ⟨cb_csV B ok_X7_beatOf wd_X7_beatOf (cb_tw (i := 1231) (by decide +kernel)) (cb_tw (i := 491) (by decide +kernel)) (cb_tw (i := 492) (by decide +kernel)) rc_X7_beatOf ⟨by decide, by decide⟩ (by decide +kernel), fun _ h => nomatch h⟩⟩⟩
theorem ok_X8_deltasThatCome : cb_MOK cb_tb yX8_deltasThatCome md_X8_deltasThatCome pt_X8_deltasThatCome := by
  refine cb_okm ⟨plainFor_of_name (by decide), rfl⟩ (by decide) cs_X8_deltasThatCome (by decide) (fun X n0 f i r M hr ha h => ?_)
  have h0 := cb_a1 (T := 45) rfl ha
  subst h0
  match r, hr, h with
  | [.inl x, .inl y, .inl N, .inl beat], hr, h =>
    obtain ⟨P, n, i, j, k, ⟨hW, hph, hx, hi, hy, hj, hij, hN, hk⟩, h⟩ := h
    have hn8 := hW.1.2.2.2
    have hx8 : vp_in x 8 := by rw [hx]; exact cb_in8 hi hn8 (by decide)
    have hxc : x.toNatClampNeg = i := by rw [hx]; exact nI_clamp (by omega)
    have hy8 : vp_in y 8 := by rw [hy]; exact cb_in8 hj hn8 (by decide)
    have hyc : y.toNatClampNeg = j := by rw [hy]; exact nI_clamp (by omega)
    have loop : ∀ d, d ≤ 100 → ∀ (z m : Int32) (M' : cb_M), z = nI (10 * d) → m = wm_sum (fun d => if wp_be (wt_c M P n) i j (nI (10 * d)) k = beat then 1 else 0) d → cb_fr fr_y M M' → wk_Q M' P n → wt_u M' n = wp_u n i j → cb_Gd cb_tb md_X8_deltasThatCome X 12 [some (cb_r 45 0), some (cb_i (x)), some (cb_i (y)), some (cb_i (N)), some (cb_i (beat)), some (cb_i (m)), some (cb_i (z))] [] (cb_aS n0, f) M' 0 0 := by
      refine cb_up (fun d => ∀ (z m : Int32) (M' : cb_M), z = nI (10 * d) → m = wm_sum (fun d => if wp_be (wt_c M P n) i j (nI (10 * d)) k = beat then 1 else 0) d → cb_fr fr_y M M' → wk_Q M' P n → wt_u M' n = wp_u n i j → cb_Gd cb_tb md_X8_deltasThatCome X 12 [some (cb_r 45 0), some (cb_i (x)), some (cb_i (y)), some (cb_i (N)), some (cb_i (beat)), some (cb_i (m)), some (cb_i (z))] [] (cb_aS n0, f) M' 0 0) ?_ ?_
      · intro z m M' hz hm hF hQ hu
        refine cb_run cb_tb_ok vd_X8_deltasThatCome (cuts := [12]) 90 ?_
        refine cb_lout (N := 1000) hz rfl (And.intro trivial (cb_eqK (h M' hF) hm))
      · intro d hd ih z m M' hz hm hF hQ hu
        refine cb_run cb_tb_ok vd_X8_deltasThatCome (cuts := [12]) 90 ?_
        refine cb_lin (N := 1000) (n := 1000) hz rfl (by omega) (by decide) (And.intro (cb_on rfl) ⟨P, n, i, j, k, ⟨hQ, hu, hx, hi, hy, hj, hij, hN, hk⟩, fun M2 hF2 hp2 hs2 => And.intro (cb_on rfl) (And.intro ⟨hx8, hy8⟩ ?_)⟩)
        have ec := wt_c_y hF P n
        rw [ec, hz] at hs2
        have eb : wm_beat (wm_ap (cb_gI M2 27 0 x.toNatClampNeg) (cb_gI M2 27 0 y.toNatClampNeg)) = wp_be (wt_c M P n) i j (nI (10 * d)) k := by
          unfold wp_be
          rw [← hs2, hxc, hyc]
        have nx := fun m' hm' => ih (z + 10) m' M2 (by rw [hz, show (10 : Int32) = nI 10 from rfl, nI_add]; rfl) hm' (hF.trans ((hF2.mono fr_t_q).mono fr_q_y)) (wk_Q_fr hF2 hQ hp2) ((wt_u_fr hF2 n).trans hu)
        refine cb_ifne (fun q => ?_) (fun q => ?_)
        · rw [eb] at q
          refine nx _ ?_
          rw [wm_sum, if_neg q, hm]
        · rw [eb] at q
          refine nx _ ?_
          rw [wm_sum, if_pos q, hm]
    refine cb_run cb_tb_ok vd_X8_deltasThatCome (cuts := [12]) 90 ?_
    exact And.intro (cb_on rfl) ⟨P, n, i, j, ⟨hW, hph, hx, hi, hy, hj⟩, fun M2 hF2 hQ2 hu2 => loop 0 (Nat.zero_le _) _ _ M2 rfl rfl hF2 hQ2 hu2⟩
