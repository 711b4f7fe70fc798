/-! ===== days, undo, feed ===== -/
def fr_o (t _j : Nat) : Bool := Nat.beq t 16 || (Nat.beq t 17 || Nat.beq t 23)
def fr_D (t j : Nat) : Bool := fr_Z t j || fr_o t j
theorem fr_Z_D : ∀ t j, fr_Z t j = true → fr_D t j = true := fun t j h => by unfold fr_D; rw [h]; rfl
theorem fr_o_D : ∀ t j, fr_o t j = true → fr_D t j = true := fun t j h => by unfold fr_D; rw [h]; simp
theorem wk_R_o {M M' : cb_M} (h : cb_fr fr_o M M') {P n m : Nat} (hR : wk_R M P n m) : wk_R M' P n m := by
  obtain ⟨⟨t1, t2, t3, t4⟩, hb, ⟨h1, h2, h3⟩, h4, h5⟩ := hR
  refine ⟨⟨(h.ref 25 0 0).trans t1, t2, (h.1 25 0 2 rfl).trans t3, t4⟩, ?_, ⟨(h.1 25 0 13 rfl).trans h1, h2, ?_⟩, ?_, ?_⟩
  · unfold wk_bm at *
    intro i j hi hj
    rw [h.fn 31 0 (fun _ => rfl), h.fn 29 0 (fun _ => rfl)]
    exact hb i j hi hj
  · unfold wk_pw at *
    rw [h.fn 33 0 (fun _ => rfl), h.fn 34 0 (fun _ => rfl)]
    exact h3
  · have e1 : wk_up M' = wk_up M := funext fun i => by unfold wk_up; rw [h.1 25 0 9 rfl]
    have e3 : ∀ g, wk_g M' g = wk_g M g := fun g => funext fun p => by unfold wk_g; rw [h.fn 33 0 (fun _ => rfl), h.fn 34 0 (fun _ => rfl), h.fn 35 0 (fun _ => rfl), h.fn 36 0 (fun _ => rfl)]
    have e2 : wk_h M' P n = wk_h M P n := by
      unfold wk_h wk_c
      rw [h.fn 9 P (fun _ => rfl), h.fn 14 P (fun _ => rfl), h.fn 8 P (fun _ => rfl), h.fn 4 P (fun _ => rfl), h.fn 29 0 (fun _ => rfl), h.fn 30 0 (fun _ => rfl), h.fn 11 P (fun _ => rfl), h.fn 26 0 (fun _ => rfl)]
    unfold wk_pr at *
    intro g
    rw [e1, e2, e3]
    exact h4 g
  · rw [h.fn 8 P (fun _ => rfl)]
    exact h5
theorem wt_c_o {M M' : cb_M} (h : cb_fr fr_o M M') (P n : Nat) : wt_c M' P n = wt_c M P n := by
  unfold wt_c wk_c
  rw [h.fn 9 P (fun _ => rfl), h.fn 14 P (fun _ => rfl), h.fn 8 P (fun _ => rfl), h.fn 4 P (fun _ => rfl), h.fn 29 0 (fun _ => rfl), h.fn 30 0 (fun _ => rfl), h.fn 11 P (fun _ => rfl), h.fn 26 0 (fun _ => rfl)]
theorem wt_u_o {M M' : cb_M} (h : cb_fr fr_o M M') (n : Nat) : wt_u M' n = wt_u M n := by
  unfold wt_u
  rw [h.1 25 0 9 rfl, h.1 25 0 10 rfl]
theorem wt_s_o {M M' : cb_M} (h : cb_fr fr_o M M') (n : Nat) : wt_s M' n = wt_s M n := by
  unfold wt_s
  rw [h.1 25 0 3 rfl, h.fn 27 0 (fun _ => rfl), h.fn 28 0 (fun _ => rfl)]
theorem wk_Ph_o {M M' : cb_M} (h : cb_fr fr_o M M') {n : Nat} (hp : wk_Ph M n) : wk_Ph M' n := by
  unfold wk_Ph at *
  rw [h.fn 27 0 (fun _ => rfl)]
  exact hp
theorem nI_sub {a b : Nat} (h : b ≤ a) : nI (a - b) = nI a - nI b := by
  have e : nI a = nI (a - b) + nI b := by rw [nI_add]; congr 1; omega
  rw [e, Int32.add_sub_cancel]
theorem wm_min_nI {a b : Nat} (ha : a < 2 ^ 31) (hb : b < 2 ^ 31) : wm_min (nI a) (nI b) = nI (min a b) := by
  unfold wm_min
  by_cases h : b < a
  · rw [if_pos (nI_lt h ha), Nat.min_eq_right (by omega)]
  · rw [if_neg (Int32.not_lt.mpr (nI_le (by omega) hb)), Nat.min_eq_left (by omega)]
/-- so many days have gone -/
def vd_days (M : cb_M) (n d : Nat) (S : Nat → wm_S) (k : Nat) (M' : cb_M) : Prop := cb_fx fr_D M M' ∧ (∀ t i j, t < 25 → ¬ i = 0 → cb_gI M' t i j = cb_gI M t i j) ∧ cb_gI M' 16 0 0 = nI (d + k) ∧ (∀ i, i < n → cb_gI M' 17 0 i = (S k).2.2 i) ∧ (∀ x, x < d * 8 → cb_gI M' 23 0 x = cb_gI M 23 0 x) ∧ ∀ e, e < k → ∀ i, i < n → cb_gI M' 23 0 ((d + e) * 8 + i) = (S e).2.2 i
def sp_X9_days : cb_Sw := fun r M K => match r with
  | [.inl N] => ∃ P n h nb d, (wa_I M P n h nb ∧ cb_gI M 16 0 0 = nI d ∧ d ≤ 400) ∧ wg_r 1 400 N (K (.inr 1) M) fun k => ∀ M', vd_days M n d (vq_on (va M P n h nb)) (min k (400 - d)) M' → K (.inl (some (cb_i (nI (min k (400 - d)))))) M'
  | _ => False
def pt_X9_days : cb_PT := cb_wm 1 sp_X9_days
theorem rc_X9_days : cb_rc cb_tb RX9 pt_X9_days := cb_wm_rc
def md_X9_days : cb_D := (RX9, cX9_days, 4, (some .int), (1, 6, 7, 135), [
  (0, .iload_n 1, 1, 0, 1, 0, 0),
  (1, .iconst 1, 1, 1, 0, 0, 0),
  (2, .sipush 400, 3, 400, 0, 0, 0),
  (5, .invokestatic 101, 3, 0, 0, 0, 0),
  (8, .iload_n 1, 1, 0, 1, 0, 0),
  (9, .sipush 400, 3, 400, 0, 0, 0),
  (12, .aload_n 0, 1, 0, 0, 0, 0),
  (13, .getfield 40, 3, 0, 9, 6, 364),
  (16, .getfield 123, 3, 0, 3, 0, 170),
  (19, .isub, 1, 0, 0, 0, 0),
  (20, .invokestatic 188, 3, 0, 1, 0, 0),
  (23, .istore_n 2, 1, 0, 2, 0, 0),
  (24, .aload_n 0, 1, 0, 0, 0, 0),
  (25, .invokevirtual 162, 3, 0, 2, 0, 0),
  (28, .pop, 1, 0, 0, 0, 0),
  (29, .iconst 0, 1, 0, 0, 0, 0),
  (30, .istore_n 3, 1, 0, 3, 0, 0),
  (31, .iload_n 3, 1, 0, 3, 0, 0),
  (32, .iload_n 2, 1, 0, 2, 0, 0),
  (33, .if_icmp .ge 42, 3, 0, 75, 0, 0),
  (36, .aload_n 0, 1, 0, 0, 0, 0),
  (37, .getfield 40, 3, 0, 9, 6, 364),
  (40, .aload_n 0, 1, 0, 0, 0, 0),
  (41, .getfield 30, 3, 0, 9, 4, 362),
  (44, .getfield 114, 3, 0, 4, 1, 72),
  (47, .invokevirtual 193, 3, 0, 3, 0, 0),
  (50, .aload_n 0, 1, 0, 0, 0, 0),
  (51, .getfield 56, 3, 0, 9, 9, 367),
  (54, .iconst 1, 1, 1, 0, 0, 0),
  (55, .invokevirtual 196, 3, 0, 4, 0, 0),
  (58, .aload_n 0, 1, 0, 0, 0, 0),
  (59, .getfield 40, 3, 0, 9, 6, 364),
  (62, .aload_n 0, 1, 0, 0, 0, 0),
  (63, .getfield 56, 3, 0, 9, 9, 367),
  (66, .invokevirtual 199, 3, 0, 5, 0, 0),
  (69, .iinc 3 1, 3, 1, 3, 0, 0),
  (72, .goto (-41), 3, 0, 31, 0, 0),
  (75, .iload_n 2, 1, 0, 2, 0, 0),
  (76, .ireturn, 1, 0, 0, 0, 0)],
  [(1, 101, 3, 1, 6, pt_X9_needWithin), (1, 188, 2, 0, 0, pt_J9_min_7cf53), (0, 162, 1, 0, 0, pt_X9_asTheyHang), (0, 193, 2, 0, 0, pt_X3_keepPast), (0, 196, 2, 0, 0, pt_X7_goDays), (0, 199, 2, 0, 0, pt_X3_takeOver)], [])
set_option maxRecDepth 100000 in
theorem vd_X9_days : md_X9_days.cd.all (cb_vE md_X9_days) = true := by decide +kernel
theorem wd_X9_days : cb_wd yX9_days md_X9_days := ⟨cb_tw (i := 885) (by decide +kernel), cb_tw (i := 1) (by decide +kernel), by decide, by decide⟩
theorem cs_X9_days : ∀ X, cb_Bs md_X9_days X → ∀ g ∈ md_X9_days.ga, cb_CS cb_tb md_X9_days X g := fun X B => List.forall_mem_cons.mpr ⟨cb_csS B ok_X9_needWithin wd_X9_needWithin (cb_tw (i := 548) (by decide +kernel)) (cb_tw (i := 549) (by decide +kernel)) ⟨by decide, by decide⟩ (by decide +kernel), List.forall_mem_cons.mpr ⟨cb_csS B ok_J9_min_7cf53 wd_J9_min_7cf53 (cb_tw (i := 886) (by decide +kernel)) (cb_tw (i := 485) (by decide +kernel)) ⟨by decide, by decide⟩ (by decide +kernel), List.forall_mem_cons.mpr ⟨cb_csV B ok_X9_asTheyHang wd_X9_asTheyHang (cb_tw (i := 420) (by decide +kernel)) (cb_tw (i := 422) (by decide +kernel)) (cb_tp (i := 1) (by decide +kernel)) rc_X9_asTheyHang ⟨by decide, by decide⟩ (by decide +kernel), List.forall_mem_cons.mpr ⟨cb_csV B ok_X3_keepPast wd_X3_keepPast (cb_tw (i := 887) (by decide +kernel)) (cb_tw (i := 888) (by decide +kernel)) (cb_tw (i := 889) (by decide +kernel)) rc_X3_keepPast ⟨by decide, by decide⟩ (by decide +kernel), List.forall_mem_cons.mpr ⟨cb_csV B ok_X7_goDays wd_X7_goDays (cb_tw (i := 891) (by decide +kernel)) (cb_tw (i := 892) (by decide +kernel)) (cb_tw (i := 893) (by decide +kernel)) rc_X7_goDays ⟨by decide, by decide⟩ (by decide +kernel), List.forall_mem_cons.mpr ⟨cb_csV B ok_X3_takeOver wd_X3_takeOver (cb_tw (i := 908) (by decide +kernel)) (cb_tw (i := 909) (by decide +kernel)) (cb_tw (i := 910) (by decide +kernel)) rc_X3_takeOver ⟨by decide, by decide⟩ (by decide +kernel), fun _ h => nomatch h⟩⟩⟩⟩⟩⟩
theorem ok_X9_days : cb_MOK cb_tb yX9_days md_X9_days pt_X9_days := by
  refine cb_okw0 ⟨plainFor_of_name (by decide), rfl⟩ (by decide) cs_X9_days (by decide) (fun X n0 f r M hr h => ?_)
  match r, hr, h with
  | [.inl N], hr, h =>
    obtain ⟨P, n, hh, nb, d, ⟨hI, hd, hd4⟩, h⟩ := h
    obtain ⟨hP, hS, hH, -⟩ := id hI
    have hn8 := hS.2.2.1
    refine cb_run cb_tb_ok vd_X9_days (cuts := [31]) 90 ?_
    refine wg_r_i (lo := 1) (hi := 400) (by decide) (by decide) h (fun k h1 h2 hN h => ?_)
    refine And.intro trivial (And.intro (cb_on rfl) ⟨P, n, ⟨hP, hS⟩, fun M1 m hK => ?_⟩)
    obtain ⟨V, hV⟩ : ∃ V, V = va M P n hh nb := ⟨_, rfl⟩
    obtain ⟨kk, hkk⟩ : ∃ kk, kk = min k (400 - d) := ⟨_, rfl⟩
    have hkd : d + kk ≤ 400 := by omega
    rw [← hV, ← hkk] at h
    have emin : wm_min N (400 - cb_gI M 16 0 0) = nI kk := by
      rw [hN, hd, show (400 : Int32) - nI d = nI (400 - d) from (nI_sub hd4).symm, wm_min_nI (by omega) (by omega), ← hkk]
    show cb_Gd cb_tb md_X9_days X 31 [some (cb_r 0 0), some (cb_i (N)), some (cb_i (wm_min N (400 - cb_gI M 16 0 0))), some (cb_i (0))] [] (cb_aS n0, f) M1 1 6
    rw [emin]
    have hday : ∀ g, (vq_on V g).1 = nI (d + g) := fun g => by
      unfold vq_on
      rw [wn_days_day, show V.s.1 = nI d by rw [hV]; exact hd, nI_add]
    have loop : ∀ g, g ≤ kk → ∀ (y : Int32) (M2 : cb_M), y = nI g → vd_days M n d (vq_on V) g M2 → wk_R M2 P n m → wk_Ph M2 n → wt_s M2 n = vq_on V g → wt_c M2 P n = wt_c M1 P n → wt_u M2 n = wt_u M1 n → cb_Gd cb_tb md_X9_days X 31 [some (cb_r 0 0), some (cb_i (N)), some (cb_i (nI kk)), some (cb_i (y))] [] (cb_aS n0, f) M2 1 6 := by
      refine cb_up (fun g => ∀ (y : Int32) (M2 : cb_M), y = nI g → vd_days M n d (vq_on V) g M2 → wk_R M2 P n m → wk_Ph M2 n → wt_s M2 n = vq_on V g → wt_c M2 P n = wt_c M1 P n → wt_u M2 n = wt_u M1 n → cb_Gd cb_tb md_X9_days X 31 [some (cb_r 0 0), some (cb_i (N)), some (cb_i (nI kk)), some (cb_i (y))] [] (cb_aS n0, f) M2 1 6) ?_ ?_
      · intro y M2 hy hD _ _ _ _ _
        refine cb_run cb_tb_ok vd_X9_days (cuts := [31]) 90 ?_
        exact cb_lout hy rfl (And.intro trivial (h M2 hD))
      · intro g hg ih y M2 hy hD hR hp hs hc hu
        obtain ⟨hfx, hin, hd2, hof, hpa, hpb⟩ := id hD
        have hcl : cb_gI M2 3 P 1 = nI n := (hfx.1 3 P 1 rfl).trans hS.2.1
        refine cb_run cb_tb_ok vd_X9_days (cuts := [31]) 90 ?_
        refine cb_lin hy rfl hg (by omega) (Exists.intro (some P) (And.intro ((hfx.2.1 0 0 4 (by decide)).trans hP) (cb_av.of (cb_aPP hS.1 rfl) (And.intro (cb_on rfl) ⟨d + g, n, ⟨hd2, by omega, hcl, hn8⟩, ?_⟩))))
        obtain ⟨M3, hM3⟩ : ∃ M3, M3 = cb_cp M2 17 0 0 23 0 ((d + g) * 8) n := ⟨_, rfl⟩
        rw [← hM3]
        have hF3 : cb_fr fr_o M2 M3 := by rw [hM3]; exact (cb_fr.refl M2).cp (fun _ => rfl)
        refine And.intro (cb_on rfl) ⟨P, n, m, 1, ⟨wk_R_o hF3 hR, wk_Ph_o hF3 hp, rfl, by decide⟩, fun M4 hF4 hs4 hp4 => ?_⟩
        have hR4 := wk_R_fr hF4 (wk_R_o hF3 hR)
        refine And.intro (cb_on rfl) ⟨n, ⟨rfl, hR4.1.2.2.1, hn8⟩, ?_⟩
        obtain ⟨M5, hM5⟩ : ∃ M5, M5 = cb_cp (cb_sI M4 16 0 0 (cb_gI M4 25 0 3)) 28 0 0 17 0 0 n := ⟨_, rfl⟩
        rw [← hM5]
        have hF5 : cb_fr fr_o M4 M5 := by rw [hM5]; exact ((cb_fr.refl M4).set _ rfl).cp (fun _ => rfl)
        have e4 : wt_s M4 n = vq_on V (g + 1) := by
          obtain ⟨ec, eu⟩ := wk_K_c hK
          rw [hs4, wt_c_o hF3, wt_u_o hF3, wt_s_o hF3, hc, hu, hs, ec, eu, va_c hI, hF3.fn 15 P (fun _ => rfl), hfx.fn 15 P (fun _ => rfl)]
          unfold vq_on
          rw [hV, show (va M P n hh nb).dp = wn_tr 400 (cb_gI M 15 P) from rfl, wn_days_tr, wn_days_tr]
          rfl
        have i4 : ∀ t i j, t < 25 → cb_gI M4 t i j = cb_gI M3 t i j := fun t i j ht => hF4.1 t i j (by
          have : ∀ t, t < 25 → Nat.beq t 27 = false ∧ Nat.beq t 28 = false ∧ Nat.beq t 32 = false ∧ Nat.beq t 25 = false := by decide
          obtain ⟨a1, a2, a3, a4⟩ := this t ht
          unfold fr_t
          rw [a1, a2, a3, a4]
          rfl)
        have c3 : ∀ t i j, cb_gI M3 t i j = if t = 23 ∧ i = 0 then va_cpy (cb_gI M2 17 0) (cb_gI M2 23 0) 0 ((d + g) * 8) n j else cb_gI M2 t i j := fun t i j => by rw [hM3, cb_gI_cp]
        have c5 : ∀ t i j, cb_gI M5 t i j = if t = 17 ∧ i = 0 then va_cpy (cb_gI M4 28 0) (cb_gI M4 17 0) 0 0 n j else if t = 16 ∧ i = 0 ∧ j = 0 then cb_gI M4 25 0 3 else cb_gI M4 t i j := fun t i j => by
          rw [hM5, cb_gI_cp]
          by_cases q : t = 17 ∧ i = 0
          · rw [if_pos q, if_pos q]
            rfl
          · rw [if_neg q, if_neg q, cb_gI_sI]
        have g23 : ∀ j, cb_gI M5 23 0 j = va_cpy (cb_gI M2 17 0) (cb_gI M2 23 0) 0 ((d + g) * 8) n j := fun j => by
          rw [c5, if_neg (by omega), if_neg (by omega), i4 23 0 j (by decide), c3, if_pos ⟨rfl, rfl⟩]
        refine ih _ M5 (by rw [hy, nI_1]) ⟨?_, ?_, ?_, ?_, ?_, ?_⟩ (wk_R_o hF5 hR4) (wk_Ph_o hF5 hp4) ((wt_s_o hF5 n).trans e4) ?_ ?_
        · exact ((hfx.trans (hF3.fx fr_o_D)).trans (hF4.fx (fun t j q => fr_Z_D t j (fr_t_Z t j q)))).trans (hF5.fx fr_o_D)
        · intro t i j ht hi
          rw [c5, if_neg (fun w => hi w.2), if_neg (fun w => hi w.2.1), i4 t i j ht, c3, if_neg (fun w => hi w.2)]
          exact hin t i j ht hi
        · rw [c5, if_neg (by omega), if_pos ⟨rfl, rfl, rfl⟩]
          have := hday (g + 1)
          rw [← e4] at this
          exact this
        · intro i hi
          rw [c5, if_pos ⟨rfl, rfl⟩, ← e4]
          unfold va_cpy
          rw [if_pos (by omega)]
          show cb_gI M4 28 0 (0 + (i - 0)) = wn_tr n (cb_gI M4 28 0) i
          rw [wn_tr_lt hi, show 0 + (i - 0) = i by omega]
        · intro x hx
          rw [g23]
          unfold va_cpy
          rw [if_neg (by omega)]
          exact hpa x hx
        · intro e he i hi
          rw [g23]
          unfold va_cpy
          by_cases q : e = g
          · subst q
            rw [if_pos (by omega), show 0 + ((d + e) * 8 + i - (d + e) * 8) = i by omega]
            exact hof i hi
          · rw [if_neg (by omega)]
            exact hpb e (by omega) i hi
        · rw [wt_c_o hF5, wt_c_fr hF4, wt_c_o hF3, hc]
        · rw [wt_u_o hF5, wt_u_fr hF4, wt_u_o hF3, hu]
    have hZ := hK.1.mono (fun t j q => fr_Z_D t j (fr_T_Z t j q))
    have lo : ∀ t i j, t < 25 → cb_gI M1 t i j = cb_gI M t i j := fun t i j ht => hK.1.1 t i j (by
      have : ∀ t, t < 25 → Nat.ble 25 t = false := by decide
      unfold fr_T
      rw [this t ht]
      rfl)
    refine loop 0 (Nat.zero_le _) _ M1 rfl ⟨hZ, fun t i j ht _ => lo t i j ht, by rw [lo 16 0 0 (by decide)]; exact hd, fun i hi => ?_, fun x _ => lo 23 0 x (by decide), fun e he => absurd he (by omega)⟩ hK.2.1 hK.2.2.1 ?_ rfl rfl
    · rw [lo 17 0 i (by decide), hV]
      exact (wn_tr_lt hi).symm
    · rw [hK.2.2.2.2.2.1, hV]
      rfl
def sp_X9_undo : cb_Sw := fun r M K => match r with
  | [.inl N] => ∃ P n h nb d, (wa_I M P n h nb ∧ cb_gI M 16 0 0 = nI d ∧ d ≤ 400) ∧ wg_r 1 400 N (K (.inr 1) M) fun k => (d = 0 → K (.inl (some (cb_i 0))) M) ∧ (0 < d → K (.inl (some (cb_i (nI (min k d))))) (cb_cp (cb_sI M 16 0 0 (nI (d - min k d))) 23 0 ((d - min k d) * 8) 17 0 0 n))
  | _ => False
def pt_X9_undo : cb_PT := cb_wm 1 sp_X9_undo
theorem rc_X9_undo : cb_rc cb_tb RX9 pt_X9_undo := cb_wm_rc
def md_X9_undo : cb_D := (RX9, cX9_undo, 3, (some .int), (1, 6, 7, 122), [
  (0, .iload_n 1, 1, 0, 1, 0, 0),
  (1, .iconst 1, 1, 1, 0, 0, 0),
  (2, .sipush 400, 3, 400, 0, 0, 0),
  (5, .invokestatic 101, 3, 0, 0, 0, 0),
  (8, .iload_n 1, 1, 0, 1, 0, 0),
  (9, .aload_n 0, 1, 0, 0, 0, 0),
  (10, .getfield 40, 3, 0, 9, 6, 364),
  (13, .getfield 123, 3, 0, 3, 0, 170),
  (16, .invokestatic 188, 3, 0, 1, 0, 0),
  (19, .istore_n 2, 1, 0, 2, 0, 0),
  (20, .aload_n 0, 1, 0, 0, 0, 0),
  (21, .getfield 40, 3, 0, 9, 6, 364),
  (24, .aload_n 0, 1, 0, 0, 0, 0),
  (25, .getfield 40, 3, 0, 9, 6, 364),
  (28, .getfield 123, 3, 0, 3, 0, 170),
  (31, .iload_n 2, 1, 0, 2, 0, 0),
  (32, .isub, 1, 0, 0, 0, 0),
  (33, .aload_n 0, 1, 0, 0, 0, 0),
  (34, .getfield 30, 3, 0, 9, 4, 362),
  (37, .getfield 114, 3, 0, 4, 1, 72),
  (40, .invokevirtual 202, 3, 0, 2, 0, 0),
  (43, .iload_n 2, 1, 0, 2, 0, 0),
  (44, .ireturn, 1, 0, 0, 0, 0)],
  [(1, 101, 3, 1, 6, pt_X9_needWithin), (1, 188, 2, 0, 0, pt_J9_min_7cf53), (0, 202, 3, 0, 0, pt_X3_goBackTo)], [])
set_option maxRecDepth 100000 in
theorem vd_X9_undo : md_X9_undo.cd.all (cb_vE md_X9_undo) = true := by decide +kernel
theorem wd_X9_undo : cb_wd yX9_undo md_X9_undo := ⟨cb_tw (i := 918) (by decide +kernel), cb_tw (i := 1) (by decide +kernel), by decide, by decide⟩
theorem cs_X9_undo : ∀ X, cb_Bs md_X9_undo X → ∀ g ∈ md_X9_undo.ga, cb_CS cb_tb md_X9_undo X g := fun X B => List.forall_mem_cons.mpr ⟨cb_csS B ok_X9_needWithin wd_X9_needWithin (cb_tw (i := 548) (by decide +kernel)) (cb_tw (i := 549) (by decide +kernel)) ⟨by decide, by decide⟩ (by decide +kernel), List.forall_mem_cons.mpr ⟨cb_csS B ok_J9_min_7cf53 wd_J9_min_7cf53 (cb_tw (i := 886) (by decide +kernel)) (cb_tw (i := 485) (by decide +kernel)) ⟨by decide, by decide⟩ (by decide +kernel), List.forall_mem_cons.mpr ⟨cb_csV B ok_X3_goBackTo wd_X3_goBackTo (cb_tw (i := 919) (by decide +kernel)) (cb_tw (i := 920) (by decide +kernel)) (cb_tw (i := 921) (by decide +kernel)) rc_X3_goBackTo ⟨by decide, by decide⟩ (by decide +kernel), fun _ h => nomatch h⟩⟩⟩
theorem ok_X9_undo : cb_MOK cb_tb yX9_undo md_X9_undo pt_X9_undo := by
  refine cb_okw0 ⟨plainFor_of_name (by decide), rfl⟩ (by decide) cs_X9_undo (by decide) (fun X n0 f r M hr h => ?_)
  match r, hr, h with
  | [.inl N], hr, h =>
    obtain ⟨P, n, hh, nb, d, ⟨hI, hd, hd4⟩, h⟩ := h
    obtain ⟨hP, hS, hH, -⟩ := id hI
    have hn8 := hS.2.2.1
    refine cb_run cb_tb_ok vd_X9_undo (cuts := []) 90 ?_
    refine wg_r_i (lo := 1) (hi := 400) (by decide) (by decide) h (fun k h1 h2 hN h => ?_)
    have emin : wm_min N (cb_gI M 16 0 0) = nI (min k d) := by
      rw [hN, hd, wm_min_nI (by omega) (by omega)]
    refine And.intro trivial (Exists.intro (some P) (And.intro hP (cb_av.of (cb_aPP hS.1 rfl) (And.intro (cb_on rfl) ⟨d - min k d, d, n, ⟨?_, by omega, hd, hd4, hS.2.1, hn8⟩, ?_, ?_⟩))))
    · show cb_gI M 16 0 0 - wm_min N (cb_gI M 16 0 0) = _
      rw [emin, hd]
      exact (nI_sub (Nat.min_le_right _ _)).symm
    · intro q
      have h0 : d = 0 := by omega
      refine And.intro trivial (cb_eqK (v := wm_min N (cb_gI M 16 0 0)) (h.1 h0) ?_)
      rw [emin, h0, Nat.min_zero]
      rfl
    · intro q
      exact And.intro trivial (cb_eqK (v := wm_min N (cb_gI M 16 0 0)) (h.2 (by omega)) emin)
/-! feed -/
def wf_b (x : Int32) (k : Nat) : Int32 := vp_nar .byte (cb_ush x (nI (24 - 8 * k))).toInt8.toInt32
def wf_p1 (M : cb_M) (t : Nat) (x : Int32) (k : Nat) : cb_M := cb_sI (cb_sI M 2 0 (t + k) (wf_b x k)) 0 0 1 (nI (t + k + 1))
def wf_put (M : cb_M) (t : Nat) (x : Int32) : cb_M := wf_p1 (wf_p1 (wf_p1 (wf_p1 M t x 0) t x 1) t x 2) t x 3
def sp_X9_putOnTape : cb_Sw := fun r M K => match r with
  | [.inl x] => ∃ t, (cb_gI M 0 0 1 = nI t ∧ t + 4 ≤ 600) ∧ K (.inl none) (wf_put M t x)
  | _ => False
def pt_X9_putOnTape : cb_PT := cb_wm 1 sp_X9_putOnTape
theorem rc_X9_putOnTape : cb_rc cb_tb RX9 pt_X9_putOnTape := cb_wm_rc
def md_X9_putOnTape : cb_D := (RX9, cX9_putOnTape, 3, none, (0, 0, 0, 0), [
  (0, .bipush 24, 2, 24, 0, 0, 0),
  (2, .istore_n 2, 1, 0, 2, 0, 0),
  (3, .iload_n 2, 1, 0, 2, 0, 0),
  (4, .ifCond .lt 42, 3, 0, 46, 0, 0),
  (7, .aload_n 0, 1, 0, 0, 0, 0),
  (8, .getfield 13, 3, 0, 9, 1, 359),
  (11, .sipush 600, 3, 600, 0, 0, 0),
  (14, .if_icmp .ge 32, 3, 0, 46, 0, 0),
  (17, .aload_n 0, 1, 0, 0, 0, 0),
  (18, .getfield 9, 3, 0, 9, 0, 358),
  (21, .aload_n 0, 1, 0, 0, 0, 0),
  (22, .getfield 13, 3, 0, 9, 1, 359),
  (25, .iload_n 1, 1, 0, 1, 0, 0),
  (26, .iload_n 2, 1, 0, 2, 0, 0),
  (27, .iushr, 1, 0, 0, 0, 0),
  (28, .i2b, 1, 0, 0, 0, 0),
  (29, .bastore, 1, 0, 0, 0, 0),
  (30, .aload_n 0, 1, 0, 0, 0, 0),
  (31, .dup, 1, 0, 0, 0, 0),
  (32, .getfield 13, 3, 0, 9, 1, 359),
  (35, .iconst 1, 1, 1, 0, 0, 0),
  (36, .iadd, 1, 0, 0, 0, 0),
  (37, .putfield 13, 3, 0, 9, 1, 359),
  (40, .iinc 2 (-8), 3, (-8), 2, 0, 0),
  (43, .goto (-40), 3, 0, 3, 0, 0),
  (46, .return_, 1, 0, 0, 0, 0)],
  [], [])
set_option maxRecDepth 100000 in
theorem vd_X9_putOnTape : md_X9_putOnTape.cd.all (cb_vE md_X9_putOnTape) = true := by decide +kernel
theorem wd_X9_putOnTape : cb_wd yX9_putOnTape md_X9_putOnTape := ⟨cb_tw (i := 411) (by decide +kernel), cb_tw (i := 1) (by decide +kernel), by decide, by decide⟩
theorem cs_X9_putOnTape : ∀ X, cb_Bs md_X9_putOnTape X → ∀ g ∈ md_X9_putOnTape.ga, cb_CS cb_tb md_X9_putOnTape X g := fun X B => fun _ h => nomatch h
theorem ok_X9_putOnTape : cb_MOK cb_tb yX9_putOnTape md_X9_putOnTape pt_X9_putOnTape := by
  refine cb_okw0 ⟨plainFor_of_name (by decide), rfl⟩ (by decide) cs_X9_putOnTape (by decide) (fun X n0 f r M hr h => ?_)
  match r, hr, h with
  | [.inl x], hr, h =>
    obtain ⟨t, ⟨ht, ht6⟩, h⟩ := h
    have step : ∀ k, k < 4 → ∀ M1, cb_gI M1 0 0 1 = nI (t + k) → cb_Gd cb_tb md_X9_putOnTape X 3 [some (cb_r 0 0), some (cb_i (x)), some (cb_i (nI (24 - 8 * k) + -8))] [] (cb_aS n0, f) (wf_p1 M1 t x k) 0 0 → cb_Gd cb_tb md_X9_putOnTape X 3 [some (cb_r 0 0), some (cb_i (x)), some (cb_i (nI (24 - 8 * k)))] [] (cb_aS n0, f) M1 0 0 := by
      intro k hk M1 h1 nx
      have hxi : vp_in (cb_gI M1 0 0 1) 600 := by rw [h1]; exact vp_in_nI (by omega) (by decide)
      have hxc : (cb_gI M1 0 0 1).toNatClampNeg = t + k := by rw [h1]; exact nI_clamp (by omega)
      refine cb_run cb_tb_ok vd_X9_putOnTape (cuts := [3]) 90 ?_
      refine And.intro (fun q => absurd q (nI_pos (by omega))) (fun _ => cb_lin h1 (N := 600) (n := 600) rfl (by omega) (by decide) (And.intro hxi ?_))
      rw [hxc]
      have e : cb_gI (cb_sI M1 2 0 (t + k) (wf_b x k)) 0 0 1 + 1 = nI (t + k + 1) := by
        rw [cb_gI_sI, if_neg (by omega), h1, nI_1]
      show cb_Gd cb_tb md_X9_putOnTape X 3 [some (cb_r 0 0), some (cb_i (x)), some (cb_i (nI (24 - 8 * k) + -8))] [] (cb_aS n0, f) (cb_sI (cb_sI M1 2 0 (t + k) (wf_b x k)) 0 0 1 (cb_gI (cb_sI M1 2 0 (t + k) (wf_b x k)) 0 0 1 + 1)) 0 0
      rw [e]
      exact nx
    have gp : ∀ M1 k, cb_gI (wf_p1 M1 t x k) 0 0 1 = nI (t + (k + 1)) := fun M1 k => by
      unfold wf_p1
      rw [cb_gI_sI, if_pos ⟨rfl, rfl, rfl⟩]
      rfl
    refine cb_run cb_tb_ok vd_X9_putOnTape (cuts := [3]) 90 ?_
    refine step 0 (by decide) M ht ?_
    refine step 1 (by decide) _ (gp _ 0) ?_
    refine step 2 (by decide) _ (gp _ 1) ?_
    refine step 3 (by decide) _ (gp _ 2) ?_
    refine cb_run cb_tb_ok vd_X9_putOnTape (cuts := [3]) 90 ?_
    exact And.intro (fun _ => And.intro rfl h) (fun q => absurd (show nI (24 - 8 * 3) + -8 < 0 by decide) q)
def wf_feed (M : cb_M) (t : Nat) (a b c d e : Int32) : cb_M := wf_put (wf_put (wf_put (wf_put (wf_put M t a) (t + 4) b) (t + 8) c) (t + 12) d) (t + 16) e
theorem wf_put_t (M : cb_M) (t : Nat) (x : Int32) : cb_gI (wf_put M t x) 0 0 1 = nI (t + 4) := by
  unfold wf_put wf_p1
  rw [cb_gI_sI, if_pos ⟨rfl, rfl, rfl⟩]
def sp_X9_feed : cb_Sw := fun r M K => match r with
  | [.inl a, .inl b, .inl c, .inl d, .inl e] => ∃ t, (cb_gI M 0 0 1 = nI t ∧ t ≤ 600) ∧ (600 < t + 20 → K (.inl (some (cb_i (-1)))) M) ∧ (t + 20 ≤ 600 → K (.inl (some (cb_i (nI (t + 20))))) (wf_feed M t a b c d e))
  | _ => False
def pt_X9_feed : cb_PT := cb_wm 5 sp_X9_feed
theorem rc_X9_feed : cb_rc cb_tb RX9 pt_X9_feed := cb_wm_rc
def md_X9_feed : cb_D := (RX9, cX9_feed, 6, (some .int), (0, 0, 1, 22), [
  (0, .aload_n 0, 1, 0, 0, 0, 0),
  (1, .getfield 13, 3, 0, 9, 1, 359),
  (4, .bipush 20, 2, 20, 0, 0, 0),
  (6, .iadd, 1, 0, 0, 0, 0),
  (7, .sipush 600, 3, 600, 0, 0, 0),
  (10, .if_icmp .le 5, 3, 0, 15, 0, 0),
  (13, .iconst (-1), 1, (-1), 0, 0, 0),
  (14, .ireturn, 1, 0, 0, 0, 0),
  (15, .aload_n 0, 1, 0, 0, 0, 0),
  (16, .iload_n 1, 1, 0, 1, 0, 0),
  (17, .invokevirtual 97, 3, 0, 0, 0, 0),
  (20, .aload_n 0, 1, 0, 0, 0, 0),
  (21, .iload_n 2, 1, 0, 2, 0, 0),
  (22, .invokevirtual 97, 3, 0, 0, 0, 0),
  (25, .aload_n 0, 1, 0, 0, 0, 0),
  (26, .iload_n 3, 1, 0, 3, 0, 0),
  (27, .invokevirtual 97, 3, 0, 0, 0, 0),
  (30, .aload_n 0, 1, 0, 0, 0, 0),
  (31, .iload 4, 2, 0, 4, 0, 0),
  (33, .invokevirtual 97, 3, 0, 0, 0, 0),
  (36, .aload_n 0, 1, 0, 0, 0, 0),
  (37, .iload 5, 2, 0, 5, 0, 0),
  (39, .invokevirtual 97, 3, 0, 0, 0, 0),
  (42, .aload_n 0, 1, 0, 0, 0, 0),
  (43, .getfield 13, 3, 0, 9, 1, 359),
  (46, .ireturn, 1, 0, 0, 0, 0)],
  [(0, 97, 2, 0, 0, pt_X9_putOnTape)], [])
set_option maxRecDepth 100000 in
theorem vd_X9_feed : md_X9_feed.cd.all (cb_vE md_X9_feed) = true := by decide +kernel
theorem wd_X9_feed : cb_wd yX9_feed md_X9_feed := ⟨cb_tw (i := 407) (by decide +kernel), cb_tw (i := 1) (by decide +kernel), by decide, by decide⟩
theorem cs_X9_feed : ∀ X, cb_Bs md_X9_feed X → ∀ g ∈ md_X9_feed.ga, cb_CS cb_tb md_X9_feed X g := fun X B => List.forall_mem_cons.mpr ⟨cb_csV B ok_X9_putOnTape wd_X9_putOnTape (cb_tw (i := 408) (by decide +kernel)) (cb_tw (i := 410) (by decide +kernel)) (cb_tp (i := 0) (by decide +kernel)) rc_X9_putOnTape ⟨by decide, by decide⟩ (by decide +kernel), fun _ h => nomatch h⟩
theorem ok_X9_feed : cb_MOK cb_tb yX9_feed md_X9_feed pt_X9_feed := by
  refine cb_okw0 ⟨plainFor_of_name (by decide), rfl⟩ (by decide) cs_X9_feed (by decide) (fun X n0 f r M hr h => ?_)
  match r, hr, h with
  | [.inl a, .inl b, .inl c, .inl d, .inl e], hr, h =>
    obtain ⟨t, ⟨ht, ht6⟩, h⟩ := h
    have e20 : cb_gI M 0 0 1 + 20 = nI (t + 20) := by rw [ht, show (20 : Int32) = nI 20 from rfl, nI_add]
    refine cb_run cb_tb_ok vd_X9_feed (cuts := []) 90 ?_
    refine And.intro (fun q => ?_) (fun q => ?_)
    · have q : cb_gI M 0 0 1 + 20 ≤ 600 := q
      rw [e20] at q
      have hle : t + 20 ≤ 600 := Nat.not_lt.mp (fun w => absurd q (Int32.not_le.mpr (show nI 600 < nI (t + 20) from nI_lt w (by omega))))
      refine And.intro (cb_on rfl) ⟨t, ⟨ht, by omega⟩, And.intro (cb_on rfl) ⟨t + 4, ⟨wf_put_t _ _ _, by omega⟩, And.intro (cb_on rfl) ⟨t + 8, ⟨wf_put_t _ _ _, by omega⟩, And.intro (cb_on rfl) ⟨t + 12, ⟨wf_put_t _ _ _, by omega⟩, And.intro (cb_on rfl) ⟨t + 16, ⟨wf_put_t _ _ _, by omega⟩, And.intro trivial (cb_eqK (h.2 hle) (wf_put_t _ _ _))⟩⟩⟩⟩⟩
    · have q : ¬ cb_gI M 0 0 1 + 20 ≤ 600 := q
      rw [e20] at q
      have hlt : 600 < t + 20 := Nat.not_le.mp (fun w => q (show nI (t + 20) ≤ nI 600 from nI_le w (by decide)))
      exact And.intro trivial (h.1 hlt)
