/-! ===== take; who is right, who is in step ===== -/
def fr_T (t _j : Nat) : Bool := Nat.ble 25 t && Nat.ble t 36
def cb_fx (S : Nat → Nat → Bool) (M M' : cb_M) : Prop := (∀ t i j, S t j = false → cb_gI M' t i j = cb_gI M t i j) ∧ (∀ t i j, ¬ t = 25 → cb_gR M' t i j = cb_gR M t i j) ∧ M'.2.2 = M.2.2
theorem cb_fx.refl {S : Nat → Nat → Bool} (M : cb_M) : cb_fx S M M := ⟨fun _ _ _ _ => rfl, fun _ _ _ _ => rfl, rfl⟩
theorem cb_fx.trans {S : Nat → Nat → Bool} {M M' M'' : cb_M} (h : cb_fx S M M') (h2 : cb_fx S M' M'') : cb_fx S M M'' := ⟨fun t i j q => (h2.1 t i j q).trans (h.1 t i j q), fun t i j q => (h2.2.1 t i j q).trans (h.2.1 t i j q), h2.2.2.trans h.2.2⟩
theorem cb_fx.fn {S : Nat → Nat → Bool} {M M' : cb_M} (h : cb_fx S M M') (t i : Nat) (hs : ∀ j, S t j = false) : cb_gI M' t i = cb_gI M t i := funext fun j => h.1 t i j (hs j)
theorem cb_fr.fx {S S' : Nat → Nat → Bool} {M M' : cb_M} (h : cb_fr S M M') (hs : ∀ t j, S t j = true → S' t j = true) : cb_fx S' M M' := ⟨(h.mono hs).1, fun t i j _ => h.ref t i j, by rw [h.2]⟩
theorem cb_fx.mono {S S' : Nat → Nat → Bool} {M M' : cb_M} (h : cb_fx S M M') (hs : ∀ t j, S t j = true → S' t j = true) : cb_fx S' M M' := ⟨fun t i j q => h.1 t i j (by cases e : S t j with | false => rfl | true => rw [hs t j e] at q; cases q), h.2⟩
theorem cb_fx.set {S : Nat → Nat → Bool} {M M' : cb_M} (h : cb_fx S M M') {t i j : Nat} (x : Int32) (hs : S t j = true) : cb_fx S M (cb_sI M' t i j x) := by
  refine ⟨fun t' i' j' q => ?_, h.2⟩
  rw [cb_gI_sI, if_neg]
  · exact h.1 _ _ _ q
  · rintro ⟨rfl, rfl, rfl⟩
    rw [hs] at q
    cases q
theorem cb_fx.cp {S : Nat → Nat → Bool} {M M' : cb_M} (h : cb_fx S M M') {t i sp t' i' dp n : Nat} (hs : ∀ j, S t' j = true) : cb_fx S M (cb_cp M' t i sp t' i' dp n) := by
  refine ⟨fun t2 i2 j2 q => ?_, h.2⟩
  show (if t2 = t' ∧ i2 = i' then _ else cb_gI M' t2 i2 j2) = _
  rw [if_neg]
  · exact h.1 _ _ _ q
  · rintro ⟨rfl, rfl⟩
    rw [hs] at q
    cases q
theorem cb_gI_cp (M : cb_M) (t i sp t' i' dp n t2 i2 k : Nat) : cb_gI (cb_cp M t i sp t' i' dp n) t2 i2 k = if t2 = t' ∧ i2 = i' then va_cpy (cb_gI M t i) (cb_gI M t' i') sp dp n k else cb_gI M t2 i2 k := rfl
theorem fr_t_T : ∀ t j, fr_t t j = true → fr_T t j = true := by
  intro t j h
  unfold fr_t at h
  unfold fr_T
  simp only [Bool.or_eq_true, Bool.and_eq_true, Nat.beq_eq, Nat.ble_eq] at *
  omega
theorem fr_k_T : ∀ t j, fr_k t j = true → fr_T t j = true := by
  intro t j h
  unfold fr_k at h
  unfold fr_T
  simp only [Bool.or_eq_true, Bool.and_eq_true, Nat.beq_eq, Nat.ble_eq] at *
  omega
/-- the wall as it hangs now, of the plan P -/
def wc_h (M : cb_M) (P : Nat) : wm_C := (0, cb_gI M 9 P, cb_gI M 18 0, cb_gI M 19 0, cb_gI M 8 P, cb_gI M 4 P, cb_gI M 11 P, cb_gI M 7 P, fun i j => cb_gI M 14 P (i * 8 + j))
def wc_c (M : cb_M) (P n : Nat) : wn_C := (n, wn_tr n (cb_gI M 9 P), wn_tr n (cb_gI M 18 0), wn_tr n (cb_gI M 8 P), wn_tr n (cb_gI M 11 P), wn_tr n (cb_gI M 7 P), fun i j => if i < n ∧ j < n then wm_hear (wc_h M P) i j else 0)
def wu_all (n : Nat) : wm_U := (fun i => decide (i < n), false)
/-- the plan and the moment are sound -/
def wk_S (M : cb_M) (P n : Nat) : Prop := P < 2 ∧ cb_gI M 3 P 1 = nI n ∧ n ≤ 8 ∧ ∀ i, i < n → (vp_in (cb_gI M 18 0 i) 4 ∧ vp_in (cb_gI M 19 0 i) 20) ∧ 1 ≤ 100 * cb_gI M 8 P i
/-- the trial has been taken from the wall as it was in M -/
def wk_K (M : cb_M) (P n m : Nat) (M' : cb_M) : Prop := cb_fx fr_T M M' ∧ wk_R M' P n m ∧ wk_Ph M' n ∧ cb_gR M' 25 0 1 = some 0 ∧ wk_B M' n ∧ wt_s M' n = wb_s M P n ∧ (∀ i, i < 8 → cb_gI M' 29 0 i = cb_gI M 18 0 i ∧ cb_gI M' 30 0 i = cb_gI M 19 0 i ∧ cb_gI M' 26 0 i = cb_gI M 7 P i) ∧ cb_gI M' 25 0 9 = wm_all (nI n) ∧ cb_gI M' 25 0 10 = 0
theorem wm_all_bit : ∀ n, n ≤ 8 → ∀ i, i < 8 → cb_bit (wm_all (nI n)) i = decide (i < n) := by decide +kernel
theorem wm_hear_c {M M' : cb_M} {P n i j : Nat} (hF : cb_fx fr_T M M') (hi : i < 8) (hj : j < 8) (h : ∀ i, i < 8 → cb_gI M' 29 0 i = cb_gI M 18 0 i ∧ cb_gI M' 30 0 i = cb_gI M 19 0 i) : wm_hear (wk_c M' P n) i j = wm_hear (wc_h M P) i j := by
  unfold wm_hear
  show (if cb_gI M' 9 P i = 2 ∨ cb_gI M' 9 P i = 1 ∨ cb_gI M' 9 P j = 2 then (0 : Int32) else if ¬ cb_gI M' 29 0 i = cb_gI M' 29 0 j then cb_gI M' 14 P (i * 8 + j) else (if cb_gI M' 9 P j = 4 then 2 * cb_gI M' 8 P j else cb_gI M' 8 P j) * (10 - cb_gI M' 4 P (cb_gI M' 29 0 i).toNatClampNeg) / (1 + wm_abs (cb_gI M' 30 0 i - cb_gI M' 30 0 j)) + cb_gI M' 14 P (i * 8 + j)) = _
  rw [(h i hi).1, (h j hj).1, (h i hi).2, (h j hj).2, hF.fn 9 P (fun _ => rfl), hF.fn 14 P (fun _ => rfl), hF.fn 8 P (fun _ => rfl), hF.fn 4 P (fun _ => rfl)]
  rfl
theorem wk_K_c {M M' : cb_M} {P n m : Nat} (h : wk_K M P n m M') : wt_c M' P n = wc_c M P n ∧ wt_u M' n = wu_all n := by
  obtain ⟨hF, hR, -, -, -, -, hb, hu, hw⟩ := h
  have hn8 := hR.1.2.2.2
  constructor
  · unfold wt_c wc_c
    rw [hF.fn 9 P (fun _ => rfl), hF.fn 8 P (fun _ => rfl), hF.fn 11 P (fun _ => rfl), wn_tr_ext (f := cb_gI M' 29 0) (g := cb_gI M 18 0) (fun i hi => (hb i (by omega)).1), wn_tr_ext (f := cb_gI M' 26 0) (g := cb_gI M 7 P) (fun i hi => (hb i (by omega)).2.2)]
    have e : (fun i j => if i < n ∧ j < n then wm_hear (wk_c M' P n) i j else 0) = fun i j => if i < n ∧ j < n then wm_hear (wc_h M P) i j else 0 := by
      funext i j
      by_cases q : i < n ∧ j < n
      · rw [if_pos q, if_pos q, wm_hear_c hF (by omega) (by omega) (fun i hi => ⟨(hb i hi).1, (hb i hi).2.1⟩)]
      · rw [if_neg q, if_neg q]
    rw [e]
  · unfold wt_u wu_all
    rw [hu, hw]
    refine Prod.ext (funext fun i => ?_) rfl
    show (decide (i < n) && cb_bit (wm_all (nI n)) i) = decide (i < n)
    by_cases hi : i < n
    · rw [wm_all_bit n hn8 i (by omega)]
      simp [hi]
    · simp [hi]
def sp_take : cb_Sp := fun _ r M K => match r with
  | [.inr (.inr (some (t, P))), .inr (.inr (some (t', q)))] => cb_ck (Nat.beq t 3) (cb_ck (Nat.beq t' 16) (∃ n, (q = 0 ∧ wk_S M P n) ∧ ∀ M' m, wk_K M P n m M' → K none M'))
  | _ => False
def pt_X7_take : cb_PT := cb_m 25 2 sp_take
theorem rc_X7_take : cb_rc cb_tb RX7 pt_X7_take := cb_m_rc rfl rfl
def md_X7_take : cb_D := (RX7, cX7_take, 3, none, (0, 0, 4, 93), [
  (0, .aload_n 0, 1, 0, 0, 0, 0),
  (1, .aload_n 1, 1, 0, 1, 0, 0),
  (2, .putfield 62, 3, 0, 7, 0, 218),
  (5, .aload_n 0, 1, 0, 0, 0, 0),
  (6, .aload_n 2, 1, 0, 2, 0, 0),
  (7, .putfield 66, 3, 0, 7, 1, 222),
  (10, .aload_n 0, 1, 0, 0, 0, 0),
  (11, .aload_n 1, 1, 0, 1, 0, 0),
  (12, .getfield 70, 3, 0, 4, 1, 71),
  (15, .putfield 9, 3, 0, 7, 2, 226),
  (18, .aload_n 0, 1, 0, 0, 0, 0),
  (19, .iconst 0, 1, 0, 0, 0, 0),
  (20, .putfield 37, 3, 0, 7, 10, 248),
  (23, .aload_n 2, 1, 0, 2, 0, 0),
  (24, .getfield 73, 3, 0, 3, 2, 177),
  (27, .iconst 0, 1, 0, 0, 0, 0),
  (28, .aload_n 0, 1, 0, 0, 0, 0),
  (29, .getfield 28, 3, 0, 7, 7, 244),
  (32, .iconst 0, 1, 0, 0, 0, 0),
  (33, .bipush 8, 2, 8, 0, 0, 0),
  (35, .invokestatic 76, 3, 0, 0, 0, 0),
  (38, .aload_n 2, 1, 0, 2, 0, 0),
  (39, .getfield 82, 3, 0, 3, 3, 181),
  (42, .iconst 0, 1, 0, 0, 0, 0),
  (43, .aload_n 0, 1, 0, 0, 0, 0),
  (44, .getfield 31, 3, 0, 7, 8, 246),
  (47, .iconst 0, 1, 0, 0, 0, 0),
  (48, .bipush 8, 2, 8, 0, 0, 0),
  (50, .invokestatic 76, 3, 0, 0, 0, 0),
  (53, .aload_n 1, 1, 0, 1, 0, 0),
  (54, .getfield 83, 3, 0, 4, 8, 95),
  (57, .iconst 0, 1, 0, 0, 0, 0),
  (58, .aload_n 0, 1, 0, 0, 0, 0),
  (59, .getfield 18, 3, 0, 7, 4, 234),
  (62, .iconst 0, 1, 0, 0, 0, 0),
  (63, .bipush 8, 2, 8, 0, 0, 0),
  (65, .invokestatic 76, 3, 0, 0, 0, 0),
  (68, .aload_n 0, 1, 0, 0, 0, 0),
  (69, .aload_n 1, 1, 0, 1, 0, 0),
  (70, .invokevirtual 84, 3, 0, 1, 0, 0),
  (73, .invokevirtual 88, 3, 0, 2, 0, 0),
  (76, .aload_n 0, 1, 0, 0, 0, 0),
  (77, .invokevirtual 92, 3, 0, 3, 0, 0),
  (80, .return_, 1, 0, 0, 0, 0)],
  [(1, 76, 5, 0, 0, pt_cp), (0, 84, 1, 0, 0, pt_X4_allClocks), (0, 88, 2, 0, 0, pt_X7_keepUp), (0, 92, 1, 0, 0, pt_X7_begin)], [])
set_option maxRecDepth 100000 in
theorem vd_X7_take : md_X7_take.cd.all (cb_vE md_X7_take) = true := by decide +kernel
theorem wd_X7_take : cb_wd yX7_take md_X7_take := ⟨cb_tw (i := 427) (by decide +kernel), cb_tw (i := 5) (by decide +kernel), by decide, by decide⟩
theorem cs_X7_take : ∀ X, cb_Bs md_X7_take X → ∀ g ∈ md_X7_take.ga, cb_CS cb_tb md_X7_take X g := fun X B => List.forall_mem_cons.mpr ⟨cb_csCp B (cb_tw (i := 428) (by decide +kernel)) ⟨by decide, by decide⟩, List.forall_mem_cons.mpr ⟨cb_csV B ok_X4_allClocks wd_X4_allClocks (cb_tw (i := 431) (by decide +kernel)) (cb_tw (i := 432) (by decide +kernel)) (cb_tw (i := 433) (by decide +kernel)) rc_X4_allClocks ⟨by decide, by decide⟩ (by decide +kernel), List.forall_mem_cons.mpr ⟨cb_csV B ok_X7_keepUp wd_X7_keepUp (cb_tw (i := 435) (by decide +kernel)) (cb_tw (i := 436) (by decide +kernel)) (cb_tw (i := 437) (by decide +kernel)) rc_X7_keepUp ⟨by decide, by decide⟩ (by decide +kernel), List.forall_mem_cons.mpr ⟨cb_csV B ok_X7_begin wd_X7_begin (cb_tw (i := 453) (by decide +kernel)) (cb_tw (i := 454) (by decide +kernel)) (cb_tw (i := 455) (by decide +kernel)) rc_X7_begin ⟨by decide, by decide⟩ (by decide +kernel), fun _ h => nomatch h⟩⟩⟩⟩
theorem ok_X7_take : cb_MOK cb_tb yX7_take md_X7_take pt_X7_take := by
  refine cb_okm ⟨plainFor_of_name (by decide), rfl⟩ (by decide) cs_X7_take (by decide) (fun X n0 f i r M hr ha h => ?_)
  have h0 := cb_a1 (T := 25) rfl ha
  subst h0
  match r, hr, h with
  | [.inr (.inr (some (t, P))), .inr (.inr (some (t', q)))], hr, h =>
    obtain ⟨ht, h⟩ := cb_ck.to h
    obtain ⟨ht', h⟩ := cb_ck.to h
    obtain ⟨n, ⟨hq, hP2, hn, hn8, hs⟩, hK⟩ := h
    have ht := Nat.eq_of_beq_eq_true ht
    have ht' := Nat.eq_of_beq_eq_true ht'
    subst ht ht' hq
    refine cb_run cb_tb_ok vd_X7_take (cuts := []) 80 ?_
    refine cb_av.of (cb_aPP hP2 rfl) (And.intro ⟨by decide, by decide, by decide, by decide, by decide⟩ (And.intro ⟨by decide, by decide, by decide, by decide, by decide⟩ ?_))
    refine cb_av.of (cb_aPP hP2 rfl) (cb_av.of (cb_aPP hP2 rfl) (And.intro ⟨by decide, by decide, by decide, (show 0 + 8 ≤ 8 by decide), by decide⟩ ?_))
    let M4 : cb_M := cb_cp (cb_cp (cb_cp (cb_sI (cb_sI (cb_sR (cb_sR M 25 0 0 (some P)) 25 0 1 (some 0)) 25 0 2 (cb_gI M 3 P 1)) 25 0 10 0) 18 0 0 29 0 0 8) 19 0 0 30 0 0 8) 7 P 0 26 0 0 8
    have f1 : cb_fx fr_T M (cb_sR (cb_sR M 25 0 0 (some P)) 25 0 1 (some 0)) := ⟨fun _ _ _ _ => rfl, fun t i j q => by rw [cb_gR_sR, cb_gR_sR, if_neg (fun w => q w.1), if_neg (fun w => q w.1)], rfl⟩
    have f4 : cb_fx fr_T M M4 := ((((f1.set _ rfl).set _ rfl).cp (fun _ => rfl)).cp (fun _ => rfl)).cp (fun _ => rfl)
    have cp8 : ∀ (f g : wm_F) (i : Nat), i < 8 → va_cpy f g 0 0 8 i = f i := fun f g i hi => by
      unfold va_cpy
      rw [if_pos ⟨by omega, by omega⟩]
      congr 1
      omega
    have b4 : ∀ i, i < 8 → cb_gI M4 29 0 i = cb_gI M 18 0 i ∧ cb_gI M4 30 0 i = cb_gI M 19 0 i ∧ cb_gI M4 26 0 i = cb_gI M 7 P i := fun i hi => ⟨cp8 (cb_gI M 18 0) _ i hi, cp8 (cb_gI M 19 0) _ i hi, cp8 (cb_gI M 7 P) _ i hi⟩
    have T4 : wk_T M4 P n := ⟨rfl, hP2, hn, hn8⟩
    have B4 : wk_B M4 n := fun i hi => by
      rw [(b4 i (by omega)).1, (b4 i (by omega)).2.1]
      exact (hs i hi).1
    refine And.intro (cb_on (cb_aP hP2 rfl)) (And.intro (cb_on rfl) ⟨P, n, ⟨T4, B4⟩, fun M5 m hF5 hu5 hbm5 hm5 hpr5 => ?_⟩)
    have hF5 : cb_fr fr_k M4 M5 := hF5
    refine And.intro (cb_on rfl) ⟨P, n, ⟨wk_T_fk hF5 T4, (hF5.ref 25 0 1).trans rfl⟩, fun M6 hF6 hs6 hph6 => And.intro rfl (hK M6 m ?_)⟩
    have f6 : cb_fx fr_T M M6 := (f4.trans (hF5.fx fr_k_T)).trans (hF6.fx fr_t_T)
    have R5 : wk_R M5 P n m := ⟨wk_T_fk hF5 T4, hbm5, hm5, hpr5, fun i hi => by rw [hF5.1 8 P i rfl, f4.1 8 P i rfl]; exact (hs i hi).2⟩
    have b6 : ∀ t, t = 29 ∨ t = 30 ∨ t = 26 → cb_gI M6 t 0 = cb_gI M4 t 0 := by
      intro t ht
      rcases ht with rfl | rfl | rfl
      · exact (hF6.fn _ 0 (fun _ => rfl)).trans (hF5.fn _ 0 (fun _ => rfl))
      · exact (hF6.fn _ 0 (fun _ => rfl)).trans (hF5.fn _ 0 (fun _ => rfl))
      · exact (hF6.fn _ 0 (fun _ => rfl)).trans (hF5.fn _ 0 (fun _ => rfl))
    refine ⟨f6, wk_R_fr hF6 R5, hph6, (hF6.ref 25 0 1).trans ((hF5.ref 25 0 1).trans rfl), ?_, ?_, ?_, ?_, ?_⟩
    · intro i hi
      rw [b6 29 (by simp), b6 30 (by simp)]
      exact B4 i hi
    · rw [hs6]
      unfold wb_s
      rw [hF5.1 16 0 0 rfl, f4.1 16 0 0 rfl, hF5.fn 10 P (fun _ => rfl), f4.fn 10 P (fun _ => rfl), hF5.fn 17 0 (fun _ => rfl), f4.fn 17 0 (fun _ => rfl)]
    · intro i hi
      rw [b6 29 (by simp), b6 30 (by simp), b6 26 (by simp)]
      exact b4 i hi
    · rw [hF6.1 25 0 9 rfl, hu5]
      show wm_all (cb_gI M 3 P 1) = _
      rw [hn]
    · rw [hF6.1 25 0 10 rfl, hF5.1 25 0 10 rfl]
      rfl
/-! who is right -/
def wm_rts (w : Int32) (of : wm_F) (n : Nat) : Int32 := wm_mask (fun i => wm_rgt w (of i)) n
def sp_rightOnes : cb_Sp := fun _ r M K => match r with
  | [] => ∃ P n, wk_T M P n ∧ K (some (cb_i (wm_rts (cb_gI M 3 P 4) (cb_gI M 28 0) n &&& cb_gI M 25 0 9))) M
  | _ => False
def pt_X7_rightOnes : cb_PT := cb_m 25 0 sp_rightOnes
theorem rc_X7_rightOnes : cb_rc cb_tb RX7 pt_X7_rightOnes := cb_m_rc rfl rfl
def md_X7_rightOnes : cb_D := (RX7, cX7_rightOnes, 3, (some .int), (0, 0, 2, 42), [
  (0, .iconst 0, 1, 0, 0, 0, 0),
  (1, .istore_n 1, 1, 0, 1, 0, 0),
  (2, .iconst 0, 1, 0, 0, 0, 0),
  (3, .istore_n 2, 1, 0, 2, 0, 0),
  (4, .iload_n 2, 1, 0, 2, 0, 0),
  (5, .aload_n 0, 1, 0, 0, 0, 0),
  (6, .getfield 9, 3, 0, 7, 2, 226),
  (9, .if_icmp .ge 23, 3, 0, 32, 0, 0),
  (12, .aload_n 0, 1, 0, 0, 0, 0),
  (13, .iload_n 2, 1, 0, 2, 0, 0),
  (14, .invokevirtual 193, 3, 0, 0, 0, 0),
  (17, .ifCond .eq 9, 3, 0, 26, 0, 0),
  (20, .iload_n 1, 1, 0, 1, 0, 0),
  (21, .iconst 1, 1, 1, 0, 0, 0),
  (22, .iload_n 2, 1, 0, 2, 0, 0),
  (23, .ishl, 1, 0, 0, 0, 0),
  (24, .ior, 1, 0, 0, 0, 0),
  (25, .istore_n 1, 1, 0, 1, 0, 0),
  (26, .iinc 2 1, 3, 1, 2, 0, 0),
  (29, .goto (-25), 3, 0, 4, 0, 0),
  (32, .iload_n 1, 1, 0, 1, 0, 0),
  (33, .aload_n 0, 1, 0, 0, 0, 0),
  (34, .getfield 34, 3, 0, 7, 9, 247),
  (37, .iand, 1, 0, 0, 0, 0),
  (38, .ireturn, 1, 0, 0, 0, 0)],
  [(0, 193, 2, 0, 0, pt_X7_isRight)], [])
set_option maxRecDepth 100000 in
theorem vd_X7_rightOnes : md_X7_rightOnes.cd.all (cb_vE md_X7_rightOnes) = true := by decide +kernel
theorem wd_X7_rightOnes : cb_wd yX7_rightOnes md_X7_rightOnes := ⟨cb_tw (i := 467) (by decide +kernel), cb_tw (i := 5) (by decide +kernel), by decide, by decide⟩
theorem cs_X7_rightOnes : ∀ X, cb_Bs md_X7_rightOnes X → ∀ g ∈ md_X7_rightOnes.ga, cb_CS cb_tb md_X7_rightOnes X g := fun X B => List.forall_mem_cons.mpr ⟨cb_csV B ok_X7_isRight wd_X7_isRight (cb_tw (i := 468) (by decide +kernel)) (cb_tw (i := 469) (by decide +kernel)) (cb_tw (i := 470) (by decide +kernel)) rc_X7_isRight ⟨by decide, by decide⟩ (by decide +kernel), fun _ h => nomatch h⟩
theorem ok_X7_rightOnes : cb_MOK cb_tb yX7_rightOnes md_X7_rightOnes pt_X7_rightOnes := by
  refine cb_okm ⟨plainFor_of_name (by decide), rfl⟩ (by decide) cs_X7_rightOnes (by decide) (fun X n0 f i r M hr ha h => ?_)
  have h0 := cb_a1 (T := 25) rfl ha
  subst h0
  match r, hr, h with
  | [], hr, h =>
    obtain ⟨P, n, ⟨hP, hP2, hn, hn8⟩, h⟩ := h
    have loop : ∀ j, j ≤ n → ∀ x m : Int32, x = nI j → m = wm_rts (cb_gI M 3 P 4) (cb_gI M 28 0) j → cb_Gd cb_tb md_X7_rightOnes X 4 [some (cb_r 25 0), some (cb_i m), some (cb_i x)] [] (cb_aS n0, f) M 0 0 := by
      refine cb_up (fun j => ∀ x m : Int32, x = nI j → m = wm_rts (cb_gI M 3 P 4) (cb_gI M 28 0) j → cb_Gd cb_tb md_X7_rightOnes X 4 [some (cb_r 25 0), some (cb_i m), some (cb_i x)] [] (cb_aS n0, f) M 0 0) ?_ ?_
      · intro x m hx hm
        refine cb_run cb_tb_ok vd_X7_rightOnes (cuts := [4]) 40 ?_
        refine cb_lout hx hn (And.intro trivial (cb_eqK h ?_))
        rw [hm]
      · intro j hj ih x m hx hm
        have hx8 : vp_in x 8 := by rw [hx]; exact cb_in8 hj hn8 (by decide)
        have hxc : x.toNatClampNeg = j := by rw [hx]; exact nI_clamp (by omega)
        refine cb_run cb_tb_ok vd_X7_rightOnes (cuts := [4]) 40 ?_
        refine cb_lin hx hn hj (by omega) (And.intro (cb_on rfl) ⟨P, ⟨hP, hP2, hx8⟩, cb_ifz (fun q => ?_) (fun q => ?_)⟩)
        · refine ih _ _ (by rw [hx, nI_1]) ?_
          rw [hxc] at q
          show m = wm_mask _ j ||| (if wm_rgt _ _ = true then _ else 0)
          rw [q, hm]
          simp [wm_rts]
        · refine ih _ _ (by rw [hx, nI_1]) ?_
          rw [hxc] at q
          show m ||| (1 <<< (x &&& 31)) = wm_mask _ j ||| (if wm_rgt _ _ = true then _ else 0)
          rw [q, hm, hx]
          rfl
    exact cb_run cb_tb_ok vd_X7_rightOnes (cuts := [4]) 40 (loop 0 (Nat.zero_le _) _ _ rfl rfl)
def sp_stoppedOnes : cb_Sp := fun _ r M K => match r with
  | [] => ∃ P n, wk_T M P n ∧ K (some (cb_i (wk_st M P (wk_ro M P n) n))) M
  | _ => False
def pt_X7_stoppedOnes : cb_PT := cb_m 25 0 sp_stoppedOnes
theorem rc_X7_stoppedOnes : cb_rc cb_tb RX7 pt_X7_stoppedOnes := cb_m_rc rfl rfl
def md_X7_stoppedOnes : cb_D := (RX7, cX7_stoppedOnes, 1, (some .int), (0, 0, 2, 45), [
  (0, .aload_n 0, 1, 0, 0, 0, 0),
  (1, .aload_n 0, 1, 0, 0, 0, 0),
  (2, .invokevirtual 137, 3, 0, 0, 0, 0),
  (5, .invokevirtual 140, 3, 0, 1, 0, 0),
  (8, .ireturn, 1, 0, 0, 0, 0)],
  [(0, 137, 1, 0, 0, pt_X7_runningOnes), (0, 140, 2, 0, 0, pt_X7_stoppedBy)], [])
set_option maxRecDepth 100000 in
theorem vd_X7_stoppedOnes : md_X7_stoppedOnes.cd.all (cb_vE md_X7_stoppedOnes) = true := by decide +kernel
theorem wd_X7_stoppedOnes : cb_wd yX7_stoppedOnes md_X7_stoppedOnes := ⟨cb_tw (i := 813) (by decide +kernel), cb_tw (i := 5) (by decide +kernel), by decide, by decide⟩
theorem cs_X7_stoppedOnes : ∀ X, cb_Bs md_X7_stoppedOnes X → ∀ g ∈ md_X7_stoppedOnes.ga, cb_CS cb_tb md_X7_stoppedOnes X g := fun X B => List.forall_mem_cons.mpr ⟨cb_csV B ok_X7_runningOnes wd_X7_runningOnes (cb_tw (i := 814) (by decide +kernel)) (cb_tw (i := 815) (by decide +kernel)) (cb_tw (i := 816) (by decide +kernel)) rc_X7_runningOnes ⟨by decide, by decide⟩ (by decide +kernel), List.forall_mem_cons.mpr ⟨cb_csV B ok_X7_stoppedBy wd_X7_stoppedBy (cb_tw (i := 819) (by decide +kernel)) (cb_tw (i := 821) (by decide +kernel)) (cb_tp (i := 23) (by decide +kernel)) rc_X7_stoppedBy ⟨by decide, by decide⟩ (by decide +kernel), fun _ h => nomatch h⟩⟩
theorem ok_X7_stoppedOnes : cb_MOK cb_tb yX7_stoppedOnes md_X7_stoppedOnes pt_X7_stoppedOnes := by
  refine cb_okm ⟨plainFor_of_name (by decide), rfl⟩ (by decide) cs_X7_stoppedOnes (by decide) (fun X n0 f i r M hr ha h => ?_)
  have h0 := cb_a1 (T := 25) rfl ha
  subst h0
  match r, hr, h with
  | [], hr, h =>
    obtain ⟨P, n, hT, h⟩ := h
    refine cb_run cb_tb_ok vd_X7_stoppedOnes (cuts := []) 40 ?_
    exact And.intro (cb_on rfl) ⟨P, n, hT, And.intro (cb_on rfl) ⟨P, n, hT, And.intro trivial (cb_eqK h rfl)⟩⟩
/-- the pull on a clock today -/
def wn_now (c : wn_C) (u : wm_U) (s : wm_S) (i : Nat) : Int32 := if wn_go c u s.1 s.2.1 i = true then wn_pul c u s.1 s.2.1 i else 0
def sp_pullToday : cb_Sp := fun _ r M K => match r with
  | [.inl x] => ∃ P n m j, (wk_R M P n m ∧ wk_Ph M n ∧ x = nI j ∧ j < n) ∧ ∀ M', cb_fr fr_t M M' → K (some (cb_i (wn_now (wt_c M P n) (wt_u M n) (wt_s M n) j))) M'
  | _ => False
def pt_X7_pullToday : cb_PT := cb_m 25 1 sp_pullToday
theorem rc_X7_pullToday : cb_rc cb_tb RX7 pt_X7_pullToday := cb_m_rc rfl rfl
def md_X7_pullToday : cb_D := (RX7, cX7_pullToday, 2, (some .int), (0, 0, 4, 86), [
  (0, .aload_n 0, 1, 0, 0, 0, 0),
  (1, .aload_n 0, 1, 0, 0, 0, 0),
  (2, .aload_n 0, 1, 0, 0, 0, 0),
  (3, .invokevirtual 137, 3, 0, 0, 0, 0),
  (6, .invokevirtual 143, 3, 0, 1, 0, 0),
  (9, .invokevirtual 146, 3, 0, 2, 0, 0),
  (12, .aload_n 0, 1, 0, 0, 0, 0),
  (13, .iload_n 1, 1, 0, 1, 0, 0),
  (14, .invokevirtual 149, 3, 0, 3, 0, 0),
  (17, .ifCond .eq 11, 3, 0, 28, 0, 0),
  (20, .aload_n 0, 1, 0, 0, 0, 0),
  (21, .iload_n 1, 1, 0, 1, 0, 0),
  (22, .invokevirtual 153, 3, 0, 4, 0, 0),
  (25, .goto 4, 3, 0, 29, 0, 0),
  (28, .iconst 0, 1, 0, 0, 0, 0),
  (29, .ireturn, 1, 0, 0, 0, 0)],
  [(0, 137, 1, 0, 0, pt_X7_runningOnes), (0, 143, 2, 0, 0, pt_X7_goingAmong), (0, 146, 2, 0, 0, pt_X7_gatherDrives), (0, 149, 2, 0, 0, pt_X7_goesToday), (0, 153, 2, 0, 0, pt_X7_pullBy)], [])
set_option maxRecDepth 100000 in
theorem vd_X7_pullToday : md_X7_pullToday.cd.all (cb_vE md_X7_pullToday) = true := by decide +kernel
theorem wd_X7_pullToday : cb_wd yX7_pullToday md_X7_pullToday := ⟨cb_tw (i := 854) (by decide +kernel), cb_tw (i := 5) (by decide +kernel), by decide, by decide⟩
theorem cs_X7_pullToday : ∀ X, cb_Bs md_X7_pullToday X → ∀ g ∈ md_X7_pullToday.ga, cb_CS cb_tb md_X7_pullToday X g := fun X B => List.forall_mem_cons.mpr ⟨cb_csV B ok_X7_runningOnes wd_X7_runningOnes (cb_tw (i := 814) (by decide +kernel)) (cb_tw (i := 815) (by decide +kernel)) (cb_tw (i := 816) (by decide +kernel)) rc_X7_runningOnes ⟨by decide, by decide⟩ (by decide +kernel), List.forall_mem_cons.mpr ⟨cb_csV B ok_X7_goingAmong wd_X7_goingAmong (cb_tw (i := 855) (by decide +kernel)) (cb_tw (i := 857) (by decide +kernel)) (cb_tp (i := 25) (by decide +kernel)) rc_X7_goingAmong ⟨by decide, by decide⟩ (by decide +kernel), List.forall_mem_cons.mpr ⟨cb_csV B ok_X7_gatherDrives wd_X7_gatherDrives (cb_tw (i := 859) (by decide +kernel)) (cb_tw (i := 861) (by decide +kernel)) (cb_tp (i := 26) (by decide +kernel)) rc_X7_gatherDrives ⟨by decide, by decide⟩ (by decide +kernel), List.forall_mem_cons.mpr ⟨cb_csV B ok_X7_goesToday wd_X7_goesToday (cb_tw (i := 867) (by decide +kernel)) (cb_tw (i := 868) (by decide +kernel)) (cb_tw (i := 869) (by decide +kernel)) rc_X7_goesToday ⟨by decide, by decide⟩ (by decide +kernel), List.forall_mem_cons.mpr ⟨cb_csV B ok_X7_pullBy wd_X7_pullBy (cb_tw (i := 871) (by decide +kernel)) (cb_tw (i := 873) (by decide +kernel)) (cb_tp (i := 27) (by decide +kernel)) rc_X7_pullBy ⟨by decide, by decide⟩ (by decide +kernel), fun _ h => nomatch h⟩⟩⟩⟩⟩
theorem wk_kp_fr {M M' : cb_M} (h : cb_fr fr_d M M') (P : Nat) : wk_kp M' P = wk_kp M P := funext fun i => by
  unfold wk_kp
  rw [h.1 11 P i rfl, h.1 25 0 3 rfl]
theorem wk_ro_fr {M M' : cb_M} (h : cb_fr fr_d M M') (P n : Nat) : wk_ro M' P n = wk_ro M P n := by
  unfold wk_ro
  rw [wk_kp_fr h, h.1 25 0 10 rfl, h.1 25 0 9 rfl]
theorem wk_st_fr {M M' : cb_M} (h : cb_fr fr_d M M') (P : Nat) (R : Int32) : ∀ n, wk_st M' P R n = wk_st M P R n
  | 0 => rfl
  | n + 1 => by
    have e : wk_cu M' P R n = wk_cu M P R n := by
      unfold wk_cu
      rw [h.1 9 P n rfl, h.1 27 0 n rfl]
    rw [wk_st, wk_st, wk_st_fr h P R n, e, h.1 31 0 n rfl]
theorem wk_go_fr {M M' : cb_M} (h : cb_fr fr_d M M') (P n : Nat) : wk_go M' P n = wk_go M P n := by
  unfold wk_go
  rw [wk_ro_fr h, wk_st_fr h]
theorem ok_X7_pullToday : cb_MOK cb_tb yX7_pullToday md_X7_pullToday pt_X7_pullToday := by
  refine cb_okm ⟨plainFor_of_name (by decide), rfl⟩ (by decide) cs_X7_pullToday (by decide) (fun X n0 f i r M hr ha h => ?_)
  have h0 := cb_a1 (T := 25) rfl ha
  subst h0
  match r, hr, h with
  | [.inl x], hr, h =>
    obtain ⟨P, n, m, j, ⟨hR, hph, hx, hj⟩, h⟩ := h
    obtain ⟨hT, hb, hm, hpr, hwt⟩ := hR
    obtain ⟨hP, hP2, hn, hn8⟩ := id hT
    have hx8 : vp_in x 8 := by rw [hx]; exact cb_in8 hj hn8 (by decide)
    have hx32 : vp_in x 32 := by rw [hx]; exact cb_in8 hj (by omega) (by decide)
    have hxc : x.toNatClampNeg = j := by rw [hx]; exact nI_clamp (by omega)
    refine cb_run cb_tb_ok vd_X7_pullToday (cuts := []) 40 ?_
    refine And.intro (cb_on rfl) ⟨P, n, hT, And.intro (cb_on rfl) ⟨P, n, hT, And.intro (cb_on rfl) ⟨m, hm, fun M2 hF2 hD => ?_⟩⟩⟩
    have hT2 := wk_T_fr (hF2.mono fr_d_t) hT
    have hg2 := wk_go_fr hF2 P n
    have eg := wt_go (P := P) hn8 hj hb
    refine And.intro (cb_on rfl) ⟨P, n, ⟨hT2, hx32⟩, cb_ifz (fun q => ?_) (fun q => ?_)⟩
    · rw [hxc, hg2, eg] at q
      refine And.intro trivial (cb_eqK (h M2 (hF2.mono fr_d_t)) ?_)
      unfold wn_now
      rw [q]
      rfl
    · rw [hxc, hg2] at q
      refine And.intro (cb_on rfl) ⟨P, ⟨hT2.1, hP2, hx8, by rw [hxc, hF2.1 8 P j rfl]; exact hwt j hj⟩, And.intro trivial (cb_eqK (h M2 (hF2.mono fr_d_t)) ?_)⟩
      unfold wn_now
      rw [← eg, if_pos q, hxc, hD j (by omega), hF2.1 8 P j rfl]
      unfold wn_pul
      rw [← wk_drv hn8 hb hpr hph hj q, show (wt_c M P n).wt j = cb_gI M 8 P j from wn_tr_lt hj]
      rfl
/-! who is in step with whom -/
def wn_in (ph : wm_F) (a b : Nat) : Bool := decide (wm_beat (wm_ap (ph a) (ph b)) = 2)
def wm_lb (k : Nat) : Int64 := (1 : Int64) <<< ((nI k).toInt64 &&& 63)
def wm_sp1 (ph : wm_F) (a : Nat) : Nat → Int64 → Int64
  | 0, x => x
  | b + 1, x => if a < b ∧ wn_in ph a b = true then wm_sp1 ph a b x ||| wm_lb (a * 8 + b) else wm_sp1 ph a b x
def wm_sp (ph : wm_F) (n : Nat) : Nat → Int64
  | 0 => 0
  | a + 1 => wm_sp1 ph a n (wm_sp ph n a)
theorem wm_sp1_le {ph : wm_F} {a : Nat} {x : Int64} : ∀ {b : Nat}, b ≤ a + 1 → wm_sp1 ph a b x = x
  | 0, _ => rfl
  | b + 1, h => by
    rw [wm_sp1, if_neg (fun w => absurd w.1 (by omega)), wm_sp1_le (by omega)]
def sp_stepPairs : cb_Sp := fun _ r M K => match r with
  | [] => ∃ P n, wk_T M P n ∧ K (some (cb_l (wm_sp (cb_gI M 27 0) n n))) M
  | _ => False
def pt_X7_stepPairs : cb_PT := cb_m 25 0 sp_stepPairs
theorem rc_X7_stepPairs : cb_rc cb_tb RX7 pt_X7_stepPairs := cb_m_rc rfl rfl
def md_X7_stepPairs : cb_D := (RX7, cX7_stepPairs, 5, (some .long), (0, 0, 3, 66), [
  (0, .lconst 0, 1, 0, 0, 0, 0),
  (1, .lstore_n 1, 1, 0, 1, 0, 0),
  (2, .iconst 0, 1, 0, 0, 0, 0),
  (3, .istore_n 3, 1, 0, 3, 0, 0),
  (4, .iload_n 3, 1, 0, 3, 0, 0),
  (5, .aload_n 0, 1, 0, 0, 0, 0),
  (6, .getfield 9, 3, 0, 7, 2, 226),
  (9, .if_icmp .ge 52, 3, 0, 61, 0, 0),
  (12, .iload_n 3, 1, 0, 3, 0, 0),
  (13, .iconst 1, 1, 1, 0, 0, 0),
  (14, .iadd, 1, 0, 0, 0, 0),
  (15, .istore 4, 2, 0, 4, 0, 0),
  (17, .iload 4, 2, 0, 4, 0, 0),
  (19, .aload_n 0, 1, 0, 0, 0, 0),
  (20, .getfield 9, 3, 0, 7, 2, 226),
  (23, .if_icmp .ge 32, 3, 0, 55, 0, 0),
  (26, .aload_n 0, 1, 0, 0, 0, 0),
  (27, .iload_n 3, 1, 0, 3, 0, 0),
  (28, .iload 4, 2, 0, 4, 0, 0),
  (30, .invokevirtual 196, 3, 0, 0, 0, 0),
  (33, .iconst 2, 1, 2, 0, 0, 0),
  (34, .if_icmp .ne 15, 3, 0, 49, 0, 0),
  (37, .lload_n 1, 1, 0, 1, 0, 0),
  (38, .lconst 1, 1, 0, 0, 0, 0),
  (39, .iload_n 3, 1, 0, 3, 0, 0),
  (40, .bipush 8, 2, 8, 0, 0, 0),
  (42, .imul, 1, 0, 0, 0, 0),
  (43, .iload 4, 2, 0, 4, 0, 0),
  (45, .iadd, 1, 0, 0, 0, 0),
  (46, .lshl, 1, 0, 0, 0, 0),
  (47, .lor, 1, 0, 0, 0, 0),
  (48, .lstore_n 1, 1, 0, 1, 0, 0),
  (49, .iinc 4 1, 3, 1, 4, 0, 0),
  (52, .goto (-35), 3, 0, 17, 0, 0),
  (55, .iinc 3 1, 3, 1, 3, 0, 0),
  (58, .goto (-54), 3, 0, 4, 0, 0),
  (61, .lload_n 1, 1, 0, 1, 0, 0),
  (62, .lreturn, 1, 0, 0, 0, 0)],
  [(0, 196, 3, 0, 0, pt_X7_beatOf)], [])
set_option maxRecDepth 100000 in
theorem vd_X7_stepPairs : md_X7_stepPairs.cd.all (cb_vE md_X7_stepPairs) = true := by decide +kernel
theorem wd_X7_stepPairs : cb_wd yX7_stepPairs md_X7_stepPairs := ⟨cb_tw (i := 991) (by decide +kernel), cb_tw (i := 5) (by decide +kernel), by decide, by decide⟩
theorem cs_X7_stepPairs : ∀ X, cb_Bs md_X7_stepPairs X → ∀ g ∈ md_X7_stepPairs.ga, cb_CS cb_tb md_X7_stepPairs X g := fun X B => List.forall_mem_cons.mpr ⟨cb_csV B ok_X7_beatOf wd_X7_beatOf (cb_tw (i := 992) (by decide +kernel)) (cb_tw (i := 491) (by decide +kernel)) (cb_tw (i := 492) (by decide +kernel)) rc_X7_beatOf ⟨by decide, by decide⟩ (by decide +kernel), fun _ h => nomatch h⟩
theorem cb_eqL {K : cb_Out → cb_A → cb_M → Prop} {a : cb_A} {M : cb_M} {u v : Int64} (h : K (.inl (some (cb_l u))) a M) (e : v = u) : K (.inl (some (cb_l v))) a M := by
  subst e
  exact h
theorem ok_X7_stepPairs : cb_MOK cb_tb yX7_stepPairs md_X7_stepPairs pt_X7_stepPairs := by
  refine cb_okm ⟨plainFor_of_name (by decide), rfl⟩ (by decide) cs_X7_stepPairs (by decide) (fun X n0 f i r M hr ha h => ?_)
  have h0 := cb_a1 (T := 25) rfl ha
  subst h0
  match r, hr, h with
  | [], hr, h =>
    obtain ⟨P, n, ⟨hP, hP2, hn, hn8⟩, h⟩ := h
    have inner : ∀ a, a < n → (∀ (x : Int32) (z : Int64) (v : Option cb_V), x = nI (a + 1) → z = wm_sp (cb_gI M 27 0) n (a + 1) → cb_Gd cb_tb md_X7_stepPairs X 4 [some (cb_r 25 0), some (cb_l z), none, some (cb_i x), v] [] (cb_aS n0, f) M 0 0) →
        ∀ l, l ≤ n → a < l → ∀ (y : Int32) (z : Int64), y = nI l → z = wm_sp1 (cb_gI M 27 0) a l (wm_sp (cb_gI M 27 0) n a) → cb_Gd cb_tb md_X7_stepPairs X 17 [some (cb_r 25 0), some (cb_l z), none, some (cb_i (nI a)), some (cb_i y)] [] (cb_aS n0, f) M 0 0 := by
      intro a ha' hout
      have hxc : (nI a).toNatClampNeg = a := nI_clamp (by omega)
      refine cb_up (fun l => a < l → ∀ (y : Int32) (z : Int64), y = nI l → z = wm_sp1 (cb_gI M 27 0) a l (wm_sp (cb_gI M 27 0) n a) → cb_Gd cb_tb md_X7_stepPairs X 17 [some (cb_r 25 0), some (cb_l z), none, some (cb_i (nI a)), some (cb_i y)] [] (cb_aS n0, f) M 0 0) ?_ ?_
      · intro _ y z hy hz
        refine cb_run cb_tb_ok vd_X7_stepPairs (cuts := [4, 17]) 40 ?_
        refine cb_lout hy hn ?_
        exact hout _ _ _ (nI_1 a) hz
      · intro l hl ih hal y z hy hz
        have hyc : y.toNatClampNeg = l := by rw [hy]; exact nI_clamp (by omega)
        refine cb_run cb_tb_ok vd_X7_stepPairs (cuts := [4, 17]) 60 ?_
        refine cb_lin hy hn hl (by omega) (And.intro (cb_on rfl) (And.intro ⟨cb_in8 ha' hn8 (by decide), by rw [hy]; exact cb_in8 hl hn8 (by decide)⟩ (cb_ifne (fun q => ?_) (fun q => ?_))))
        · rw [hxc, hyc] at q
          refine ih (by omega) _ _ (by rw [hy, nI_1]) ?_
          rw [hz, wm_sp1, if_neg (fun w => q (of_decide_eq_true w.2))]
        · rw [hxc, hyc] at q
          refine ih (by omega) _ _ (by rw [hy, nI_1]) ?_
          rw [wm_sp1, if_pos ⟨hal, decide_eq_true q⟩, ← hz]
          have e : nI a * 8 + y = nI (a * 8 + l) := by
            rw [hy, show (8 : Int32) = nI 8 from rfl, show nI a * nI 8 = nI (a * 8) from (Int32.ofNat_mul a 8).symm, nI_add]
          show z ||| (1 : Int64) <<< ((nI a * 8 + y).toInt64 &&& 63) = z ||| wm_lb (a * 8 + l)
          rw [e]
          rfl
    have outer : ∀ a, a ≤ n → ∀ (x : Int32) (z : Int64) (v : Option cb_V), x = nI a → z = wm_sp (cb_gI M 27 0) n a → cb_Gd cb_tb md_X7_stepPairs X 4 [some (cb_r 25 0), some (cb_l z), none, some (cb_i x), v] [] (cb_aS n0, f) M 0 0 := by
      refine cb_up (fun a => ∀ (x : Int32) (z : Int64) (v : Option cb_V), x = nI a → z = wm_sp (cb_gI M 27 0) n a → cb_Gd cb_tb md_X7_stepPairs X 4 [some (cb_r 25 0), some (cb_l z), none, some (cb_i x), v] [] (cb_aS n0, f) M 0 0) ?_ ?_
      · intro x z v hx hz
        refine cb_run cb_tb_ok vd_X7_stepPairs (cuts := [4, 17]) 40 ?_
        exact cb_lout hx hn (And.intro rfl (cb_eqL h hz))
      · intro a ha' ih x z v hx hz
        subst hx
        refine cb_run cb_tb_ok vd_X7_stepPairs (cuts := [4, 17]) 40 ?_
        refine cb_lin rfl hn ha' (by omega) ?_
        refine inner a ha' ih (a + 1) ha' (by omega) _ _ (nI_1 a) ?_
        rw [hz, wm_sp1_le (by omega)]
    exact cb_run cb_tb_ok vd_X7_stepPairs (cuts := [4, 17]) 40 (outer 0 (Nat.zero_le _) _ _ _ rfl rfl)
