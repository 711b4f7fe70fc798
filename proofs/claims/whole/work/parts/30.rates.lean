/-! ===== what comes when a clock has another rate ===== -/
def fr_r (i t j : Nat) : Bool := fr_t t j || (Nat.beq t 26 && Nat.beq j i)
theorem fr_t_r (i : Nat) : ∀ t j, fr_t t j = true → fr_r i t j = true := fun t j h => by unfold fr_r; rw [h]; rfl
theorem wk_h_fr {M M' : cb_M} {i : Nat} (h : cb_fr (fr_r i) M M') (P n : Nat) : wk_h M' P n = wk_h M P n := by
  funext a b
  unfold wk_h wm_hear
  show (if cb_gI M' 9 P a = 2 ∨ cb_gI M' 9 P a = 1 ∨ cb_gI M' 9 P b = 2 then (0 : Int32) else if ¬ cb_gI M' 29 0 a = cb_gI M' 29 0 b then cb_gI M' 14 P (a * 8 + b) else (if cb_gI M' 9 P b = 4 then 2 * cb_gI M' 8 P b else cb_gI M' 8 P b) * (10 - cb_gI M' 4 P (cb_gI M' 29 0 a).toNatClampNeg) / (1 + wm_abs (cb_gI M' 30 0 a - cb_gI M' 30 0 b)) + cb_gI M' 14 P (a * 8 + b)) = _
  rw [h.fn 9 P (fun _ => rfl), h.fn 14 P (fun _ => rfl), h.fn 8 P (fun _ => rfl), h.fn 4 P (fun _ => rfl), h.fn 29 0 (fun _ => rfl), h.fn 30 0 (fun _ => rfl)]
  rfl
theorem wk_R_r {M M' : cb_M} {i : Nat} (h : cb_fr (fr_r i) M M') {P n m : Nat} (hR : wk_R M P n m) : wk_R M' P n m := by
  obtain ⟨⟨t1, t2, t3, t4⟩, hb, ⟨h1, h2, h3⟩, h4, h5⟩ := hR
  refine ⟨⟨(h.ref 25 0 0).trans t1, t2, (h.1 25 0 2 rfl).trans t3, t4⟩, ?_, ⟨(h.1 25 0 13 rfl).trans h1, h2, ?_⟩, ?_, ?_⟩
  · unfold wk_bm at *
    intro i j hi hj
    rw [h.fn 31 0 (fun _ => rfl), h.fn 29 0 (fun _ => rfl)]
    exact hb i j hi hj
  · unfold wk_pw at *
    rw [h.fn 33 0 (fun _ => rfl), h.fn 34 0 (fun _ => rfl)]
    exact h3
  · have e1 : wk_up M' = wk_up M := funext fun i => by unfold wk_up; rw [h.1 25 0 9 rfl]
    have e3 : ∀ g, wk_g M' g = wk_g M g := fun g => funext fun p => by unfold wk_g; rw [h.fn 33 0 (fun _ => rfl), h.fn 34 0 (fun _ => rfl), h.fn 35 0 (fun _ => rfl), h.fn 36 0 (fun _ => rfl)]
    unfold wk_pr at *
    intro g
    rw [e1, wk_h_fr h, e3]
    exact h4 g
  · rw [h.fn 8 P (fun _ => rfl)]
    exact h5
theorem wk_W_r {M M' : cb_M} {i : Nat} (h : cb_fr (fr_r i) M M') {P n : Nat} (hW : wk_W M P n) : wk_W M' P n := by
  obtain ⟨⟨h1, h2, h3, h4⟩, hB, h5, h6, h7⟩ := hW
  refine ⟨⟨(h.ref 25 0 0).trans h1, h2, (h.1 25 0 2 rfl).trans h3, h4⟩, ?_, (h.ref 25 0 1).trans h5, ?_, (h.1 3 P 1 rfl).trans h7⟩
  · unfold wk_B at *
    rw [h.fn 29 0 (fun _ => rfl), h.fn 30 0 (fun _ => rfl)]
    exact hB
  · rw [h.fn 8 P (fun _ => rfl)]
    exact h6
theorem wk_Q_r {M M' : cb_M} {i : Nat} (h : cb_fr (fr_r i) M M') {P n : Nat} (hQ : wk_Q M P n) (hp : wk_Ph M' n) : wk_Q M' P n := by
  obtain ⟨hW, -, m, hR⟩ := hQ
  exact ⟨wk_W_r h hW, hp, m, wk_R_r h hR⟩
/-- another rate for one -/
def wn_rt (c : wn_C) (i : Nat) (r : Int32) : wn_C := (c.1, c.kd, c.bd, c.wt, c.ky, fun a => if a = i then r else c.rt a, c.he)
theorem wt_c_r {M M' : cb_M} {i : Nat} (h : cb_fr (fr_r i) M M') {P n : Nat} (hi : i < n) : wt_c M' P n = wn_rt (wt_c M P n) i (cb_gI M' 26 0 i) := by
  have e : (fun a b => if a < n ∧ b < n then wm_hear (wk_c M' P n) a b else 0) = fun a b => if a < n ∧ b < n then wm_hear (wk_c M P n) a b else 0 := by
    have := wk_h_fr h P n
    funext a b
    rw [show wm_hear (wk_c M' P n) a b = wk_h M' P n a b from rfl, this]
    rfl
  unfold wt_c wn_rt
  rw [e, h.fn 9 P (fun _ => rfl), h.fn 29 0 (fun _ => rfl), h.fn 8 P (fun _ => rfl), h.fn 11 P (fun _ => rfl)]
  have e2 : wn_tr n (cb_gI M' 26 0) = fun a => if a = i then cb_gI M' 26 0 i else wn_tr n (cb_gI M 26 0) a := by
    funext a
    unfold wn_tr
    by_cases q : a = i
    · subst q
      rw [if_pos rfl, if_pos hi]
    · rw [if_neg q, h.1 26 0 a (by
        show (false || (true && Nat.beq a i)) = false
        cases hh : Nat.beq a i with
        | false => rfl
        | true => exact absurd (Nat.eq_of_beq_eq_true hh) q)]
  rw [e2]
theorem wn_rt_rt (c : wn_C) (i : Nat) (r q : Int32) : wn_rt (wn_rt c i q) i r = wn_rt c i r := by
  unfold wn_rt
  refine Prod.ext rfl (Prod.ext rfl (Prod.ext rfl (Prod.ext rfl (Prod.ext rfl (Prod.ext (funext fun a => ?_) rfl)))))
  show (if a = i then r else if a = i then q else c.rt a) = if a = i then r else c.rt a
  by_cases e : a = i
  · rw [if_pos e, if_pos e]
  · rw [if_neg e, if_neg e, if_neg e]
theorem wb_s_r {M M' : cb_M} {i : Nat} (h : cb_fr (fr_r i) M M') (P n : Nat) : wb_s M' P n = wb_s M P n := by
  unfold wb_s
  rw [h.1 16 0 0 rfl, h.fn 10 P (fun _ => rfl), h.fn 17 0 (fun _ => rfl)]
theorem wt_u_r {M M' : cb_M} {i : Nat} (h : cb_fr (fr_r i) M M') (n : Nat) : wt_u M' n = wt_u M n := by
  unfold wt_u
  rw [h.1 25 0 9 rfl, h.1 25 0 10 rfl]
/-- the days with that rate -/
def wk_rt (M : cb_M) (P n i : Nat) (r : Int32) (k : Nat) : wm_S := wn_days (wn_rt (wt_c M P n) i r) (wt_u M n) (cb_gI M 15 P) (wb_s M P n) k
theorem wk_rt_r {M M' : cb_M} {i : Nat} (h : cb_fr (fr_r i) M M') {P n : Nat} (hi : i < n) (r : Int32) (k : Nat) : wk_rt M' P n i r k = wk_rt M P n i r k := by
  unfold wk_rt
  rw [wt_c_r h hi, wn_rt_rt, wt_u_r h, wb_s_r h, h.fn 15 P (fun _ => rfl)]
def sp_X5_tryRate : cb_Sp := fun _ r M K => match r with
  | [.inl x, .inl rate, .inl N] => ∃ P n i k, (wk_Q M P n ∧ N = nI k ∧ k < 2 ^ 31 ∧ x = nI i ∧ i < n) ∧ ∀ M', cb_fr (fr_r i) M M' → wk_Ph M' n → wt_s M' n = wk_rt M P n i rate k → K none M'
  | _ => False
def pt_X5_tryRate : cb_PT := cb_m 41 3 sp_X5_tryRate
theorem rc_X5_tryRate : cb_rc cb_tb RX5 pt_X5_tryRate := cb_m_rc rfl rfl
def md_X5_tryRate : cb_D := (RX5, cX5_tryRate, 4, none, (0, 0, 5, 111), [
  (0, .aload_n 0, 1, 0, 0, 0, 0),
  (1, .getfield 9, 3, 0, 5, 0, 325),
  (4, .invokevirtual 15, 3, 0, 0, 0, 0),
  (7, .aload_n 0, 1, 0, 0, 0, 0),
  (8, .getfield 9, 3, 0, 5, 0, 325),
  (11, .getfield 20, 3, 0, 7, 4, 235),
  (14, .iload_n 1, 1, 0, 1, 0, 0),
  (15, .iload_n 2, 1, 0, 2, 0, 0),
  (16, .iastore, 1, 0, 0, 0, 0),
  (17, .aload_n 0, 1, 0, 0, 0, 0),
  (18, .getfield 9, 3, 0, 5, 0, 325),
  (21, .iload_n 3, 1, 0, 3, 0, 0),
  (22, .invokevirtual 24, 3, 0, 1, 0, 0),
  (25, .return_, 1, 0, 0, 0, 0)],
  [(0, 15, 1, 0, 0, pt_X7_begin), (0, 24, 2, 0, 0, pt_X7_goDays)], [])
set_option maxRecDepth 100000 in
theorem vd_X5_tryRate : md_X5_tryRate.cd.all (cb_vE md_X5_tryRate) = true := by decide +kernel
theorem wd_X5_tryRate : cb_wd yX5_tryRate md_X5_tryRate := ⟨cb_tw (i := 1122) (by decide +kernel), cb_tw (i := 8) (by decide +kernel), by decide, by decide⟩
theorem cs_X5_tryRate : ∀ X, cb_Bs md_X5_tryRate X → ∀ g ∈ md_X5_tryRate.ga, cb_CS cb_tb md_X5_tryRate X g := fun X B => List.forall_mem_cons.mpr ⟨cb_csV B ok_X7_begin wd_X7_begin (cb_tw (i := 1123) (by decide +kernel)) (cb_tw (i := 454) (by decide +kernel)) (cb_tw (i := 455) (by decide +kernel)) rc_X7_begin ⟨by decide, by decide⟩ (by decide +kernel), List.forall_mem_cons.mpr ⟨cb_csV B ok_X7_goDays wd_X7_goDays (cb_tw (i := 1124) (by decide +kernel)) (cb_tw (i := 892) (by decide +kernel)) (cb_tw (i := 893) (by decide +kernel)) rc_X7_goDays ⟨by decide, by decide⟩ (by decide +kernel), fun _ h => nomatch h⟩⟩
theorem ok_X5_tryRate : cb_MOK cb_tb yX5_tryRate md_X5_tryRate pt_X5_tryRate := by
  refine cb_okm ⟨plainFor_of_name (by decide), rfl⟩ (by decide) cs_X5_tryRate (by decide) (fun X n0 f i r M hr ha h => ?_)
  have h0 := cb_a1 (T := 41) rfl ha
  subst h0
  match r, hr, h with
  | [.inl x, .inl rate, .inl N], hr, h =>
    obtain ⟨P, n, i, k, ⟨hQ, hN, hk, hx, hi⟩, h⟩ := h
    obtain ⟨hW, hph, m, hR⟩ := id hQ
    obtain ⟨hP, hP2, hn, hn8⟩ := id hW.1
    have hx8 : vp_in x 8 := by rw [hx]; exact cb_in8 hi hn8 (by decide)
    have hxc : x.toNatClampNeg = i := by rw [hx]; exact nI_clamp (by omega)
    refine cb_run cb_tb_ok vd_X5_tryRate (cuts := []) 90 ?_
    refine And.intro (cb_on rfl) ⟨P, n, ⟨hW.1, hW.2.2.1⟩, fun M2 hF2 hs2 hp2 => And.intro hx8 ?_⟩
    have hb : fr_r i 26 x.toNatClampNeg = true := by rw [hxc]; unfold fr_r; simp
    have hF3 : cb_fr (fr_r i) M (cb_sI M2 26 0 x.toNatClampNeg rate) := (hF2.mono (fr_t_r i)).set _ hb
    refine And.intro (cb_on rfl) ⟨P, n, m, k, ⟨wk_R_r hF3 hR, hp2, hN, hk⟩, fun M4 hF4 hs4 hp4 => And.intro rfl (h M4 (hF3.trans (hF4.mono (fr_t_r i))) hp4 ?_)⟩
    rw [hs4, wt_c_r hF3 hi, wt_u_r hF3, hF3.fn 15 P (fun _ => rfl)]
    unfold wk_rt
    have e1 : cb_gI (cb_sI M2 26 0 x.toNatClampNeg rate) 26 0 i = rate := by rw [cb_gI_sI, hxc, if_pos ⟨rfl, rfl, rfl⟩]
    have e2 : wt_s (cb_sI M2 26 0 x.toNatClampNeg rate) n = wb_s M P n := hs2
    rw [e1, e2]
/-- how many rates agree, the least, the greatest -/
def wq_agr (p : Nat → Bool) : Nat → Int32 × Int32 × Int32
  | 0 => (0, -2147483648, -2147483648)
  | j + 1 => if p j = true then ((wq_agr p j).1 + 1, (if (wq_agr p j).1 = 0 then nI j - 100 else (wq_agr p j).2.1), nI j - 100) else wq_agr p j
def wq_pick3 (what : Int32) (t : Int32 × Int32 × Int32) : Int32 := if what = 0 then t.1 else if what = 1 then t.2.1 else t.2.2
def wk_agp (M : cb_M) (P n i k : Nat) (off d : Int32) (j : Nat) : Bool := decide (wm_abs ((wk_rt M P n i (nI j - 100) k).2.2 i - off) ≤ d)
theorem cb_r100 {j : Nat} (hj : j < 201) : ¬ (100 : Int32) < nI j - 100 := by
  have : ∀ j, j < 201 → ¬ (100 : Int32) < nI j - 100 := by decide +kernel
  exact this j hj
theorem cb_r100s (j : Nat) : nI j - 100 + 1 = nI (j + 1) - 100 := by
  rw [← nI_1, Int32.sub_eq_add_neg, Int32.sub_eq_add_neg]
  ac_rfl
def sp_X5_agreeing : cb_Sp := fun _ r M K => match r with
  | [.inl x, .inl off, .inl d, .inl N, .inl what] => ∃ P n i k, (wk_Q M P n ∧ N = nI k ∧ k < 2 ^ 31 ∧ x = nI i ∧ i < n) ∧ ∀ M', cb_fr (fr_r i) M M' → K (some (cb_i (wq_pick3 what (wq_agr (wk_agp M P n i k off d) 201)))) M'
  | _ => False
def pt_X5_agreeing : cb_PT := cb_m 41 5 sp_X5_agreeing
theorem rc_X5_agreeing : cb_rc cb_tb RX5 pt_X5_agreeing := cb_m_rc rfl rfl
def md_X5_agreeing : cb_D := (RX5, cX5_agreeing, 10, (some .int), (0, 0, 6, 134), [
  (0, .iconst 0, 1, 0, 0, 0, 0),
  (1, .istore 6, 2, 0, 6, 0, 0),
  (3, .ldc 28, 2, (-2147483648), 0, 0, 1118),
  (5, .istore 7, 2, 0, 7, 0, 0),
  (7, .ldc 28, 2, (-2147483648), 0, 0, 1118),
  (9, .istore 8, 2, 0, 8, 0, 0),
  (11, .bipush (-100), 2, (-100), 0, 0, 0),
  (13, .istore 9, 2, 0, 9, 0, 0),
  (15, .iload 9, 2, 0, 9, 0, 0),
  (17, .bipush 100, 2, 100, 0, 0, 0),
  (19, .if_icmp .gt 57, 3, 0, 76, 0, 0),
  (22, .aload_n 0, 1, 0, 0, 0, 0),
  (23, .iload_n 1, 1, 0, 1, 0, 0),
  (24, .iload 9, 2, 0, 9, 0, 0),
  (26, .iload 4, 2, 0, 4, 0, 0),
  (28, .invokevirtual 29, 3, 0, 0, 0, 0),
  (31, .aload_n 0, 1, 0, 0, 0, 0),
  (32, .getfield 9, 3, 0, 5, 0, 325),
  (35, .getfield 33, 3, 0, 7, 6, 240),
  (38, .iload_n 1, 1, 0, 1, 0, 0),
  (39, .iaload, 1, 0, 0, 0, 0),
  (40, .iload_n 2, 1, 0, 2, 0, 0),
  (41, .isub, 1, 0, 0, 0, 0),
  (42, .invokestatic 36, 3, 0, 1, 0, 0),
  (45, .iload_n 3, 1, 0, 3, 0, 0),
  (46, .if_icmp .gt 24, 3, 0, 70, 0, 0),
  (49, .iload 6, 2, 0, 6, 0, 0),
  (51, .ifCond .ne 8, 3, 0, 59, 0, 0),
  (54, .iload 9, 2, 0, 9, 0, 0),
  (56, .goto 5, 3, 0, 61, 0, 0),
  (59, .iload 7, 2, 0, 7, 0, 0),
  (61, .istore 7, 2, 0, 7, 0, 0),
  (63, .iload 9, 2, 0, 9, 0, 0),
  (65, .istore 8, 2, 0, 8, 0, 0),
  (67, .iinc 6 1, 3, 1, 6, 0, 0),
  (70, .iinc 9 1, 3, 1, 9, 0, 0),
  (73, .goto (-58), 3, 0, 15, 0, 0),
  (76, .iload 5, 2, 0, 5, 0, 0),
  (78, .ifCond .ne 8, 3, 0, 86, 0, 0),
  (81, .iload 6, 2, 0, 6, 0, 0),
  (83, .goto 16, 3, 0, 99, 0, 0),
  (86, .iload 5, 2, 0, 5, 0, 0),
  (88, .iconst 1, 1, 1, 0, 0, 0),
  (89, .if_icmp .ne 8, 3, 0, 97, 0, 0),
  (92, .iload 7, 2, 0, 7, 0, 0),
  (94, .goto 5, 3, 0, 99, 0, 0),
  (97, .iload 8, 2, 0, 8, 0, 0),
  (99, .ireturn, 1, 0, 0, 0, 0)],
  [(0, 29, 4, 0, 0, pt_X5_tryRate), (1, 36, 1, 0, 0, pt_J9_abs_0f7a4)], [])
set_option maxRecDepth 100000 in
theorem vd_X5_agreeing : md_X5_agreeing.cd.all (cb_vE md_X5_agreeing) = true := by decide +kernel
theorem wd_X5_agreeing : cb_wd yX5_agreeing md_X5_agreeing := ⟨cb_tw (i := 1117) (by decide +kernel), cb_tw (i := 8) (by decide +kernel), by decide, by decide⟩
theorem cs_X5_agreeing : ∀ X, cb_Bs md_X5_agreeing X → ∀ g ∈ md_X5_agreeing.ga, cb_CS cb_tb md_X5_agreeing X g := fun X B => List.forall_mem_cons.mpr ⟨cb_csV B ok_X5_tryRate wd_X5_tryRate (cb_tw (i := 1119) (by decide +kernel)) (cb_tw (i := 1121) (by decide +kernel)) (cb_tp (i := 39) (by decide +kernel)) rc_X5_tryRate ⟨by decide, by decide⟩ (by decide +kernel), List.forall_mem_cons.mpr ⟨cb_csS B ok_J9_abs_0f7a4 wd_J9_abs_0f7a4 (cb_tw (i := 1125) (by decide +kernel)) (cb_tw (i := 451) (by decide +kernel)) ⟨by decide, by decide⟩ (by decide +kernel), fun _ h => nomatch h⟩⟩
theorem ok_X5_agreeing : cb_MOK cb_tb yX5_agreeing md_X5_agreeing pt_X5_agreeing := by
  refine cb_okm ⟨plainFor_of_name (by decide), rfl⟩ (by decide) cs_X5_agreeing (by decide) (fun X n0 f i r M hr ha h => ?_)
  have h0 := cb_a1 (T := 41) rfl ha
  subst h0
  match r, hr, h with
  | [.inl x, .inl off, .inl d, .inl N, .inl what], hr, h =>
    obtain ⟨P, n, i, k, ⟨hQ, hN, hk, hx, hi⟩, h⟩ := h
    have hn8 := hQ.1.1.2.2.2
    have hx8 : vp_in x 8 := by rw [hx]; exact cb_in8 hi hn8 (by decide)
    have hxc : x.toNatClampNeg = i := by rw [hx]; exact nI_clamp (by omega)
    let H : Nat → Int32 × Int32 × Int32 := wq_agr (wk_agp M P n i k off d)
    have loop : ∀ j, j ≤ 201 → ∀ (y : Int32) (M' : cb_M), y = nI j - 100 → cb_fr (fr_r i) M M' → wk_Ph M' n → cb_Gd cb_tb md_X5_agreeing X 15 [some (cb_r 41 0), some (cb_i (x)), some (cb_i (off)), some (cb_i (d)), some (cb_i (N)), some (cb_i (what)), some (cb_i ((H j).1)), some (cb_i ((H j).2.1)), some (cb_i ((H j).2.2)), some (cb_i (y))] [] (cb_aS n0, f) M' 0 0 := by
      refine cb_up (fun j => ∀ (y : Int32) (M' : cb_M), y = nI j - 100 → cb_fr (fr_r i) M M' → wk_Ph M' n → cb_Gd cb_tb md_X5_agreeing X 15 [some (cb_r 41 0), some (cb_i (x)), some (cb_i (off)), some (cb_i (d)), some (cb_i (N)), some (cb_i (what)), some (cb_i ((H j).1)), some (cb_i ((H j).2.1)), some (cb_i ((H j).2.2)), some (cb_i (y))] [] (cb_aS n0, f) M' 0 0) ?_ ?_
      · intro y M' hy hF hp
        refine cb_run cb_tb_ok vd_X5_agreeing (cuts := [15]) 90 ?_
        refine And.intro (fun _ => ?_) (fun q => ?_)
        · refine cb_ifne (fun q1 => cb_ifne (fun q2 => ?_) (fun q2 => ?_)) (fun q1 => ?_)
          · refine And.intro trivial (cb_eqK (h M' hF) ?_)
            unfold wq_pick3
            rw [if_neg q1, if_neg q2]
          · refine And.intro trivial (cb_eqK (h M' hF) ?_)
            unfold wq_pick3
            rw [if_neg q1, if_pos q2]
          · refine And.intro trivial (cb_eqK (h M' hF) ?_)
            unfold wq_pick3
            rw [if_pos q1]
        · rw [hy] at q
          exact absurd (show (100 : Int32) < nI 201 - 100 by decide) q
      · intro j hj ih y M' hy hF hp
        refine cb_run cb_tb_ok vd_X5_agreeing (cuts := [15]) 90 ?_
        refine And.intro (fun q => by rw [hy] at q; exact absurd q (cb_r100 hj)) (fun _ => ?_)
        refine And.intro (cb_on rfl) ⟨P, n, i, k, ⟨wk_Q_r hF hQ hp, hN, hk, hx, hi⟩, fun M2 hF2 hp2 hs2 => And.intro hx8 (And.intro trivial ?_)⟩
        rw [wk_rt_r hF hi] at hs2
        have eo : cb_gI M2 28 0 x.toNatClampNeg = (wk_rt M P n i (nI j - 100) k).2.2 i := by
          rw [hxc, ← show (wt_s M2 n).2.2 i = cb_gI M2 28 0 i from wn_tr_lt hi, hs2, hy]
        have nx := ih (y + 1) M2 (by rw [hy, cb_r100s]) (hF.trans hF2) hp2
        refine And.intro (fun q => ?_) (fun q => ?_)
        · have q : d < wm_abs (cb_gI M2 28 0 x.toNatClampNeg - off) := q
          rw [eo] at q
          have e : H (j + 1) = H j := if_neg (fun w => absurd (of_decide_eq_true w) (cb_lt_nle q))
          rw [e] at nx
          exact nx
        · have q : ¬ d < wm_abs (cb_gI M2 28 0 x.toNatClampNeg - off) := q
          rw [eo] at q
          have e : H (j + 1) = ((H j).1 + 1, (if (H j).1 = 0 then nI j - 100 else (H j).2.1), nI j - 100) := if_pos (decide_eq_true (Int32.not_lt.mp q))
          rw [e, ← hy] at nx
          refine cb_ifne (fun q1 => ?_) (fun q1 => ?_)
          · rw [if_neg q1] at nx
            exact nx
          · rw [if_pos q1] at nx
            exact nx
    exact cb_run cb_tb_ok vd_X5_agreeing (cuts := [15]) 60 (loop 0 (Nat.zero_le _) _ M rfl (cb_fr.refl M) hQ.2.1)
/-- the nearest: its rate, how far -/
def wq_near (g : Nat → Int32) : Nat → Int32 × Int32
  | 0 => (-1, 1000000000)
  | j + 1 => if g j < (wq_near g j).2 then (nI j - 100, g j) else wq_near g j
def wk_far (M : cb_M) (P n i k : Nat) (off : Int32) (j : Nat) : Int32 := wm_abs ((wk_rt M P n i (nI j - 100) k).2.2 i - off)
def sp_X5_nearest : cb_Sp := fun _ r M K => match r with
  | [.inl x, .inl off, .inl N, .inl what] => ∃ P n i k, (wk_Q M P n ∧ N = nI k ∧ k < 2 ^ 31 ∧ x = nI i ∧ i < n) ∧ ∀ M', cb_fr (fr_r i) M M' → K (some (cb_i (if what = 0 then (wq_near (wk_far M P n i k off) 201).1 else (wq_near (wk_far M P n i k off) 201).2))) M'
  | _ => False
def pt_X5_nearest : cb_PT := cb_m 41 4 sp_X5_nearest
theorem rc_X5_nearest : cb_rc cb_tb RX5 pt_X5_nearest := cb_m_rc rfl rfl
def md_X5_nearest : cb_D := (RX5, cX5_nearest, 9, (some .int), (0, 0, 6, 134), [
  (0, .iconst (-1), 1, (-1), 0, 0, 0),
  (1, .istore 5, 2, 0, 5, 0, 0),
  (3, .ldc 42, 2, 1000000000, 0, 0, 1272),
  (5, .istore 6, 2, 0, 6, 0, 0),
  (7, .bipush (-100), 2, (-100), 0, 0, 0),
  (9, .istore 7, 2, 0, 7, 0, 0),
  (11, .iload 7, 2, 0, 7, 0, 0),
  (13, .bipush 100, 2, 100, 0, 0, 0),
  (15, .if_icmp .gt 48, 3, 0, 63, 0, 0),
  (18, .aload_n 0, 1, 0, 0, 0, 0),
  (19, .iload_n 1, 1, 0, 1, 0, 0),
  (20, .iload 7, 2, 0, 7, 0, 0),
  (22, .iload_n 3, 1, 0, 3, 0, 0),
  (23, .invokevirtual 29, 3, 0, 0, 0, 0),
  (26, .aload_n 0, 1, 0, 0, 0, 0),
  (27, .getfield 9, 3, 0, 5, 0, 325),
  (30, .getfield 33, 3, 0, 7, 6, 240),
  (33, .iload_n 1, 1, 0, 1, 0, 0),
  (34, .iaload, 1, 0, 0, 0, 0),
  (35, .iload_n 2, 1, 0, 2, 0, 0),
  (36, .isub, 1, 0, 0, 0, 0),
  (37, .invokestatic 36, 3, 0, 1, 0, 0),
  (40, .istore 8, 2, 0, 8, 0, 0),
  (42, .iload 8, 2, 0, 8, 0, 0),
  (44, .iload 6, 2, 0, 6, 0, 0),
  (46, .if_icmp .ge 11, 3, 0, 57, 0, 0),
  (49, .iload 8, 2, 0, 8, 0, 0),
  (51, .istore 6, 2, 0, 6, 0, 0),
  (53, .iload 7, 2, 0, 7, 0, 0),
  (55, .istore 5, 2, 0, 5, 0, 0),
  (57, .iinc 7 1, 3, 1, 7, 0, 0),
  (60, .goto (-49), 3, 0, 11, 0, 0),
  (63, .iload 4, 2, 0, 4, 0, 0),
  (65, .ifCond .ne 8, 3, 0, 73, 0, 0),
  (68, .iload 5, 2, 0, 5, 0, 0),
  (70, .goto 5, 3, 0, 75, 0, 0),
  (73, .iload 6, 2, 0, 6, 0, 0),
  (75, .ireturn, 1, 0, 0, 0, 0)],
  [(0, 29, 4, 0, 0, pt_X5_tryRate), (1, 36, 1, 0, 0, pt_J9_abs_0f7a4)], [])
set_option maxRecDepth 100000 in
theorem vd_X5_nearest : md_X5_nearest.cd.all (cb_vE md_X5_nearest) = true := by decide +kernel
theorem wd_X5_nearest : cb_wd yX5_nearest md_X5_nearest := ⟨cb_tw (i := 1271) (by decide +kernel), cb_tw (i := 8) (by decide +kernel), by decide, by decide⟩
theorem cs_X5_nearest : ∀ X, cb_Bs md_X5_nearest X → ∀ g ∈ md_X5_nearest.ga, cb_CS cb_tb md_X5_nearest X g := fun X B => List.forall_mem_cons.mpr ⟨cb_csV B ok_X5_tryRate wd_X5_tryRate (cb_tw (i := 1119) (by decide +kernel)) (cb_tw (i := 1121) (by decide +kernel)) (cb_tp (i := 39) (by decide +kernel)) rc_X5_tryRate ⟨by decide, by decide⟩ (by decide +kernel), List.forall_mem_cons.mpr ⟨cb_csS B ok_J9_abs_0f7a4 wd_J9_abs_0f7a4 (cb_tw (i := 1125) (by decide +kernel)) (cb_tw (i := 451) (by decide +kernel)) ⟨by decide, by decide⟩ (by decide +kernel), fun _ h => nomatch h⟩⟩
theorem ok_X5_nearest : cb_MOK cb_tb yX5_nearest md_X5_nearest pt_X5_nearest := by
  refine cb_okm ⟨plainFor_of_name (by decide), rfl⟩ (by decide) cs_X5_nearest (by decide) (fun X n0 f i r M hr ha h => ?_)
  have h0 := cb_a1 (T := 41) rfl ha
  subst h0
  match r, hr, h with
  | [.inl x, .inl off, .inl N, .inl what], hr, h =>
    obtain ⟨P, n, i, k, ⟨hQ, hN, hk, hx, hi⟩, h⟩ := h
    have hn8 := hQ.1.1.2.2.2
    have hx8 : vp_in x 8 := by rw [hx]; exact cb_in8 hi hn8 (by decide)
    have hxc : x.toNatClampNeg = i := by rw [hx]; exact nI_clamp (by omega)
    let H : Nat → Int32 × Int32 := wq_near (wk_far M P n i k off)
    have loop : ∀ j, j ≤ 201 → ∀ (y : Int32) (M' : cb_M) (v : Option cb_V), y = nI j - 100 → cb_fr (fr_r i) M M' → wk_Ph M' n → cb_Gd cb_tb md_X5_nearest X 11 [some (cb_r 41 0), some (cb_i (x)), some (cb_i (off)), some (cb_i (N)), some (cb_i (what)), some (cb_i ((H j).1)), some (cb_i ((H j).2)), some (cb_i (y)), v] [] (cb_aS n0, f) M' 0 0 := by
      refine cb_up (fun j => ∀ (y : Int32) (M' : cb_M) (v : Option cb_V), y = nI j - 100 → cb_fr (fr_r i) M M' → wk_Ph M' n → cb_Gd cb_tb md_X5_nearest X 11 [some (cb_r 41 0), some (cb_i (x)), some (cb_i (off)), some (cb_i (N)), some (cb_i (what)), some (cb_i ((H j).1)), some (cb_i ((H j).2)), some (cb_i (y)), v] [] (cb_aS n0, f) M' 0 0) ?_ ?_
      · intro y M' v hy hF hp
        refine cb_run cb_tb_ok vd_X5_nearest (cuts := [11]) 90 ?_
        refine And.intro (fun _ => ?_) (fun q => ?_)
        · refine cb_ifne (fun q1 => ?_) (fun q1 => ?_)
          · exact And.intro trivial (cb_eqK (h M' hF) (if_neg q1).symm)
          · exact And.intro trivial (cb_eqK (h M' hF) (if_pos q1).symm)
        · rw [hy] at q
          exact absurd (show (100 : Int32) < nI 201 - 100 by decide) q
      · intro j hj ih y M' v hy hF hp
        refine cb_run cb_tb_ok vd_X5_nearest (cuts := [11]) 90 ?_
        refine And.intro (fun q => by rw [hy] at q; exact absurd q (cb_r100 hj)) (fun _ => ?_)
        refine And.intro (cb_on rfl) ⟨P, n, i, k, ⟨wk_Q_r hF hQ hp, hN, hk, hx, hi⟩, fun M2 hF2 hp2 hs2 => And.intro hx8 (And.intro trivial ?_)⟩
        rw [wk_rt_r hF hi] at hs2
        have eo : wm_abs (cb_gI M2 28 0 x.toNatClampNeg - off) = wk_far M P n i k off j := by
          unfold wk_far
          rw [hxc, ← show (wt_s M2 n).2.2 i = cb_gI M2 28 0 i from wn_tr_lt hi, hs2, hy]
        have nx := ih (y + 1) M2 (some (cb_i (wm_abs (cb_gI M2 28 0 x.toNatClampNeg - off)))) (by rw [hy, cb_r100s]) (hF.trans hF2) hp2
        refine And.intro (fun q => ?_) (fun q => ?_)
        · have q : (H j).2 ≤ wm_abs (cb_gI M2 28 0 x.toNatClampNeg - off) := q
          rw [eo] at q
          have e : H (j + 1) = H j := if_neg (Int32.not_lt.mpr q)
          rw [e] at nx
          exact nx
        · have q : ¬ (H j).2 ≤ wm_abs (cb_gI M2 28 0 x.toNatClampNeg - off) := q
          rw [eo] at q
          have e : H (j + 1) = (nI j - 100, wk_far M P n i k off j) := if_pos (cb_nle_lt q)
          rw [e, ← hy, ← eo] at nx
          exact nx
    exact cb_run cb_tb_ok vd_X5_nearest (cuts := [11]) 60 (loop 0 (Nat.zero_le _) _ M _ rfl (cb_fr.refl M) hQ.2.1)
/-- does what was gone agree with the book -/
def wq_book (bk of : wm_F) (n : Nat) : Bool := (List.range n).all fun i => decide (bk i = -2147483648) || decide (bk i = of i)
def sp_X5_agreesWithBook : cb_Sp := fun _ r M K => match r with
  | [] => ∃ P n, (wk_T M P n ∧ cb_gR M 25 0 1 = some 0) ∧ K (some (cb_i (cb_z (wq_book (cb_gI M 22 0) (cb_gI M 28 0) n)))) M
  | _ => False
def pt_X5_agreesWithBook : cb_PT := cb_m 41 0 sp_X5_agreesWithBook
theorem rc_X5_agreesWithBook : cb_rc cb_tb RX5 pt_X5_agreesWithBook := cb_m_rc rfl rfl
def md_X5_agreesWithBook : cb_D := (RX5, cX5_agreesWithBook, 3, (some .boolean), (0, 0, 0, 0), [
  (0, .iconst 0, 1, 0, 0, 0, 0),
  (1, .istore_n 1, 1, 0, 1, 0, 0),
  (2, .iload_n 1, 1, 0, 1, 0, 0),
  (3, .aload_n 0, 1, 0, 0, 0, 0),
  (4, .getfield 9, 3, 0, 5, 0, 325),
  (7, .getfield 54, 3, 0, 7, 2, 229),
  (10, .if_icmp .ge 43, 3, 0, 53, 0, 0),
  (13, .aload_n 0, 1, 0, 0, 0, 0),
  (14, .getfield 9, 3, 0, 5, 0, 325),
  (17, .getfield 58, 3, 0, 7, 1, 224),
  (20, .getfield 62, 3, 0, 3, 6, 191),
  (23, .iload_n 1, 1, 0, 1, 0, 0),
  (24, .iaload, 1, 0, 0, 0, 0),
  (25, .istore_n 2, 1, 0, 2, 0, 0),
  (26, .iload_n 2, 1, 0, 2, 0, 0),
  (27, .ldc 28, 2, (-2147483648), 0, 0, 1118),
  (29, .if_icmp .eq 18, 3, 0, 47, 0, 0),
  (32, .iload_n 2, 1, 0, 2, 0, 0),
  (33, .aload_n 0, 1, 0, 0, 0, 0),
  (34, .getfield 9, 3, 0, 5, 0, 325),
  (37, .getfield 33, 3, 0, 7, 6, 240),
  (40, .iload_n 1, 1, 0, 1, 0, 0),
  (41, .iaload, 1, 0, 0, 0, 0),
  (42, .if_icmp .eq 5, 3, 0, 47, 0, 0),
  (45, .iconst 0, 1, 0, 0, 0, 0),
  (46, .ireturn, 1, 0, 0, 0, 0),
  (47, .iinc 1 1, 3, 1, 1, 0, 0),
  (50, .goto (-48), 3, 0, 2, 0, 0),
  (53, .iconst 1, 1, 1, 0, 0, 0),
  (54, .ireturn, 1, 0, 0, 0, 0)],
  [], [])
set_option maxRecDepth 100000 in
theorem vd_X5_agreesWithBook : md_X5_agreesWithBook.cd.all (cb_vE md_X5_agreesWithBook) = true := by decide +kernel
theorem wd_X5_agreesWithBook : cb_wd yX5_agreesWithBook md_X5_agreesWithBook := ⟨cb_tw (i := 1160) (by decide +kernel), cb_tw (i := 8) (by decide +kernel), by decide, by decide⟩
theorem cs_X5_agreesWithBook : ∀ X, cb_Bs md_X5_agreesWithBook X → ∀ g ∈ md_X5_agreesWithBook.ga, cb_CS cb_tb md_X5_agreesWithBook X g := fun X B => fun _ h => nomatch h
theorem ok_X5_agreesWithBook : cb_MOK cb_tb yX5_agreesWithBook md_X5_agreesWithBook pt_X5_agreesWithBook := by
  refine cb_okm ⟨plainFor_of_name (by decide), rfl⟩ (by decide) cs_X5_agreesWithBook (by decide) (fun X n0 f i r M hr ha h => ?_)
  have h0 := cb_a1 (T := 41) rfl ha
  subst h0
  match r, hr, h with
  | [], hr, h =>
    obtain ⟨P, n, ⟨⟨hP, hP2, hn, hn8⟩, hq⟩, h⟩ := h
    let g : Nat → Bool := fun i => decide (cb_gI M 22 0 i = -2147483648) || decide (cb_gI M 22 0 i = cb_gI M 28 0 i)
    have loop : ∀ j, j ≤ n → ∀ (x : Int32) (v : Option cb_V), x = nI j → (List.range j).all g = true → cb_Gd cb_tb md_X5_agreesWithBook X 2 [some (cb_r 41 0), some (cb_i (x)), v] [] (cb_aS n0, f) M 0 0 := by
      refine cb_up (fun j => ∀ (x : Int32) (v : Option cb_V), x = nI j → (List.range j).all g = true → cb_Gd cb_tb md_X5_agreesWithBook X 2 [some (cb_r 41 0), some (cb_i (x)), v] [] (cb_aS n0, f) M 0 0) ?_ ?_
      · intro x v hx hz
        refine cb_run cb_tb_ok vd_X5_agreesWithBook (cuts := [2]) 90 ?_
        exact cb_lout hx hn (And.intro cb_rt1 (cb_z1 (K := fun v M' => X.K (.inl v) (cb_aS n0, f) M') h hz))
      · intro j hj ih x v hx hz
        have hx8 : vp_in x 8 := by rw [hx]; exact cb_in8 hj hn8 (by decide)
        have hxc : x.toNatClampNeg = j := by rw [hx]; exact nI_clamp (by omega)
        have nx : g j = true → cb_Gd cb_tb md_X5_agreesWithBook X 2 [some (cb_r 41 0), some (cb_i ((x + 1))), some (cb_i (cb_gI M 22 0 x.toNatClampNeg))] [] (cb_aS n0, f) M 0 0 := fun q => ih _ _ (by rw [hx, nI_1]) (by rw [cb_all_succ, hz, q]; rfl)
        refine cb_run cb_tb_ok vd_X5_agreesWithBook (cuts := [2]) 90 ?_
        refine cb_lin hx hn hj (by omega) (Exists.intro (some 0) (And.intro hq (And.intro hx8 (And.intro (fun q => ?_) (fun q => And.intro hx8 (And.intro (fun q2 => ?_) (fun q2 => ?_)))))))
        · have q : cb_gI M 22 0 x.toNatClampNeg = -2147483648 := q
          rw [hxc] at q
          exact nx (show (decide (cb_gI M 22 0 j = -2147483648) || decide (cb_gI M 22 0 j = cb_gI M 28 0 j)) = true by rw [q]; simp)
        · have q2 : cb_gI M 22 0 x.toNatClampNeg = cb_gI M 28 0 x.toNatClampNeg := q2
          rw [hxc] at q2
          exact nx (show (decide (cb_gI M 22 0 j = -2147483648) || decide (cb_gI M 22 0 j = cb_gI M 28 0 j)) = true by rw [q2]; simp)
        · have q : ¬ cb_gI M 22 0 x.toNatClampNeg = -2147483648 := q
          have q2 : ¬ cb_gI M 22 0 x.toNatClampNeg = cb_gI M 28 0 x.toNatClampNeg := q2
          rw [hxc] at q q2
          exact And.intro cb_rt0 (cb_z0 (K := fun v M' => X.K (.inl v) (cb_aS n0, f) M') h (cb_all_miss hj (by rw [decide_eq_false q, decide_eq_false q2]; rfl)))
    exact cb_run cb_tb_ok vd_X5_agreesWithBook (cuts := [2]) 60 (loop 0 (Nat.zero_le _) _ _ rfl rfl)
def wk_exp (M : cb_M) (P n i k j : Nat) : Bool := decide (¬ nI j - 100 = cb_gI M 7 P i) && wq_book (cb_gI M 22 0) (wk_rt M P n i (nI j - 100) k).2.2 n
def sp_X5_isExplainedBy : cb_Sp := fun _ r M K => match r with
  | [.inl x, .inl N] => ∃ P n i k, (wk_Q M P n ∧ N = nI k ∧ k < 2 ^ 31 ∧ x = nI i ∧ i < n ∧ cb_gI M 26 0 i = cb_gI M 7 P i) ∧ ∀ M', cb_fr (fr_r i) M M' → cb_gI M' 26 0 i = cb_gI M 26 0 i → wk_Ph M' n → K (some (cb_i (cb_z ((List.range 201).any (wk_exp M P n i k))))) M'
  | _ => False
def pt_X5_isExplainedBy : cb_PT := cb_m 41 2 sp_X5_isExplainedBy
theorem rc_X5_isExplainedBy : cb_rc cb_tb RX5 pt_X5_isExplainedBy := cb_m_rc rfl rfl
def md_X5_isExplainedBy : cb_D := (RX5, cX5_isExplainedBy, 6, (some .boolean), (0, 0, 6, 134), [
  (0, .aload_n 0, 1, 0, 0, 0, 0),
  (1, .getfield 9, 3, 0, 5, 0, 325),
  (4, .getfield 43, 3, 0, 7, 0, 221),
  (7, .getfield 47, 3, 0, 4, 8, 96),
  (10, .iload_n 1, 1, 0, 1, 0, 0),
  (11, .iaload, 1, 0, 0, 0, 0),
  (12, .istore_n 3, 1, 0, 3, 0, 0),
  (13, .iconst 0, 1, 0, 0, 0, 0),
  (14, .istore 4, 2, 0, 4, 0, 0),
  (16, .bipush (-100), 2, (-100), 0, 0, 0),
  (18, .istore 5, 2, 0, 5, 0, 0),
  (20, .iload 5, 2, 0, 5, 0, 0),
  (22, .bipush 100, 2, 100, 0, 0, 0),
  (24, .if_icmp .gt 34, 3, 0, 58, 0, 0),
  (27, .iload 4, 2, 0, 4, 0, 0),
  (29, .ifCond .ne 29, 3, 0, 58, 0, 0),
  (32, .iload 5, 2, 0, 5, 0, 0),
  (34, .iload_n 3, 1, 0, 3, 0, 0),
  (35, .if_icmp .eq 17, 3, 0, 52, 0, 0),
  (38, .aload_n 0, 1, 0, 0, 0, 0),
  (39, .iload_n 1, 1, 0, 1, 0, 0),
  (40, .iload 5, 2, 0, 5, 0, 0),
  (42, .iload_n 2, 1, 0, 2, 0, 0),
  (43, .invokevirtual 29, 3, 0, 0, 0, 0),
  (46, .aload_n 0, 1, 0, 0, 0, 0),
  (47, .invokevirtual 50, 3, 0, 1, 0, 0),
  (50, .istore 4, 2, 0, 4, 0, 0),
  (52, .iinc 5 1, 3, 1, 5, 0, 0),
  (55, .goto (-35), 3, 0, 20, 0, 0),
  (58, .aload_n 0, 1, 0, 0, 0, 0),
  (59, .getfield 9, 3, 0, 5, 0, 325),
  (62, .getfield 20, 3, 0, 7, 4, 235),
  (65, .iload_n 1, 1, 0, 1, 0, 0),
  (66, .iload_n 3, 1, 0, 3, 0, 0),
  (67, .iastore, 1, 0, 0, 0, 0),
  (68, .iload 4, 2, 0, 4, 0, 0),
  (70, .ireturn, 1, 0, 0, 0, 0)],
  [(0, 29, 4, 0, 0, pt_X5_tryRate), (0, 50, 1, 0, 0, pt_X5_agreesWithBook)], [])
set_option maxRecDepth 100000 in
theorem vd_X5_isExplainedBy : md_X5_isExplainedBy.cd.all (cb_vE md_X5_isExplainedBy) = true := by decide +kernel
theorem wd_X5_isExplainedBy : cb_wd yX5_isExplainedBy md_X5_isExplainedBy := ⟨cb_tw (i := 1156) (by decide +kernel), cb_tw (i := 8) (by decide +kernel), by decide, by decide⟩
theorem cs_X5_isExplainedBy : ∀ X, cb_Bs md_X5_isExplainedBy X → ∀ g ∈ md_X5_isExplainedBy.ga, cb_CS cb_tb md_X5_isExplainedBy X g := fun X B => List.forall_mem_cons.mpr ⟨cb_csV B ok_X5_tryRate wd_X5_tryRate (cb_tw (i := 1119) (by decide +kernel)) (cb_tw (i := 1121) (by decide +kernel)) (cb_tp (i := 39) (by decide +kernel)) rc_X5_tryRate ⟨by decide, by decide⟩ (by decide +kernel), List.forall_mem_cons.mpr ⟨cb_csV B ok_X5_agreesWithBook wd_X5_agreesWithBook (cb_tw (i := 1157) (by decide +kernel)) (cb_tw (i := 1159) (by decide +kernel)) (cb_tp (i := 40) (by decide +kernel)) rc_X5_agreesWithBook ⟨by decide, by decide⟩ (by decide +kernel), fun _ h => nomatch h⟩⟩
theorem ok_X5_isExplainedBy : cb_MOK cb_tb yX5_isExplainedBy md_X5_isExplainedBy pt_X5_isExplainedBy := by
  refine cb_okm ⟨plainFor_of_name (by decide), rfl⟩ (by decide) cs_X5_isExplainedBy (by decide) (fun X n0 f i r M hr ha h => ?_)
  have h0 := cb_a1 (T := 41) rfl ha
  subst h0
  match r, hr, h with
  | [.inl x, .inl N], hr, h =>
    obtain ⟨P, n, i, k, ⟨hQ, hN, hk, hx, hi, hown⟩, h⟩ := h
    obtain ⟨hP, hP2, hn, hn8⟩ := id hQ.1.1
    have hx8 : vp_in x 8 := by rw [hx]; exact cb_in8 hi hn8 (by decide)
    have hxc : x.toNatClampNeg = i := by rw [hx]; exact nI_clamp (by omega)
    have fin : ∀ (b : Bool) (y : Int32) (M' : cb_M), cb_fr (fr_r i) M M' → wk_Ph M' n → (List.range 201).any (wk_exp M P n i k) = b → cb_Gd cb_tb md_X5_isExplainedBy X 58 [some (cb_r 41 0), some (cb_i (x)), some (cb_i (N)), some (cb_i (cb_gI M 7 P i)), some (cb_i (cb_z b)), some (cb_i (y))] [] (cb_aS n0, f) M' 0 0 := by
      intro b y M' hF hp hb
      refine cb_run cb_tb_ok vd_X5_isExplainedBy (cuts := []) 90 ?_
      refine And.intro hx8 (And.intro (cb_z_01 b) ?_)
      rw [← hb]
      have hb9 : fr_r i 26 x.toNatClampNeg = true := by rw [hxc]; unfold fr_r; simp
      refine h _ (hF.set _ hb9) ?_ hp
      rw [cb_gI_sI, hxc, if_pos ⟨rfl, rfl, rfl⟩]
      exact hown.symm
    have loop : ∀ j, j ≤ 201 → ∀ (y : Int32) (M' : cb_M) (b : Bool), y = nI j - 100 → cb_fr (fr_r i) M M' → wk_Ph M' n → (List.range j).any (wk_exp M P n i k) = b → cb_Gd cb_tb md_X5_isExplainedBy X 20 [some (cb_r 41 0), some (cb_i (x)), some (cb_i (N)), some (cb_i (cb_gI M 7 P i)), some (cb_i (cb_z b)), some (cb_i (y))] [] (cb_aS n0, f) M' 0 0 := by
      refine cb_up (fun j => ∀ (y : Int32) (M' : cb_M) (b : Bool), y = nI j - 100 → cb_fr (fr_r i) M M' → wk_Ph M' n → (List.range j).any (wk_exp M P n i k) = b → cb_Gd cb_tb md_X5_isExplainedBy X 20 [some (cb_r 41 0), some (cb_i (x)), some (cb_i (N)), some (cb_i (cb_gI M 7 P i)), some (cb_i (cb_z b)), some (cb_i (y))] [] (cb_aS n0, f) M' 0 0) ?_ ?_
      · intro y M' b hy hF hp hb
        refine cb_run cb_tb_ok vd_X5_isExplainedBy (cuts := [20, 58]) 90 ?_
        refine And.intro (fun _ => fin b y M' hF hp hb) (fun q => ?_)
        rw [hy] at q
        exact absurd (show (100 : Int32) < nI 201 - 100 by decide) q
      · intro j hj ih y M' b hy hF hp hb
        refine cb_run cb_tb_ok vd_X5_isExplainedBy (cuts := [20, 58]) 90 ?_
        refine And.intro (fun q => by rw [hy] at q; exact absurd q (cb_r100 hj)) (fun _ => And.intro (fun q => ?_) (fun q => ?_))
        · have q : ¬ cb_z b = 0 := q
          have hbt : b = true := by
            cases b with
            | true => rfl
            | false => exact absurd rfl q
          subst hbt
          refine fin true y M' hF hp ?_
          obtain ⟨g, hg, hg2⟩ := List.any_eq_true.mp hb
          have := List.mem_range.mp hg
          exact cb_any_hit (by omega) hg2
        · have q : cb_z b = 0 := Classical.not_not.mp q
          have hbf := cb_z_eq0.mp q
          subst hbf
          refine And.intro (fun q1 => ?_) (fun q1 => ?_)
          · have q1 : y = cb_gI M 7 P i := q1
            refine ih _ M' false (by rw [hy, cb_r100s]) hF hp ?_
            rw [cb_any_succ, hb]
            unfold wk_exp
            rw [← hy, q1]
            simp
          · have q1 : ¬ y = cb_gI M 7 P i := q1
            refine And.intro (cb_on rfl) ⟨P, n, i, k, ⟨wk_Q_r hF hQ hp, hN, hk, hx, hi⟩, fun M2 hF2 hp2 hs2 => ?_⟩
            rw [wk_rt_r hF hi] at hs2
            have hF3 := hF.trans hF2
            have hW3 := wk_W_r hF3 hQ.1
            refine And.intro (cb_on rfl) ⟨P, n, ⟨hW3.1, hW3.2.2.1⟩, ih _ M2 _ (by rw [hy, cb_r100s]) hF3 hp2 ?_⟩
            rw [cb_any_succ, hb]
            unfold wk_exp
            rw [← hy, decide_eq_true q1, ← hs2, hF3.fn 22 0 (fun _ => rfl)]
            unfold wq_book
            exact cb_all_cong (fun a ha' => by rw [show (wt_s M2 n).2.2 a = cb_gI M2 28 0 a from wn_tr_lt (List.mem_range.mp ha')])
    refine cb_run cb_tb_ok vd_X5_isExplainedBy (cuts := [20]) 90 ?_
    refine Exists.intro (some P) (And.intro hP (cb_av.of (cb_aPP hP2 rfl) (cb_av.of (cb_aPP hP2 rfl) (And.intro hx8 ?_))))
    have := loop 0 (Nat.zero_le _) (-100) M false rfl (cb_fr.refl M) hQ.2.1 rfl
    show cb_Gd cb_tb md_X5_isExplainedBy X 20 [some (cb_r 41 0), some (cb_i (x)), some (cb_i (N)), some (cb_i (cb_gI M 7 P x.toNatClampNeg)), some (cb_i (0)), some (cb_i (-100))] [] (cb_aS n0, f) M 0 0
    rw [hxc]
    exact this
/-- the first day on which it goes -/
def wq_tell (what : Int32) (p : Nat → Bool) (k : Nat) : Int32 := match (List.range k).find? p with
  | some j => if what = 0 then nI (j + 1) else 201
  | none => 1
theorem wq_tell_none {what : Int32} {p : Nat → Bool} {k : Nat} (h : (List.range k).any p = false) : wq_tell what p k = 1 := by
  unfold wq_tell
  rw [List.find?_eq_none.mpr (fun x hx => by
    have := List.any_eq_false.mp h x hx
    simpa using this)]
theorem wq_tell_some {what : Int32} {p : Nat → Bool} {k j : Nat} (hj : j < k) (h : (List.range j).any p = false) (hp : p j = true) : wq_tell what p k = if what = 0 then nI (j + 1) else 201 := by
  unfold wq_tell
  have e : List.range k = List.range j ++ (j :: (List.range (k - j - 1)).map (fun i => j + 1 + i)) := by
    have : k = j + (1 + (k - j - 1)) := by omega
    conv => lhs; rw [this, List.range_add, List.range_add]
    simp [List.map_map, Function.comp_def, Nat.add_assoc]
  rw [e, List.find?_append, List.find?_eq_none.mpr (fun x hx => by
    have := List.any_eq_false.mp h x hx
    simpa using this)]
  simp [hp]
def wk_tel (M : cb_M) (P n i g : Nat) : Bool := wn_go (wt_c M P n) (wt_u M n) (wk_on M P n g).1 (wk_on M P n g).2.1 i
def sp_X5_tellingDay : cb_Sp := fun _ r M K => match r with
  | [.inl x, .inl N, .inl what] => ∃ P n i k, (wk_Q M P n ∧ N = nI k ∧ k < 2 ^ 30 ∧ x = nI i ∧ i < n) ∧ ∀ M', cb_fr fr_t M M' → K (some (cb_i (wq_tell what (wk_tel M P n i) k))) M'
  | _ => False
def pt_X5_tellingDay : cb_PT := cb_m 41 3 sp_X5_tellingDay
theorem rc_X5_tellingDay : cb_rc cb_tb RX5 pt_X5_tellingDay := cb_m_rc rfl rfl
def md_X5_tellingDay : cb_D := (RX5, cX5_tellingDay, 5, (some .int), (0, 0, 5, 111), [
  (0, .iconst 1, 1, 1, 0, 0, 0),
  (1, .istore 4, 2, 0, 4, 0, 0),
  (3, .iload 4, 2, 0, 4, 0, 0),
  (5, .iload_n 2, 1, 0, 2, 0, 0),
  (6, .if_icmp .gt 41, 3, 0, 47, 0, 0),
  (9, .aload_n 0, 1, 0, 0, 0, 0),
  (10, .getfield 9, 3, 0, 5, 0, 325),
  (13, .iload_n 1, 1, 0, 1, 0, 0),
  (14, .invokevirtual 67, 3, 0, 0, 0, 0),
  (17, .ifCond .eq 16, 3, 0, 33, 0, 0),
  (20, .iload_n 3, 1, 0, 3, 0, 0),
  (21, .ifCond .ne 8, 3, 0, 29, 0, 0),
  (24, .iload 4, 2, 0, 4, 0, 0),
  (26, .goto 6, 3, 0, 32, 0, 0),
  (29, .sipush 201, 3, 201, 0, 0, 0),
  (32, .ireturn, 1, 0, 0, 0, 0),
  (33, .aload_n 0, 1, 0, 0, 0, 0),
  (34, .getfield 9, 3, 0, 5, 0, 325),
  (37, .iconst 1, 1, 1, 0, 0, 0),
  (38, .invokevirtual 24, 3, 0, 1, 0, 0),
  (41, .iinc 4 1, 3, 1, 4, 0, 0),
  (44, .goto (-41), 3, 0, 3, 0, 0),
  (47, .iconst 1, 1, 1, 0, 0, 0),
  (48, .ireturn, 1, 0, 0, 0, 0)],
  [(0, 67, 2, 0, 0, pt_X7_goesToday), (0, 24, 2, 0, 0, pt_X7_goDays)], [])
set_option maxRecDepth 100000 in
theorem vd_X5_tellingDay : md_X5_tellingDay.cd.all (cb_vE md_X5_tellingDay) = true := by decide +kernel
theorem wd_X5_tellingDay : cb_wd yX5_tellingDay md_X5_tellingDay := ⟨cb_tw (i := 1136) (by decide +kernel), cb_tw (i := 8) (by decide +kernel), by decide, by decide⟩
theorem cs_X5_tellingDay : ∀ X, cb_Bs md_X5_tellingDay X → ∀ g ∈ md_X5_tellingDay.ga, cb_CS cb_tb md_X5_tellingDay X g := fun X B => List.forall_mem_cons.mpr ⟨cb_csV B ok_X7_goesToday wd_X7_goesToday (cb_tw (i := 1137) (by decide +kernel)) (cb_tw (i := 868) (by decide +kernel)) (cb_tw (i := 869) (by decide +kernel)) rc_X7_goesToday ⟨by decide, by decide⟩ (by decide +kernel), List.forall_mem_cons.mpr ⟨cb_csV B ok_X7_goDays wd_X7_goDays (cb_tw (i := 1124) (by decide +kernel)) (cb_tw (i := 892) (by decide +kernel)) (cb_tw (i := 893) (by decide +kernel)) rc_X7_goDays ⟨by decide, by decide⟩ (by decide +kernel), fun _ h => nomatch h⟩⟩
theorem ok_X5_tellingDay : cb_MOK cb_tb yX5_tellingDay md_X5_tellingDay pt_X5_tellingDay := by
  refine cb_okm ⟨plainFor_of_name (by decide), rfl⟩ (by decide) cs_X5_tellingDay (by decide) (fun X n0 f i r M hr ha h => ?_)
  have h0 := cb_a1 (T := 41) rfl ha
  subst h0
  match r, hr, h with
  | [.inl x, .inl N, .inl what], hr, h =>
    obtain ⟨P, n, i, k, ⟨hQ, hN, hk, hx, hi⟩, h⟩ := h
    obtain ⟨hW, hph, m, hR⟩ := id hQ
    obtain ⟨hP, hP2, hn, hn8⟩ := id hW.1
    have hxc : x.toNatClampNeg = i := by rw [hx]; exact nI_clamp (by omega)
    have loop : ∀ j, j ≤ k → ∀ (y : Int32) (M' : cb_M), y = nI (j + 1) → cb_fr fr_t M M' → wk_Ph M' n → wt_s M' n = wk_on M P n j → (List.range j).any (wk_tel M P n i) = false → cb_Gd cb_tb md_X5_tellingDay X 3 [some (cb_r 41 0), some (cb_i (x)), some (cb_i (N)), some (cb_i (what)), some (cb_i (y))] [] (cb_aS n0, f) M' 0 0 := by
      refine cb_up (fun j => ∀ (y : Int32) (M' : cb_M), y = nI (j + 1) → cb_fr fr_t M M' → wk_Ph M' n → wt_s M' n = wk_on M P n j → (List.range j).any (wk_tel M P n i) = false → cb_Gd cb_tb md_X5_tellingDay X 3 [some (cb_r 41 0), some (cb_i (x)), some (cb_i (N)), some (cb_i (what)), some (cb_i (y))] [] (cb_aS n0, f) M' 0 0) ?_ ?_
      · intro y M' hy hF hp hs hz
        refine cb_run cb_tb_ok vd_X5_tellingDay (cuts := [3]) 90 ?_
        refine And.intro (fun _ => And.intro trivial (cb_eqK (h M' hF) (wq_tell_none hz).symm)) (fun q => ?_)
        have q : ¬ N < y := q
        rw [hy, hN] at q
        exact absurd (nI_lt (by omega) (by omega)) q
      · intro j hj ih y M' hy hF hp hs hz
        have hR' := wk_R_fr hF hR
        refine cb_run cb_tb_ok vd_X5_tellingDay (cuts := [3]) 90 ?_
        refine And.intro (fun q => ?_) (fun _ => ?_)
        · have q : N < y := q
          rw [hy, hN] at q
          exact absurd q (nI_nlt (by omega) (by omega))
        have eg : cb_bit (wk_go M' P n) x.toNatClampNeg = wk_tel M P n i j := by
          rw [hxc, wt_go hn8 hi hR'.2.1, wt_c_fr hF, wt_u_fr hF, hs]
          rfl
        refine And.intro (cb_on rfl) ⟨P, n, ⟨hR'.1, by rw [hx]; exact cb_in8 hi (by omega) (by decide)⟩, cb_ifz (fun q => ?_) (fun q => ?_)⟩
        · rw [eg] at q
          refine And.intro (cb_on rfl) ⟨P, n, m, 1, ⟨hR', hp, rfl, by decide⟩, fun M2 hF2 hs2 hp2 => ?_⟩
          refine ih _ M2 (by rw [hy, nI_1]) (hF.trans hF2) hp2 ?_ (by rw [cb_any_succ, hz, q]; rfl)
          rw [hs2, wt_c_fr hF, wt_u_fr hF, hs, hF.fn 15 P (fun _ => rfl)]
          rfl
        · rw [eg] at q
          have e := wq_tell_some (what := what) hj hz q
          refine cb_ifne (fun q1 => ?_) (fun q1 => ?_)
          · refine And.intro trivial (cb_eqK (h M' hF) ?_)
            rw [e, if_neg q1]
          · refine And.intro trivial (cb_eqK (h M' hF) ?_)
            rw [e, if_pos q1, hy]
    exact cb_run cb_tb_ok vd_X5_tellingDay (cuts := [3]) 60 (loop 0 (Nat.zero_le _) _ M rfl (cb_fr.refl M) hph rfl rfl)
