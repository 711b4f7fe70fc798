/-! ===== the questions ===== -/
def vq_away (V : wV) (i k : Nat) : Int32 := wm_wo (wm_wo (vq_rts V (wm_all (nI V.n)) (vq_on V k)) (wm_b1 i)) (vq_rts V (wm_wo (wm_all (nI V.n)) (wm_b1 i)) (vq_tr V (wm_wo (wm_all (nI V.n)) (wm_b1 i)) k))
def sp_X9_away : cb_Sw := fun r M K => match r with
  | [.inl x, .inl N] => ∃ P n h nb, wa_I M P n h nb ∧ wg_c n x (K (.inr 0) M) fun i => wg_r 1 100 N (K (.inr 1) M) fun k => ∀ M', cb_fx fr_Z M M' → K (.inl (some (cb_i (vq_away (va M P n h nb) i k)))) M'
  | _ => False
def pt_X9_away : cb_PT := cb_wm 2 sp_X9_away
theorem rc_X9_away : cb_rc cb_tb RX9 pt_X9_away := cb_wm_rc
def md_X9_away : cb_D := (RX9, cX9_away, 3, (some .int), (2, 12, 8, 156), [
  (0, .aload_n 0, 1, 0, 0, 0, 0),
  (1, .iload_n 1, 1, 0, 1, 0, 0),
  (2, .invokevirtual 132, 3, 0, 0, 0, 0),
  (5, .iload_n 2, 1, 0, 2, 0, 0),
  (6, .invokestatic 220, 3, 0, 1, 0, 0),
  (9, .aload_n 0, 1, 0, 0, 0, 0),
  (10, .invokevirtual 162, 3, 0, 2, 0, 0),
  (13, .pop, 1, 0, 0, 0, 0),
  (14, .aload_n 0, 1, 0, 0, 0, 0),
  (15, .getfield 72, 3, 0, 9, 11, 369),
  (18, .iload_n 1, 1, 0, 1, 0, 0),
  (19, .iload_n 2, 1, 0, 2, 0, 0),
  (20, .invokevirtual 263, 3, 0, 3, 0, 0),
  (23, .ireturn, 1, 0, 0, 0, 0)],
  [(0, 132, 2, 1, 6, pt_X9_needClock), (1, 220, 1, 1, 6, pt_X9_needDaysOn), (0, 162, 1, 0, 0, pt_X9_asTheyHang), (0, 263, 3, 0, 0, pt_X0_fallOut)], [])
set_option maxRecDepth 100000 in
theorem vd_X9_away : md_X9_away.cd.all (cb_vE md_X9_away) = true := by decide +kernel
theorem wd_X9_away : cb_wd yX9_away md_X9_away := ⟨cb_tw (i := 1011) (by decide +kernel), cb_tw (i := 1) (by decide +kernel), by decide, by decide⟩
theorem cs_X9_away : ∀ X, cb_Bs md_X9_away X → ∀ g ∈ md_X9_away.ga, cb_CS cb_tb md_X9_away X g := fun X B => List.forall_mem_cons.mpr ⟨cb_csV B ok_X9_needClock wd_X9_needClock (cb_tw (i := 785) (by decide +kernel)) (cb_tw (i := 787) (by decide +kernel)) (cb_tp (i := 22) (by decide +kernel)) rc_X9_needClock ⟨by decide, by decide⟩ (by decide +kernel), List.forall_mem_cons.mpr ⟨cb_csS B ok_X9_needDaysOn wd_X9_needDaysOn (cb_tw (i := 937) (by decide +kernel)) (cb_tw (i := 938) (by decide +kernel)) ⟨by decide, by decide⟩ (by decide +kernel), List.forall_mem_cons.mpr ⟨cb_csV B ok_X9_asTheyHang wd_X9_asTheyHang (cb_tw (i := 420) (by decide +kernel)) (cb_tw (i := 422) (by decide +kernel)) (cb_tp (i := 1) (by decide +kernel)) rc_X9_asTheyHang ⟨by decide, by decide⟩ (by decide +kernel), List.forall_mem_cons.mpr ⟨cb_csV B ok_X0_fallOut wd_X0_fallOut (cb_tw (i := 1012) (by decide +kernel)) (cb_tw (i := 1013) (by decide +kernel)) (cb_tw (i := 1014) (by decide +kernel)) rc_X0_fallOut ⟨by decide, by decide⟩ (by decide +kernel), fun _ h => nomatch h⟩⟩⟩⟩
theorem ok_X9_away : cb_MOK cb_tb yX9_away md_X9_away pt_X9_away := by
  refine cb_okw0 ⟨plainFor_of_name (by decide), rfl⟩ (by decide) cs_X9_away (by decide) (fun X n0 f r M hr h => ?_)
  match r, hr, h with
  | [.inl x, .inl N], hr, h =>
    obtain ⟨P, n, hh, nb, hI, h⟩ := h
    obtain ⟨hP, hS, hH, -⟩ := id hI
    refine cb_run cb_tb_ok vd_X9_away (cuts := []) 90 ?_
    refine And.intro (cb_on rfl) ⟨P, n, wa_B hI, And.intro h.1 (fun i hi hx => And.intro (h.2 i hi hx).1 (fun k h1 h2 hN => ?_))⟩
    have h := (h.2 i hi hx).2 k h1 h2 hN
    refine And.intro (cb_on rfl) ⟨P, n, ⟨hP, hS⟩, fun M1 m hK => And.intro (cb_on rfl) ⟨P, n, k, i, ⟨wk_K_Q hS hK, hN, by omega, hx, hi⟩, fun M2 hF2 => And.intro trivial (cb_eqK (h M2 ((hK.1.mono fr_T_Z).trans (hF2.fx fr_q_Z))) ?_)⟩⟩
    rw [vq_on_k hI hK, vq_tr_k hI hK, hK.1.1 3 P 4 rfl, hK.2.2.2.2.2.2.2.1]
    rfl
def vq_hok (V : wV) (k : Nat) (others s : Int32) : Bool := wq_all V.kd (vq_tr V (others ||| s) k).2.1 V.n s others
def vq_hold (V : wV) (k : Nat) : Int32 := (wq_hold V.so (vq_hok V k (wm_wo (wm_all (nI V.n)) V.so)) V.so.toNatClampNeg).1
theorem wq_all_kd {kd kd' f : wm_F} {n : Nat} (h : ∀ i, i < n → kd i = kd' i) (set others : Int32) : wq_all kd f n set others = wq_all kd' f n set others := by
  unfold wq_all
  refine cb_all_cong (fun i hi => ?_)
  rw [h i (List.mem_range.mp hi)]
def sp_X9_hold : cb_Sw := fun r M K => match r with
  | [.inl N] => ∃ P n h nb, wa_I M P n h nb ∧ wg_r 1 100 N (K (.inr 1) M) fun k => ∀ M', cb_fx fr_Z M M' → K (.inl (some (cb_i (vq_hold (va M P n h nb) k)))) M'
  | _ => False
def pt_X9_hold : cb_PT := cb_wm 1 sp_X9_hold
theorem rc_X9_hold : cb_rc cb_tb RX9 pt_X9_hold := cb_wm_rc
def md_X9_hold : cb_D := (RX9, cX9_hold, 2, (some .int), (1, 6, 8, 159), [
  (0, .iload_n 1, 1, 0, 1, 0, 0),
  (1, .invokestatic 220, 3, 0, 0, 0, 0),
  (4, .aload_n 0, 1, 0, 0, 0, 0),
  (5, .invokevirtual 162, 3, 0, 1, 0, 0),
  (8, .pop, 1, 0, 0, 0, 0),
  (9, .aload_n 0, 1, 0, 0, 0, 0),
  (10, .getfield 72, 3, 0, 9, 11, 369),
  (13, .iload_n 1, 1, 0, 1, 0, 0),
  (14, .invokevirtual 266, 3, 0, 2, 0, 0),
  (17, .ireturn, 1, 0, 0, 0, 0)],
  [(1, 220, 1, 1, 6, pt_X9_needDaysOn), (0, 162, 1, 0, 0, pt_X9_asTheyHang), (0, 266, 2, 0, 0, pt_X0_fewestThatHold)], [])
set_option maxRecDepth 100000 in
theorem vd_X9_hold : md_X9_hold.cd.all (cb_vE md_X9_hold) = true := by decide +kernel
theorem wd_X9_hold : cb_wd yX9_hold md_X9_hold := ⟨cb_tw (i := 1031) (by decide +kernel), cb_tw (i := 1) (by decide +kernel), by decide, by decide⟩
theorem cs_X9_hold : ∀ X, cb_Bs md_X9_hold X → ∀ g ∈ md_X9_hold.ga, cb_CS cb_tb md_X9_hold X g := fun X B => List.forall_mem_cons.mpr ⟨cb_csS B ok_X9_needDaysOn wd_X9_needDaysOn (cb_tw (i := 937) (by decide +kernel)) (cb_tw (i := 938) (by decide +kernel)) ⟨by decide, by decide⟩ (by decide +kernel), List.forall_mem_cons.mpr ⟨cb_csV B ok_X9_asTheyHang wd_X9_asTheyHang (cb_tw (i := 420) (by decide +kernel)) (cb_tw (i := 422) (by decide +kernel)) (cb_tp (i := 1) (by decide +kernel)) rc_X9_asTheyHang ⟨by decide, by decide⟩ (by decide +kernel), List.forall_mem_cons.mpr ⟨cb_csV B ok_X0_fewestThatHold wd_X0_fewestThatHold (cb_tw (i := 1032) (by decide +kernel)) (cb_tw (i := 1033) (by decide +kernel)) (cb_tw (i := 1034) (by decide +kernel)) rc_X0_fewestThatHold ⟨by decide, by decide⟩ (by decide +kernel), fun _ h => nomatch h⟩⟩⟩
theorem ok_X9_hold : cb_MOK cb_tb yX9_hold md_X9_hold pt_X9_hold := by
  refine cb_okw0 ⟨plainFor_of_name (by decide), rfl⟩ (by decide) cs_X9_hold (by decide) (fun X n0 f r M hr h => ?_)
  match r, hr, h with
  | [.inl N], hr, h =>
    obtain ⟨P, n, hh, nb, hI, h⟩ := h
    obtain ⟨hP, hS, hH, -, -, ⟨so, hso, eso⟩, -⟩ := id hI
    refine cb_run cb_tb_ok vd_X9_hold (cuts := []) 90 ?_
    refine And.intro h.1 (fun k h1 h2 hN => ?_)
    have h := h.2 k h1 h2 hN
    refine And.intro (cb_on rfl) ⟨P, n, ⟨hP, hS⟩, fun M1 m hK => And.intro (cb_on rfl) ⟨P, n, k, so, ⟨(wk_K_Q hS hK).1, hN, by omega, (hK.1.1 3 P 3 rfl).trans eso, hso⟩, fun M2 hF2 => And.intro trivial (cb_eqK (h M2 ((hK.1.mono fr_T_Z).trans (hF2.fx fr_q_Z))) ?_)⟩⟩
    unfold vq_hold
    have e1 : (va M P n hh nb).so = nI so := eso
    have e2 : wk_hok M1 P n k (wm_wo (wm_all (nI n)) (nI so)) = vq_hok (va M P n hh nb) k (wm_wo (wm_all (nI n)) (nI so)) := funext fun s => by
      unfold wk_hok vq_hok
      rw [vq_tr_k hI hK, hK.1.fn 9 P (fun _ => rfl)]
      exact wq_all_kd (fun i hi => (wn_tr_lt hi).symm) _ _
    rw [e1, e2, nI_clamp (by omega)]
    rfl
def vq_agp (V : wV) (i k : Nat) (off d : Int32) (j : Nat) : Bool := decide (wm_abs ((vq_rt V i (nI j - 100) k).2.2 i - off) ≤ d)
def sp_X9_own : cb_Sw := fun r M K => match r with
  | [.inl x, .inl off, .inl d, .inl N, .inl what] => ∃ P n h nb, wa_I M P n h nb ∧ wg_c n x (K (.inr 0) M) fun i => wg_i (-99999) 99999 off (K (.inr 1) M) (wg_i 0 999 d (K (.inr 1) M) (wg_r 1 100 N (K (.inr 1) M) fun k => wg_i 0 2 what (K (.inr 1) M) (∀ M', cb_fx fr_Z M M' → K (.inl (some (cb_i (wq_pick3 what (wq_agr (vq_agp (va M P n h nb) i k off d) 201))))) M')))
  | _ => False
def pt_X9_own : cb_PT := cb_wm 5 sp_X9_own
theorem rc_X9_own : cb_rc cb_tb RX9 pt_X9_own := cb_wm_rc
def md_X9_own : cb_D := (RX9, cX9_own, 6, (some .int), (5, 30, 8, 163), [
  (0, .aload_n 0, 1, 0, 0, 0, 0),
  (1, .iload_n 1, 1, 0, 1, 0, 0),
  (2, .invokevirtual 132, 3, 0, 0, 0, 0),
  (5, .iload_n 2, 1, 0, 2, 0, 0),
  (6, .ldc_w 279, 3, (-99999), 0, 0, 1112),
  (9, .ldc_w 280, 3, 99999, 0, 0, 1113),
  (12, .invokestatic 101, 3, 0, 1, 0, 0),
  (15, .iload_n 3, 1, 0, 3, 0, 0),
  (16, .iconst 0, 1, 0, 0, 0, 0),
  (17, .sipush 999, 3, 999, 0, 0, 0),
  (20, .invokestatic 101, 3, 0, 1, 0, 0),
  (23, .iload 4, 2, 0, 4, 0, 0),
  (25, .invokestatic 220, 3, 0, 2, 0, 0),
  (28, .iload 5, 2, 0, 5, 0, 0),
  (30, .iconst 0, 1, 0, 0, 0, 0),
  (31, .iconst 2, 1, 2, 0, 0, 0),
  (32, .invokestatic 101, 3, 0, 1, 0, 0),
  (35, .aload_n 0, 1, 0, 0, 0, 0),
  (36, .invokevirtual 162, 3, 0, 3, 0, 0),
  (39, .pop, 1, 0, 0, 0, 0),
  (40, .aload_n 0, 1, 0, 0, 0, 0),
  (41, .getfield 79, 3, 0, 9, 12, 370),
  (44, .iload_n 1, 1, 0, 1, 0, 0),
  (45, .iload_n 2, 1, 0, 2, 0, 0),
  (46, .iload_n 3, 1, 0, 3, 0, 0),
  (47, .iload 4, 2, 0, 4, 0, 0),
  (49, .iload 5, 2, 0, 5, 0, 0),
  (51, .invokevirtual 281, 3, 0, 4, 0, 0),
  (54, .ireturn, 1, 0, 0, 0, 0)],
  [(0, 132, 2, 1, 6, pt_X9_needClock), (1, 101, 3, 1, 6, pt_X9_needWithin), (1, 220, 1, 1, 6, pt_X9_needDaysOn), (0, 162, 1, 0, 0, pt_X9_asTheyHang), (0, 281, 6, 0, 0, pt_X5_agreeing)], [])
set_option maxRecDepth 100000 in
theorem vd_X9_own : md_X9_own.cd.all (cb_vE md_X9_own) = true := by decide +kernel
theorem wd_X9_own : cb_wd yX9_own md_X9_own := ⟨cb_tw (i := 1111) (by decide +kernel), cb_tw (i := 1) (by decide +kernel), by decide, by decide⟩
theorem cs_X9_own : ∀ X, cb_Bs md_X9_own X → ∀ g ∈ md_X9_own.ga, cb_CS cb_tb md_X9_own X g := fun X B => List.forall_mem_cons.mpr ⟨cb_csV B ok_X9_needClock wd_X9_needClock (cb_tw (i := 785) (by decide +kernel)) (cb_tw (i := 787) (by decide +kernel)) (cb_tp (i := 22) (by decide +kernel)) rc_X9_needClock ⟨by decide, by decide⟩ (by decide +kernel), List.forall_mem_cons.mpr ⟨cb_csS B ok_X9_needWithin wd_X9_needWithin (cb_tw (i := 548) (by decide +kernel)) (cb_tw (i := 549) (by decide +kernel)) ⟨by decide, by decide⟩ (by decide +kernel), List.forall_mem_cons.mpr ⟨cb_csS B ok_X9_needDaysOn wd_X9_needDaysOn (cb_tw (i := 937) (by decide +kernel)) (cb_tw (i := 938) (by decide +kernel)) ⟨by decide, by decide⟩ (by decide +kernel), List.forall_mem_cons.mpr ⟨cb_csV B ok_X9_asTheyHang wd_X9_asTheyHang (cb_tw (i := 420) (by decide +kernel)) (cb_tw (i := 422) (by decide +kernel)) (cb_tp (i := 1) (by decide +kernel)) rc_X9_asTheyHang ⟨by decide, by decide⟩ (by decide +kernel), List.forall_mem_cons.mpr ⟨cb_csV B ok_X5_agreeing wd_X5_agreeing (cb_tw (i := 1114) (by decide +kernel)) (cb_tw (i := 1115) (by decide +kernel)) (cb_tw (i := 1116) (by decide +kernel)) rc_X5_agreeing ⟨by decide, by decide⟩ (by decide +kernel), fun _ h => nomatch h⟩⟩⟩⟩⟩
theorem ok_X9_own : cb_MOK cb_tb yX9_own md_X9_own pt_X9_own := by
  refine cb_okw0 ⟨plainFor_of_name (by decide), rfl⟩ (by decide) cs_X9_own (by decide) (fun X n0 f r M hr h => ?_)
  match r, hr, h with
  | [.inl x, .inl off, .inl d, .inl N, .inl what], hr, h =>
    obtain ⟨P, n, hh, nb, hI, h⟩ := h
    obtain ⟨hP, hS, hH, -⟩ := id hI
    refine cb_run cb_tb_ok vd_X9_own (cuts := []) 90 ?_
    refine And.intro (cb_on rfl) ⟨P, n, wa_B hI, And.intro h.1 (fun i hi hx => And.intro (h.2 i hi hx).1 (fun w1 => And.intro ((h.2 i hi hx).2 w1).1 (fun w2 => And.intro (((h.2 i hi hx).2 w1).2 w2).1 (fun k h1 h2 hN => And.intro ((((h.2 i hi hx).2 w1).2 w2).2 k h1 h2 hN).1 (fun w3 => ?_)))))⟩
    have h := ((((h.2 i hi hx).2 w1).2 w2).2 k h1 h2 hN).2 w3
    refine And.intro (cb_on rfl) ⟨P, n, ⟨hP, hS⟩, fun M1 m hK => And.intro (cb_on rfl) ⟨P, n, i, k, ⟨wk_K_Q hS hK, hN, by omega, hx, hi⟩, fun M2 hF2 => And.intro trivial (cb_eqK (h M2 ((hK.1.mono fr_T_Z).trans (hF2.fx (fr_r_Z i)))) ?_)⟩⟩
    have e : wk_agp M1 P n i k off d = vq_agp (va M P n hh nb) i k off d := funext fun j => by
      unfold wk_agp vq_agp
      rw [vq_rt_k hI hK]
    rw [e]
def vq_tel (V : wV) (i g : Nat) : Bool := wn_go (vc V) (wu_all V.n) (vq_on V g).1 (vq_on V g).2.1 i
def sp_X9_look : cb_Sw := fun r M K => match r with
  | [.inl x, .inl N, .inl what] => ∃ P n h nb, wa_I M P n h nb ∧ wg_c n x (K (.inr 0) M) fun i => wg_r 1 100 N (K (.inr 1) M) fun k => wg_i 0 1 what (K (.inr 1) M) (∀ M', cb_fx fr_Z M M' → K (.inl (some (cb_i (wq_tell what (vq_tel (va M P n h nb) i) k)))) M')
  | _ => False
def pt_X9_look : cb_PT := cb_wm 3 sp_X9_look
theorem rc_X9_look : cb_rc cb_tb RX9 pt_X9_look := cb_wm_rc
def md_X9_look : cb_D := (RX9, cX9_look, 4, (some .int), (3, 18, 8, 142), [
  (0, .aload_n 0, 1, 0, 0, 0, 0),
  (1, .iload_n 1, 1, 0, 1, 0, 0),
  (2, .invokevirtual 132, 3, 0, 0, 0, 0),
  (5, .iload_n 2, 1, 0, 2, 0, 0),
  (6, .invokestatic 220, 3, 0, 1, 0, 0),
  (9, .iload_n 3, 1, 0, 3, 0, 0),
  (10, .iconst 0, 1, 0, 0, 0, 0),
  (11, .iconst 1, 1, 1, 0, 0, 0),
  (12, .invokestatic 101, 3, 0, 2, 0, 0),
  (15, .aload_n 0, 1, 0, 0, 0, 0),
  (16, .invokevirtual 162, 3, 0, 3, 0, 0),
  (19, .pop, 1, 0, 0, 0, 0),
  (20, .aload_n 0, 1, 0, 0, 0, 0),
  (21, .getfield 79, 3, 0, 9, 12, 370),
  (24, .iload_n 1, 1, 0, 1, 0, 0),
  (25, .iload_n 2, 1, 0, 2, 0, 0),
  (26, .iload_n 3, 1, 0, 3, 0, 0),
  (27, .invokevirtual 285, 3, 0, 4, 0, 0),
  (30, .ireturn, 1, 0, 0, 0, 0)],
  [(0, 132, 2, 1, 6, pt_X9_needClock), (1, 220, 1, 1, 6, pt_X9_needDaysOn), (1, 101, 3, 1, 6, pt_X9_needWithin), (0, 162, 1, 0, 0, pt_X9_asTheyHang), (0, 285, 4, 0, 0, pt_X5_tellingDay)], [])
set_option maxRecDepth 100000 in
theorem vd_X9_look : md_X9_look.cd.all (cb_vE md_X9_look) = true := by decide +kernel
theorem wd_X9_look : cb_wd yX9_look md_X9_look := ⟨cb_tw (i := 1132) (by decide +kernel), cb_tw (i := 1) (by decide +kernel), by decide, by decide⟩
theorem cs_X9_look : ∀ X, cb_Bs md_X9_look X → ∀ g ∈ md_X9_look.ga, cb_CS cb_tb md_X9_look X g := fun X B => List.forall_mem_cons.mpr ⟨cb_csV B ok_X9_needClock wd_X9_needClock (cb_tw (i := 785) (by decide +kernel)) (cb_tw (i := 787) (by decide +kernel)) (cb_tp (i := 22) (by decide +kernel)) rc_X9_needClock ⟨by decide, by decide⟩ (by decide +kernel), List.forall_mem_cons.mpr ⟨cb_csS B ok_X9_needDaysOn wd_X9_needDaysOn (cb_tw (i := 937) (by decide +kernel)) (cb_tw (i := 938) (by decide +kernel)) ⟨by decide, by decide⟩ (by decide +kernel), List.forall_mem_cons.mpr ⟨cb_csS B ok_X9_needWithin wd_X9_needWithin (cb_tw (i := 548) (by decide +kernel)) (cb_tw (i := 549) (by decide +kernel)) ⟨by decide, by decide⟩ (by decide +kernel), List.forall_mem_cons.mpr ⟨cb_csV B ok_X9_asTheyHang wd_X9_asTheyHang (cb_tw (i := 420) (by decide +kernel)) (cb_tw (i := 422) (by decide +kernel)) (cb_tp (i := 1) (by decide +kernel)) rc_X9_asTheyHang ⟨by decide, by decide⟩ (by decide +kernel), List.forall_mem_cons.mpr ⟨cb_csV B ok_X5_tellingDay wd_X5_tellingDay (cb_tw (i := 1133) (by decide +kernel)) (cb_tw (i := 1134) (by decide +kernel)) (cb_tw (i := 1135) (by decide +kernel)) rc_X5_tellingDay ⟨by decide, by decide⟩ (by decide +kernel), fun _ h => nomatch h⟩⟩⟩⟩⟩
theorem ok_X9_look : cb_MOK cb_tb yX9_look md_X9_look pt_X9_look := by
  refine cb_okw0 ⟨plainFor_of_name (by decide), rfl⟩ (by decide) cs_X9_look (by decide) (fun X n0 f r M hr h => ?_)
  match r, hr, h with
  | [.inl x, .inl N, .inl what], hr, h =>
    obtain ⟨P, n, hh, nb, hI, h⟩ := h
    obtain ⟨hP, hS, hH, -⟩ := id hI
    refine cb_run cb_tb_ok vd_X9_look (cuts := []) 90 ?_
    refine And.intro (cb_on rfl) ⟨P, n, wa_B hI, And.intro h.1 (fun i hi hx => And.intro (h.2 i hi hx).1 (fun k h1 h2 hN => And.intro ((h.2 i hi hx).2 k h1 h2 hN).1 (fun w3 => ?_)))⟩
    have h := ((h.2 i hi hx).2 k h1 h2 hN).2 w3
    refine And.intro (cb_on rfl) ⟨P, n, ⟨hP, hS⟩, fun M1 m hK => And.intro (cb_on rfl) ⟨P, n, i, k, ⟨wk_K_Q hS hK, hN, by omega, hx, hi⟩, fun M2 hF2 => And.intro trivial (cb_eqK (h M2 ((hK.1.mono fr_T_Z).trans (hF2.fx fr_t_Z))) ?_)⟩⟩
    obtain ⟨ec, eu⟩ := wk_K_c hK
    have e : wk_tel M1 P n i = vq_tel (va M P n hh nb) i := funext fun j => by
      unfold wk_tel vq_tel
      rw [vq_on_k hI hK, ec, eu, va_c hI]
      rfl
    rw [e]
def sp_X9_book : cb_Sw := fun r M K => match r with
  | [.inl x, .inl off] => ∃ P n h nb, wa_I M P n h nb ∧ wg_c n x (K (.inr 0) M) fun i => (¬ off = -2147483648 → off < -99999 ∨ 99999 < off → K (.inr 1) M) ∧ (off = -2147483648 ∨ ¬ (off < -99999 ∨ 99999 < off) → K (.inl (some (cb_i ((va M P n h nb).bk i)))) (cb_sI M 22 0 i off))
  | _ => False
def pt_X9_book : cb_PT := cb_wm 2 sp_X9_book
theorem rc_X9_book : cb_rc cb_tb RX9 pt_X9_book := cb_wm_rc
def md_X9_book : cb_D := (RX9, cX9_book, 4, (some .int), (2, 12, 7, 122), [
  (0, .aload_n 0, 1, 0, 0, 0, 0),
  (1, .iload_n 1, 1, 0, 1, 0, 0),
  (2, .invokevirtual 132, 3, 0, 0, 0, 0),
  (5, .iload_n 2, 1, 0, 2, 0, 0),
  (6, .ldc_w 288, 3, (-2147483648), 0, 0, 1145),
  (9, .if_icmp .eq 13, 3, 0, 22, 0, 0),
  (12, .iload_n 2, 1, 0, 2, 0, 0),
  (13, .ldc_w 279, 3, (-99999), 0, 0, 1112),
  (16, .ldc_w 280, 3, 99999, 0, 0, 1113),
  (19, .invokestatic 101, 3, 0, 1, 0, 0),
  (22, .aload_n 0, 1, 0, 0, 0, 0),
  (23, .getfield 40, 3, 0, 9, 6, 364),
  (26, .getfield 289, 3, 0, 3, 6, 192),
  (29, .iload_n 1, 1, 0, 1, 0, 0),
  (30, .iaload, 1, 0, 0, 0, 0),
  (31, .istore_n 3, 1, 0, 3, 0, 0),
  (32, .aload_n 0, 1, 0, 0, 0, 0),
  (33, .getfield 40, 3, 0, 9, 6, 364),
  (36, .getfield 289, 3, 0, 3, 6, 192),
  (39, .iload_n 1, 1, 0, 1, 0, 0),
  (40, .iload_n 2, 1, 0, 2, 0, 0),
  (41, .iastore, 1, 0, 0, 0, 0),
  (42, .iload_n 3, 1, 0, 3, 0, 0),
  (43, .ireturn, 1, 0, 0, 0, 0)],
  [(0, 132, 2, 1, 6, pt_X9_needClock), (1, 101, 3, 1, 6, pt_X9_needWithin)], [])
set_option maxRecDepth 100000 in
theorem vd_X9_book : md_X9_book.cd.all (cb_vE md_X9_book) = true := by decide +kernel
theorem wd_X9_book : cb_wd yX9_book md_X9_book := ⟨cb_tw (i := 1144) (by decide +kernel), cb_tw (i := 1) (by decide +kernel), by decide, by decide⟩
theorem cs_X9_book : ∀ X, cb_Bs md_X9_book X → ∀ g ∈ md_X9_book.ga, cb_CS cb_tb md_X9_book X g := fun X B => List.forall_mem_cons.mpr ⟨cb_csV B ok_X9_needClock wd_X9_needClock (cb_tw (i := 785) (by decide +kernel)) (cb_tw (i := 787) (by decide +kernel)) (cb_tp (i := 22) (by decide +kernel)) rc_X9_needClock ⟨by decide, by decide⟩ (by decide +kernel), List.forall_mem_cons.mpr ⟨cb_csS B ok_X9_needWithin wd_X9_needWithin (cb_tw (i := 548) (by decide +kernel)) (cb_tw (i := 549) (by decide +kernel)) ⟨by decide, by decide⟩ (by decide +kernel), fun _ h => nomatch h⟩⟩
theorem ok_X9_book : cb_MOK cb_tb yX9_book md_X9_book pt_X9_book := by
  refine cb_okw0 ⟨plainFor_of_name (by decide), rfl⟩ (by decide) cs_X9_book (by decide) (fun X n0 f r M hr h => ?_)
  match r, hr, h with
  | [.inl x, .inl off], hr, h =>
    obtain ⟨P, n, hh, nb, hI, h⟩ := h
    obtain ⟨hP, hS, hH, -⟩ := id hI
    have hn8 := hS.2.2.1
    refine cb_run cb_tb_ok vd_X9_book (cuts := []) 90 ?_
    refine And.intro (cb_on rfl) ⟨P, n, wa_B hI, And.intro h.1 (fun i hi hx => ?_)⟩
    have h := h.2 i hi hx
    have hx8 : vp_in x 8 := by rw [hx]; exact cb_in8 hi hn8 (by decide)
    have hxc : x.toNatClampNeg = i := by rw [hx]; exact nI_clamp (by omega)
    have fin : (off = -2147483648 ∨ ¬ (off < -99999 ∨ 99999 < off)) → X.K (.inl (some (cb_i (cb_gI M 22 0 x.toNatClampNeg)))) (cb_aS n0, f) (cb_sI M 22 0 x.toNatClampNeg off) := by
      intro w
      have := h.2 w
      rw [show (va M P n hh nb).bk i = cb_gI M 22 0 i from wn_tr_lt hi] at this
      rw [hxc]
      exact this
    refine And.intro (fun q => ?_) (fun q => And.intro (fun w => h.1 q w) (fun w => ?_))
    · exact And.intro hx8 (And.intro hx8 (And.intro trivial (fin (Or.inl q))))
    · exact And.intro hx8 (And.intro hx8 (And.intro trivial (fin (Or.inr w))))
def vq_fraud (V : wV) (i k : Nat) : Bool := wm_rgt V.w ((vq_on V k).2.2 i) && !wm_rgt V.w (vq_al V i k)
def sp_X9_fraud : cb_Sw := fun r M K => match r with
  | [.inl x, .inl N] => ∃ P n h nb, wa_I M P n h nb ∧ wg_c n x (K (.inr 0) M) fun i => wg_r 1 100 N (K (.inr 1) M) fun k => ∀ M', cb_fx fr_Z M M' → K (.inl (some (cb_i (cb_z (vq_fraud (va M P n h nb) i k))))) M'
  | _ => False
def pt_X9_fraud : cb_PT := cb_wm 2 sp_X9_fraud
theorem rc_X9_fraud : cb_rc cb_tb RX9 pt_X9_fraud := cb_wm_rc
def md_X9_fraud : cb_D := (RX9, cX9_fraud, 3, (some .boolean), (2, 12, 8, 142), [
  (0, .aload_n 0, 1, 0, 0, 0, 0),
  (1, .iload_n 1, 1, 0, 1, 0, 0),
  (2, .invokevirtual 132, 3, 0, 0, 0, 0),
  (5, .iload_n 2, 1, 0, 2, 0, 0),
  (6, .invokestatic 220, 3, 0, 1, 0, 0),
  (9, .aload_n 0, 1, 0, 0, 0, 0),
  (10, .invokevirtual 162, 3, 0, 2, 0, 0),
  (13, .iload_n 2, 1, 0, 2, 0, 0),
  (14, .invokevirtual 196, 3, 0, 3, 0, 0),
  (17, .aload_n 0, 1, 0, 0, 0, 0),
  (18, .getfield 56, 3, 0, 9, 9, 367),
  (21, .iload_n 1, 1, 0, 1, 0, 0),
  (22, .invokevirtual 295, 3, 0, 4, 0, 0),
  (25, .ifCond .eq 19, 3, 0, 44, 0, 0),
  (28, .aload_n 0, 1, 0, 0, 0, 0),
  (29, .getfield 72, 3, 0, 9, 11, 369),
  (32, .iload_n 1, 1, 0, 1, 0, 0),
  (33, .iload_n 2, 1, 0, 2, 0, 0),
  (34, .invokevirtual 299, 3, 0, 5, 0, 0),
  (37, .ifCond .ne 7, 3, 0, 44, 0, 0),
  (40, .iconst 1, 1, 1, 0, 0, 0),
  (41, .goto 4, 3, 0, 45, 0, 0),
  (44, .iconst 0, 1, 0, 0, 0, 0),
  (45, .ireturn, 1, 0, 0, 0, 0)],
  [(0, 132, 2, 1, 6, pt_X9_needClock), (1, 220, 1, 1, 6, pt_X9_needDaysOn), (0, 162, 1, 0, 0, pt_X9_asTheyHang), (0, 196, 2, 0, 0, pt_X7_goDays), (0, 295, 2, 0, 0, pt_X7_isRight), (0, 299, 3, 0, 0, pt_X0_isRightAlone)], [])
set_option maxRecDepth 100000 in
theorem vd_X9_fraud : md_X9_fraud.cd.all (cb_vE md_X9_fraud) = true := by decide +kernel
theorem wd_X9_fraud : cb_wd yX9_fraud md_X9_fraud := ⟨cb_tw (i := 1167) (by decide +kernel), cb_tw (i := 1) (by decide +kernel), by decide, by decide⟩
theorem cs_X9_fraud : ∀ X, cb_Bs md_X9_fraud X → ∀ g ∈ md_X9_fraud.ga, cb_CS cb_tb md_X9_fraud X g := fun X B => List.forall_mem_cons.mpr ⟨cb_csV B ok_X9_needClock wd_X9_needClock (cb_tw (i := 785) (by decide +kernel)) (cb_tw (i := 787) (by decide +kernel)) (cb_tp (i := 22) (by decide +kernel)) rc_X9_needClock ⟨by decide, by decide⟩ (by decide +kernel), List.forall_mem_cons.mpr ⟨cb_csS B ok_X9_needDaysOn wd_X9_needDaysOn (cb_tw (i := 937) (by decide +kernel)) (cb_tw (i := 938) (by decide +kernel)) ⟨by decide, by decide⟩ (by decide +kernel), List.forall_mem_cons.mpr ⟨cb_csV B ok_X9_asTheyHang wd_X9_asTheyHang (cb_tw (i := 420) (by decide +kernel)) (cb_tw (i := 422) (by decide +kernel)) (cb_tp (i := 1) (by decide +kernel)) rc_X9_asTheyHang ⟨by decide, by decide⟩ (by decide +kernel), List.forall_mem_cons.mpr ⟨cb_csV B ok_X7_goDays wd_X7_goDays (cb_tw (i := 891) (by decide +kernel)) (cb_tw (i := 892) (by decide +kernel)) (cb_tw (i := 893) (by decide +kernel)) rc_X7_goDays ⟨by decide, by decide⟩ (by decide +kernel), List.forall_mem_cons.mpr ⟨cb_csV B ok_X7_isRight wd_X7_isRight (cb_tw (i := 1168) (by decide +kernel)) (cb_tw (i := 469) (by decide +kernel)) (cb_tw (i := 470) (by decide +kernel)) rc_X7_isRight ⟨by decide, by decide⟩ (by decide +kernel), List.forall_mem_cons.mpr ⟨cb_csV B ok_X0_isRightAlone wd_X0_isRightAlone (cb_tw (i := 1169) (by decide +kernel)) (cb_tw (i := 1170) (by decide +kernel)) (cb_tw (i := 1171) (by decide +kernel)) rc_X0_isRightAlone ⟨by decide, by decide⟩ (by decide +kernel), fun _ h => nomatch h⟩⟩⟩⟩⟩⟩
theorem ok_X9_fraud : cb_MOK cb_tb yX9_fraud md_X9_fraud pt_X9_fraud := by
  refine cb_okw0 ⟨plainFor_of_name (by decide), rfl⟩ (by decide) cs_X9_fraud (by decide) (fun X n0 f r M hr h => ?_)
  match r, hr, h with
  | [.inl x, .inl N], hr, h =>
    obtain ⟨P, n, hh, nb, hI, h⟩ := h
    obtain ⟨hP, hS, hH, -⟩ := id hI
    have hn8 := hS.2.2.1
    refine cb_run cb_tb_ok vd_X9_fraud (cuts := []) 90 ?_
    refine And.intro (cb_on rfl) ⟨P, n, wa_B hI, And.intro h.1 (fun i hi hx => And.intro (h.2 i hi hx).1 (fun k h1 h2 hN => ?_))⟩
    have h := (h.2 i hi hx).2 k h1 h2 hN
    have hx8 : vp_in x 8 := by rw [hx]; exact cb_in8 hi hn8 (by decide)
    have hxc : x.toNatClampNeg = i := by rw [hx]; exact nI_clamp (by omega)
    refine And.intro (cb_on rfl) ⟨P, n, ⟨hP, hS⟩, fun M1 m hK => And.intro (cb_on rfl) ⟨P, n, m, k, ⟨hK.2.1, hK.2.2.1, hN, by omega⟩, fun M2 hF2 hs2 hp2 => ?_⟩⟩
    have hT2 := wk_T_fr hF2 hK.2.1.1
    have h := h M2 ((hK.1.mono fr_T_Z).trans (hF2.fx fr_t_Z))
    have e3 : cb_gI M2 3 P 4 = cb_gI M 3 P 4 := (hF2.1 3 P 4 rfl).trans (hK.1.1 3 P 4 rfl)
    have eo : cb_gI M2 28 0 x.toNatClampNeg = (vq_on (va M P n hh nb) k).2.2 i := by
      rw [hxc, ← show (wt_s M2 n).2.2 i = cb_gI M2 28 0 i from wn_tr_lt hi, hs2, ← vq_on_k hI hK]
      rfl
    have ea : wk_al M2 P i k = vq_al (va M P n hh nb) i k := by
      rw [← vq_al_k hK hi]
      unfold wk_al
      rw [hF2.fn 11 P (fun _ => rfl), hF2.fn 7 P (fun _ => rfl), hF2.fn 15 P (fun _ => rfl), hF2.1 16 0 0 rfl, hF2.fn 17 0 (fun _ => rfl)]
    refine And.intro (cb_on rfl) ⟨P, ⟨hT2.1, hS.1, hx8⟩, cb_ifz (fun q => ?_) (fun q => And.intro (cb_on rfl) ⟨P, i, k, ⟨hT2.1, (hF2.ref 25 0 1).trans hK.2.2.2.1, hS.1, hx, by omega, hN, by omega⟩, And.intro (fun q2 => ?_) (fun q2 => ?_)⟩)⟩
    · rw [e3, eo] at q
      refine And.intro cb_rt0 (cb_eqK h ?_)
      unfold vq_fraud
      rw [show (va M P n hh nb).w = cb_gI M 3 P 4 from rfl, q]
      rfl
    · have q2 : ¬ cb_z (wm_rgt (cb_gI M2 3 P 4) (wk_al M2 P i k)) = 0 := q2
      rw [e3, ea] at q2
      refine And.intro cb_rt0 (cb_eqK h ?_)
      unfold vq_fraud
      rw [show (va M P n hh nb).w = cb_gI M 3 P 4 from rfl]
      cases hb : wm_rgt (cb_gI M 3 P 4) (vq_al (va M P n hh nb) i k) with
      | true => rw [Bool.not_true, Bool.and_false]; rfl
      | false => rw [hb] at q2; exact absurd rfl q2
    · have q2 : cb_z (wm_rgt (cb_gI M2 3 P 4) (wk_al M2 P i k)) = 0 := Classical.not_not.mp q2
      rw [e3, ea] at q2
      rw [e3, eo] at q
      refine And.intro cb_rt1 (cb_eqK h ?_)
      unfold vq_fraud
      rw [show (va M P n hh nb).w = cb_gI M 3 P 4 from rfl, q, cb_z_eq0.mp q2]
      rfl
def sp_X9_stays : cb_Sw := fun r M K => match r with
  | [.inl x, .inl y, .inl what] => ∃ P n h nb, wa_I M P n h nb ∧ wg_p n x y (K (.inr 0) M) (K (.inr 1) M) fun i j => wg_i 0 1 what (K (.inr 1) M) (∀ M', cb_fx fr_Z M M' → K (.inl (some (cb_i (if what = 0 then (wq_stay (wp_st (vc (va M P n h nb)) i j) 1000).1 else (wq_stay (wp_st (vc (va M P n h nb)) i j) 1000).2)))) M')
  | _ => False
def pt_X9_stays : cb_PT := cb_wm 3 sp_X9_stays
theorem rc_X9_stays : cb_rc cb_tb RX9 pt_X9_stays := cb_wm_rc
def md_X9_stays : cb_D := (RX9, cX9_stays, 4, (some .int), (4, 24, 8, 143), [
  (0, .aload_n 0, 1, 0, 0, 0, 0),
  (1, .iload_n 1, 1, 0, 1, 0, 0),
  (2, .iload_n 2, 1, 0, 2, 0, 0),
  (3, .invokevirtual 174, 3, 0, 0, 0, 0),
  (6, .iload_n 3, 1, 0, 3, 0, 0),
  (7, .iconst 0, 1, 0, 0, 0, 0),
  (8, .iconst 1, 1, 1, 0, 0, 0),
  (9, .invokestatic 101, 3, 0, 1, 0, 0),
  (12, .aload_n 0, 1, 0, 0, 0, 0),
  (13, .invokevirtual 162, 3, 0, 2, 0, 0),
  (16, .pop, 1, 0, 0, 0, 0),
  (17, .aload_n 0, 1, 0, 0, 0, 0),
  (18, .getfield 93, 3, 0, 9, 14, 372),
  (21, .iload_n 1, 1, 0, 1, 0, 0),
  (22, .iload_n 2, 1, 0, 2, 0, 0),
  (23, .iload_n 3, 1, 0, 3, 0, 0),
  (24, .invokevirtual 302, 3, 0, 3, 0, 0),
  (27, .ireturn, 1, 0, 0, 0, 0)],
  [(0, 174, 3, 3, 18, pt_X9_needPair), (1, 101, 3, 1, 6, pt_X9_needWithin), (0, 162, 1, 0, 0, pt_X9_asTheyHang), (0, 302, 4, 0, 0, pt_X8_deltasThatStay)], [])
set_option maxRecDepth 100000 in
theorem vd_X9_stays : md_X9_stays.cd.all (cb_vE md_X9_stays) = true := by decide +kernel
theorem wd_X9_stays : cb_wd yX9_stays md_X9_stays := ⟨cb_tw (i := 1190) (by decide +kernel), cb_tw (i := 1) (by decide +kernel), by decide, by decide⟩
theorem cs_X9_stays : ∀ X, cb_Bs md_X9_stays X → ∀ g ∈ md_X9_stays.ga, cb_CS cb_tb md_X9_stays X g := fun X B => List.forall_mem_cons.mpr ⟨cb_csV B ok_X9_needPair wd_X9_needPair (cb_tw (i := 831) (by decide +kernel)) (cb_tw (i := 833) (by decide +kernel)) (cb_tp (i := 24) (by decide +kernel)) rc_X9_needPair ⟨by decide, by decide⟩ (by decide +kernel), List.forall_mem_cons.mpr ⟨cb_csS B ok_X9_needWithin wd_X9_needWithin (cb_tw (i := 548) (by decide +kernel)) (cb_tw (i := 549) (by decide +kernel)) ⟨by decide, by decide⟩ (by decide +kernel), List.forall_mem_cons.mpr ⟨cb_csV B ok_X9_asTheyHang wd_X9_asTheyHang (cb_tw (i := 420) (by decide +kernel)) (cb_tw (i := 422) (by decide +kernel)) (cb_tp (i := 1) (by decide +kernel)) rc_X9_asTheyHang ⟨by decide, by decide⟩ (by decide +kernel), List.forall_mem_cons.mpr ⟨cb_csV B ok_X8_deltasThatStay wd_X8_deltasThatStay (cb_tw (i := 1191) (by decide +kernel)) (cb_tw (i := 1192) (by decide +kernel)) (cb_tw (i := 1193) (by decide +kernel)) rc_X8_deltasThatStay ⟨by decide, by decide⟩ (by decide +kernel), fun _ h => nomatch h⟩⟩⟩⟩
theorem ok_X9_stays : cb_MOK cb_tb yX9_stays md_X9_stays pt_X9_stays := by
  refine cb_okw0 ⟨plainFor_of_name (by decide), rfl⟩ (by decide) cs_X9_stays (by decide) (fun X n0 f r M hr h => ?_)
  match r, hr, h with
  | [.inl x, .inl y, .inl what], hr, h =>
    obtain ⟨P, n, hh, nb, hI, h⟩ := h
    obtain ⟨hP, hS, hH, -⟩ := id hI
    refine cb_run cb_tb_ok vd_X9_stays (cuts := []) 90 ?_
    refine And.intro (cb_on rfl) ⟨P, n, wa_B hI, And.intro h.1 (fun i hi hx => And.intro (h.2 i hi hx).1 (fun j hj hy => And.intro ((h.2 i hi hx).2 j hj hy).1 (fun hij => And.intro (((h.2 i hi hx).2 j hj hy).2 hij).1 (fun w => ?_))))⟩
    have h := (((h.2 i hi hx).2 j hj hy).2 hij).2 w
    refine And.intro (cb_on rfl) ⟨P, n, ⟨hP, hS⟩, fun M1 m hK => And.intro (cb_on rfl) ⟨P, n, i, j, ⟨(wk_K_Q hS hK).1, hK.2.2.1, hx, hi, hy, hj, hij⟩, fun M2 hF2 => And.intro trivial (cb_eqK (h M2 ((hK.1.mono fr_T_Z).trans (hF2.fx fr_y_Z))) ?_)⟩⟩
    rw [(wk_K_c hK).1, va_c hI]
def sp_X9_drawn : cb_Sw := fun r M K => match r with
  | [.inl x, .inl y, .inl delta, .inl N] => ∃ P n h nb, wa_I M P n h nb ∧ wg_p n x y (K (.inr 0) M) (K (.inr 1) M) fun i j => wg_i 0 999 delta (K (.inr 1) M) (wg_r 1 100 N (K (.inr 1) M) fun k => ∀ M', cb_fx fr_Z M M' → K (.inl (some (cb_i (wp_on (vc (va M P n h nb)) i j delta k)))) M')
  | _ => False
def pt_X9_drawn : cb_PT := cb_wm 4 sp_X9_drawn
theorem rc_X9_drawn : cb_rc cb_tb RX9 pt_X9_drawn := cb_wm_rc
def md_X9_drawn : cb_D := (RX9, cX9_drawn, 5, (some .int), (5, 30, 8, 143), [
  (0, .aload_n 0, 1, 0, 0, 0, 0),
  (1, .iload_n 1, 1, 0, 1, 0, 0),
  (2, .iload_n 2, 1, 0, 2, 0, 0),
  (3, .invokevirtual 174, 3, 0, 0, 0, 0),
  (6, .iload_n 3, 1, 0, 3, 0, 0),
  (7, .iconst 0, 1, 0, 0, 0, 0),
  (8, .sipush 999, 3, 999, 0, 0, 0),
  (11, .invokestatic 101, 3, 0, 1, 0, 0),
  (14, .iload 4, 2, 0, 4, 0, 0),
  (16, .invokestatic 220, 3, 0, 2, 0, 0),
  (19, .aload_n 0, 1, 0, 0, 0, 0),
  (20, .invokevirtual 162, 3, 0, 3, 0, 0),
  (23, .pop, 1, 0, 0, 0, 0),
  (24, .aload_n 0, 1, 0, 0, 0, 0),
  (25, .getfield 93, 3, 0, 9, 14, 372),
  (28, .iload_n 1, 1, 0, 1, 0, 0),
  (29, .iload_n 2, 1, 0, 2, 0, 0),
  (30, .invokevirtual 305, 3, 0, 4, 0, 0),
  (33, .aload_n 0, 1, 0, 0, 0, 0),
  (34, .getfield 93, 3, 0, 9, 14, 372),
  (37, .iload_n 1, 1, 0, 1, 0, 0),
  (38, .iload_n 2, 1, 0, 2, 0, 0),
  (39, .iload_n 3, 1, 0, 3, 0, 0),
  (40, .iload 4, 2, 0, 4, 0, 0),
  (42, .invokevirtual 308, 3, 0, 5, 0, 0),
  (45, .ireturn, 1, 0, 0, 0, 0)],
  [(0, 174, 3, 3, 18, pt_X9_needPair), (1, 101, 3, 1, 6, pt_X9_needWithin), (1, 220, 1, 1, 6, pt_X9_needDaysOn), (0, 162, 1, 0, 0, pt_X9_asTheyHang), (0, 305, 3, 0, 0, pt_X8_takeDownOthers), (0, 308, 5, 0, 0, pt_X8_deltaOn)], [])
set_option maxRecDepth 100000 in
theorem vd_X9_drawn : md_X9_drawn.cd.all (cb_vE md_X9_drawn) = true := by decide +kernel
theorem wd_X9_drawn : cb_wd yX9_drawn md_X9_drawn := ⟨cb_tw (i := 1217) (by decide +kernel), cb_tw (i := 1) (by decide +kernel), by decide, by decide⟩
theorem cs_X9_drawn : ∀ X, cb_Bs md_X9_drawn X → ∀ g ∈ md_X9_drawn.ga, cb_CS cb_tb md_X9_drawn X g := fun X B => List.forall_mem_cons.mpr ⟨cb_csV B ok_X9_needPair wd_X9_needPair (cb_tw (i := 831) (by decide +kernel)) (cb_tw (i := 833) (by decide +kernel)) (cb_tp (i := 24) (by decide +kernel)) rc_X9_needPair ⟨by decide, by decide⟩ (by decide +kernel), List.forall_mem_cons.mpr ⟨cb_csS B ok_X9_needWithin wd_X9_needWithin (cb_tw (i := 548) (by decide +kernel)) (cb_tw (i := 549) (by decide +kernel)) ⟨by decide, by decide⟩ (by decide +kernel), List.forall_mem_cons.mpr ⟨cb_csS B ok_X9_needDaysOn wd_X9_needDaysOn (cb_tw (i := 937) (by decide +kernel)) (cb_tw (i := 938) (by decide +kernel)) ⟨by decide, by decide⟩ (by decide +kernel), List.forall_mem_cons.mpr ⟨cb_csV B ok_X9_asTheyHang wd_X9_asTheyHang (cb_tw (i := 420) (by decide +kernel)) (cb_tw (i := 422) (by decide +kernel)) (cb_tp (i := 1) (by decide +kernel)) rc_X9_asTheyHang ⟨by decide, by decide⟩ (by decide +kernel), List.forall_mem_cons.mpr ⟨cb_csV B ok_X8_takeDownOthers wd_X8_takeDownOthers (cb_tw (i := 1218) (by decide +kernel)) (cb_tw (i := 1196) (by decide +kernel)) (cb_tw (i := 1197) (by decide +kernel)) rc_X8_takeDownOthers ⟨by decide, by decide⟩ (by decide +kernel), List.forall_mem_cons.mpr ⟨cb_csV B ok_X8_deltaOn wd_X8_deltaOn (cb_tw (i := 1219) (by decide +kernel)) (cb_tw (i := 1205) (by decide +kernel)) (cb_tw (i := 1206) (by decide +kernel)) rc_X8_deltaOn ⟨by decide, by decide⟩ (by decide +kernel), fun _ h => nomatch h⟩⟩⟩⟩⟩⟩
theorem ok_X9_drawn : cb_MOK cb_tb yX9_drawn md_X9_drawn pt_X9_drawn := by
  refine cb_okw0 ⟨plainFor_of_name (by decide), rfl⟩ (by decide) cs_X9_drawn (by decide) (fun X n0 f r M hr h => ?_)
  match r, hr, h with
  | [.inl x, .inl y, .inl delta, .inl N], hr, h =>
    obtain ⟨P, n, hh, nb, hI, h⟩ := h
    obtain ⟨hP, hS, hH, -⟩ := id hI
    refine cb_run cb_tb_ok vd_X9_drawn (cuts := []) 90 ?_
    refine And.intro (cb_on rfl) ⟨P, n, wa_B hI, And.intro h.1 (fun i hi hx => And.intro (h.2 i hi hx).1 (fun j hj hy => And.intro ((h.2 i hi hx).2 j hj hy).1 (fun hij => And.intro (((h.2 i hi hx).2 j hj hy).2 hij).1 (fun w => And.intro ((((h.2 i hi hx).2 j hj hy).2 hij).2 w).1 (fun k h1 h2 hN => ?_)))))⟩
    have h := ((((h.2 i hi hx).2 j hj hy).2 hij).2 w).2 k h1 h2 hN
    refine And.intro (cb_on rfl) ⟨P, n, ⟨hP, hS⟩, fun M1 m hK => And.intro (cb_on rfl) ⟨P, n, i, j, ⟨(wk_K_Q hS hK).1, hK.2.2.1, hx, hi, hy, hj⟩, fun M2 hF2 hQ2 hu2 => And.intro (cb_on rfl) ⟨P, n, i, j, k, ⟨hQ2, hu2, hx, hi, hy, hj, hij, hN, by omega⟩, fun M3 hF3 _ _ => And.intro trivial (cb_eqK (h M3 ((hK.1.mono fr_T_Z).trans ((hF2.fx fr_y_Z).trans (hF3.fx fr_t_Z)))) ?_)⟩⟩⟩
    rw [wt_c_y hF2, (wk_K_c hK).1, va_c hI]
    rfl
def wm_ask (what : Int32) : Int32 := if what = 0 then 2 else if what = 1 then 1 else 0
def vq_comes (V : wV) (i j k : Nat) (beat : Int32) : Int32 := wm_sum (fun d => if wp_be (vc V) i j (nI (10 * d)) k = beat then 1 else 0) 100
def sp_X9_comes : cb_Sw := fun r M K => match r with
  | [.inl x, .inl y, .inl N, .inl what] => ∃ P n h nb, wa_I M P n h nb ∧ wg_p n x y (K (.inr 0) M) (K (.inr 1) M) fun i j => wg_r 1 100 N (K (.inr 1) M) fun k => wg_i 0 2 what (K (.inr 1) M) (∀ M', cb_fx fr_Z M M' → K (.inl (some (cb_i (vq_comes (va M P n h nb) i j k (wm_ask what))))) M')
  | _ => False
def pt_X9_comes : cb_PT := cb_wm 4 sp_X9_comes
theorem rc_X9_comes : cb_rc cb_tb RX9 pt_X9_comes := cb_wm_rc
def md_X9_comes : cb_D := (RX9, cX9_comes, 5, (some .int), (5, 30, 8, 143), [
  (0, .aload_n 0, 1, 0, 0, 0, 0),
  (1, .iload_n 1, 1, 0, 1, 0, 0),
  (2, .iload_n 2, 1, 0, 2, 0, 0),
  (3, .invokevirtual 174, 3, 0, 0, 0, 0),
  (6, .iload_n 3, 1, 0, 3, 0, 0),
  (7, .invokestatic 220, 3, 0, 1, 0, 0),
  (10, .iload 4, 2, 0, 4, 0, 0),
  (12, .iconst 0, 1, 0, 0, 0, 0),
  (13, .iconst 2, 1, 2, 0, 0, 0),
  (14, .invokestatic 101, 3, 0, 2, 0, 0),
  (17, .aload_n 0, 1, 0, 0, 0, 0),
  (18, .invokevirtual 162, 3, 0, 3, 0, 0),
  (21, .pop, 1, 0, 0, 0, 0),
  (22, .aload_n 0, 1, 0, 0, 0, 0),
  (23, .getfield 93, 3, 0, 9, 14, 372),
  (26, .iload_n 1, 1, 0, 1, 0, 0),
  (27, .iload_n 2, 1, 0, 2, 0, 0),
  (28, .iload_n 3, 1, 0, 3, 0, 0),
  (29, .iload 4, 2, 0, 4, 0, 0),
  (31, .invokestatic 260, 3, 0, 4, 0, 0),
  (34, .invokevirtual 312, 3, 0, 5, 0, 0),
  (37, .ireturn, 1, 0, 0, 0, 0)],
  [(0, 174, 3, 3, 18, pt_X9_needPair), (1, 220, 1, 1, 6, pt_X9_needDaysOn), (1, 101, 3, 1, 6, pt_X9_needWithin), (0, 162, 1, 0, 0, pt_X9_asTheyHang), (1, 260, 1, 0, 0, pt_X9_beatAsked), (0, 312, 5, 0, 0, pt_X8_deltasThatCome)], [])
set_option maxRecDepth 100000 in
theorem vd_X9_comes : md_X9_comes.cd.all (cb_vE md_X9_comes) = true := by decide +kernel
theorem wd_X9_comes : cb_wd yX9_comes md_X9_comes := ⟨cb_tw (i := 1226) (by decide +kernel), cb_tw (i := 1) (by decide +kernel), by decide, by decide⟩
theorem cs_X9_comes : ∀ X, cb_Bs md_X9_comes X → ∀ g ∈ md_X9_comes.ga, cb_CS cb_tb md_X9_comes X g := fun X B => List.forall_mem_cons.mpr ⟨cb_csV B ok_X9_needPair wd_X9_needPair (cb_tw (i := 831) (by decide +kernel)) (cb_tw (i := 833) (by decide +kernel)) (cb_tp (i := 24) (by decide +kernel)) rc_X9_needPair ⟨by decide, by decide⟩ (by decide +kernel), List.forall_mem_cons.mpr ⟨cb_csS B ok_X9_needDaysOn wd_X9_needDaysOn (cb_tw (i := 937) (by decide +kernel)) (cb_tw (i := 938) (by decide +kernel)) ⟨by decide, by decide⟩ (by decide +kernel), List.forall_mem_cons.mpr ⟨cb_csS B ok_X9_needWithin wd_X9_needWithin (cb_tw (i := 548) (by decide +kernel)) (cb_tw (i := 549) (by decide +kernel)) ⟨by decide, by decide⟩ (by decide +kernel), List.forall_mem_cons.mpr ⟨cb_csV B ok_X9_asTheyHang wd_X9_asTheyHang (cb_tw (i := 420) (by decide +kernel)) (cb_tw (i := 422) (by decide +kernel)) (cb_tp (i := 1) (by decide +kernel)) rc_X9_asTheyHang ⟨by decide, by decide⟩ (by decide +kernel), List.forall_mem_cons.mpr ⟨cb_csS B ok_X9_beatAsked wd_X9_beatAsked (cb_tw (i := 1002) (by decide +kernel)) (cb_tw (i := 1003) (by decide +kernel)) ⟨by decide, by decide⟩ (by decide +kernel), List.forall_mem_cons.mpr ⟨cb_csV B ok_X8_deltasThatCome wd_X8_deltasThatCome (cb_tw (i := 1227) (by decide +kernel)) (cb_tw (i := 1228) (by decide +kernel)) (cb_tw (i := 1229) (by decide +kernel)) rc_X8_deltasThatCome ⟨by decide, by decide⟩ (by decide +kernel), fun _ h => nomatch h⟩⟩⟩⟩⟩⟩
theorem ok_X9_comes : cb_MOK cb_tb yX9_comes md_X9_comes pt_X9_comes := by
  refine cb_okw0 ⟨plainFor_of_name (by decide), rfl⟩ (by decide) cs_X9_comes (by decide) (fun X n0 f r M hr h => ?_)
  match r, hr, h with
  | [.inl x, .inl y, .inl N, .inl what], hr, h =>
    obtain ⟨P, n, hh, nb, hI, h⟩ := h
    obtain ⟨hP, hS, hH, -⟩ := id hI
    refine cb_run cb_tb_ok vd_X9_comes (cuts := []) 90 ?_
    refine And.intro (cb_on rfl) ⟨P, n, wa_B hI, And.intro h.1 (fun i hi hx => And.intro (h.2 i hi hx).1 (fun j hj hy => And.intro ((h.2 i hi hx).2 j hj hy).1 (fun hij => And.intro (((h.2 i hi hx).2 j hj hy).2 hij).1 (fun k h1 h2 hN => And.intro ((((h.2 i hi hx).2 j hj hy).2 hij).2 k h1 h2 hN).1 (fun w => ?_)))))⟩
    have h := ((((h.2 i hi hx).2 j hj hy).2 hij).2 k h1 h2 hN).2 w
    refine And.intro (cb_on rfl) ⟨P, n, ⟨hP, hS⟩, fun M1 m hK => And.intro trivial (And.intro (cb_on rfl) ⟨P, n, i, j, k, ⟨(wk_K_Q hS hK).1, hK.2.2.1, hx, hi, hy, hj, hij, hN, by omega⟩, fun M2 hF2 => And.intro trivial (cb_eqK (h M2 ((hK.1.mono fr_T_Z).trans (hF2.fx fr_y_Z))) ?_)⟩)⟩
    rw [(wk_K_c hK).1, va_c hI]
    rfl
def vq_mis (V : wV) (k j : Nat) : Int32 := wq_oth (vq_tr V (wm_wo (wm_all (nI V.n)) (wm_b1 j)) k).2.2 (vq_on V k).2.2 V.n j
def sp_X9_leader : cb_Sw := fun r M K => match r with
  | [.inl N] => ∃ P n h nb, wa_I M P n h nb ∧ wg_r 1 100 N (K (.inr 1) M) fun k => ∀ M', cb_fx fr_Z M M' → K (.inl (some (cb_i (wq_most (vq_mis (va M P n h nb) k) n).2))) M'
  | _ => False
def pt_X9_leader : cb_PT := cb_wm 1 sp_X9_leader
theorem rc_X9_leader : cb_rc cb_tb RX9 pt_X9_leader := cb_wm_rc
def md_X9_leader : cb_D := (RX9, cX9_leader, 2, (some .int), (1, 6, 8, 158), [
  (0, .iload_n 1, 1, 0, 1, 0, 0),
  (1, .invokestatic 220, 3, 0, 0, 0, 0),
  (4, .aload_n 0, 1, 0, 0, 0, 0),
  (5, .invokevirtual 162, 3, 0, 1, 0, 0),
  (8, .pop, 1, 0, 0, 0, 0),
  (9, .aload_n 0, 1, 0, 0, 0, 0),
  (10, .getfield 72, 3, 0, 9, 11, 369),
  (13, .iload_n 1, 1, 0, 1, 0, 0),
  (14, .invokevirtual 315, 3, 0, 2, 0, 0),
  (17, .ireturn, 1, 0, 0, 0, 0)],
  [(1, 220, 1, 1, 6, pt_X9_needDaysOn), (0, 162, 1, 0, 0, pt_X9_asTheyHang), (0, 315, 2, 0, 0, pt_X0_mostMissed)], [])
set_option maxRecDepth 100000 in
theorem vd_X9_leader : md_X9_leader.cd.all (cb_vE md_X9_leader) = true := by decide +kernel
theorem wd_X9_leader : cb_wd yX9_leader md_X9_leader := ⟨cb_tw (i := 1238) (by decide +kernel), cb_tw (i := 1) (by decide +kernel), by decide, by decide⟩
theorem cs_X9_leader : ∀ X, cb_Bs md_X9_leader X → ∀ g ∈ md_X9_leader.ga, cb_CS cb_tb md_X9_leader X g := fun X B => List.forall_mem_cons.mpr ⟨cb_csS B ok_X9_needDaysOn wd_X9_needDaysOn (cb_tw (i := 937) (by decide +kernel)) (cb_tw (i := 938) (by decide +kernel)) ⟨by decide, by decide⟩ (by decide +kernel), List.forall_mem_cons.mpr ⟨cb_csV B ok_X9_asTheyHang wd_X9_asTheyHang (cb_tw (i := 420) (by decide +kernel)) (cb_tw (i := 422) (by decide +kernel)) (cb_tp (i := 1) (by decide +kernel)) rc_X9_asTheyHang ⟨by decide, by decide⟩ (by decide +kernel), List.forall_mem_cons.mpr ⟨cb_csV B ok_X0_mostMissed wd_X0_mostMissed (cb_tw (i := 1239) (by decide +kernel)) (cb_tw (i := 1240) (by decide +kernel)) (cb_tw (i := 1241) (by decide +kernel)) rc_X0_mostMissed ⟨by decide, by decide⟩ (by decide +kernel), fun _ h => nomatch h⟩⟩⟩
theorem ok_X9_leader : cb_MOK cb_tb yX9_leader md_X9_leader pt_X9_leader := by
  refine cb_okw0 ⟨plainFor_of_name (by decide), rfl⟩ (by decide) cs_X9_leader (by decide) (fun X n0 f r M hr h => ?_)
  match r, hr, h with
  | [.inl N], hr, h =>
    obtain ⟨P, n, hh, nb, hI, h⟩ := h
    obtain ⟨hP, hS, hH, -⟩ := id hI
    refine cb_run cb_tb_ok vd_X9_leader (cuts := []) 90 ?_
    refine And.intro h.1 (fun k h1 h2 hN => ?_)
    have h := h.2 k h1 h2 hN
    refine And.intro (cb_on rfl) ⟨P, n, ⟨hP, hS⟩, fun M1 m hK => And.intro (cb_on rfl) ⟨P, n, k, ⟨wk_K_Q hS hK, hN, by omega⟩, fun M2 hF2 => And.intro trivial (cb_eqK (h M2 ((hK.1.mono fr_T_Z).trans (hF2.fx fr_z_Z))) ?_)⟩⟩
    have e : wk_mis M1 P n k = vq_mis (va M P n hh nb) k := funext fun j => by
      unfold wk_mis vq_mis
      rw [vq_on_k hI hK, vq_tr_k hI hK]
      rfl
    rw [e]
def vq_far (V : wV) (i k : Nat) (off : Int32) (j : Nat) : Int32 := wm_abs ((vq_rt V i (nI j - 100) k).2.2 i - off)
def sp_X9_wanted : cb_Sw := fun r M K => match r with
  | [.inl x, .inl off, .inl N, .inl what] => ∃ P n h nb, wa_I M P n h nb ∧ wg_c n x (K (.inr 0) M) fun i => wg_i (-99999) 99999 off (K (.inr 1) M) (wg_r 1 100 N (K (.inr 1) M) fun k => wg_i 0 1 what (K (.inr 1) M) (∀ M', cb_fx fr_Z M M' → K (.inl (some (cb_i (if what = 0 then (wq_near (vq_far (va M P n h nb) i k off) 201).1 else (wq_near (vq_far (va M P n h nb) i k off) 201).2)))) M'))
  | _ => False
def pt_X9_wanted : cb_PT := cb_wm 4 sp_X9_wanted
theorem rc_X9_wanted : cb_rc cb_tb RX9 pt_X9_wanted := cb_wm_rc
def md_X9_wanted : cb_D := (RX9, cX9_wanted, 5, (some .int), (4, 24, 8, 162), [
  (0, .aload_n 0, 1, 0, 0, 0, 0),
  (1, .iload_n 1, 1, 0, 1, 0, 0),
  (2, .invokevirtual 132, 3, 0, 0, 0, 0),
  (5, .iload_n 2, 1, 0, 2, 0, 0),
  (6, .ldc_w 279, 3, (-99999), 0, 0, 1112),
  (9, .ldc_w 280, 3, 99999, 0, 0, 1113),
  (12, .invokestatic 101, 3, 0, 1, 0, 0),
  (15, .iload_n 3, 1, 0, 3, 0, 0),
  (16, .invokestatic 220, 3, 0, 2, 0, 0),
  (19, .iload 4, 2, 0, 4, 0, 0),
  (21, .iconst 0, 1, 0, 0, 0, 0),
  (22, .iconst 1, 1, 1, 0, 0, 0),
  (23, .invokestatic 101, 3, 0, 1, 0, 0),
  (26, .aload_n 0, 1, 0, 0, 0, 0),
  (27, .invokevirtual 162, 3, 0, 3, 0, 0),
  (30, .pop, 1, 0, 0, 0, 0),
  (31, .aload_n 0, 1, 0, 0, 0, 0),
  (32, .getfield 79, 3, 0, 9, 12, 370),
  (35, .iload_n 1, 1, 0, 1, 0, 0),
  (36, .iload_n 2, 1, 0, 2, 0, 0),
  (37, .iload_n 3, 1, 0, 3, 0, 0),
  (38, .iload 4, 2, 0, 4, 0, 0),
  (40, .invokevirtual 321, 3, 0, 4, 0, 0),
  (43, .ireturn, 1, 0, 0, 0, 0)],
  [(0, 132, 2, 1, 6, pt_X9_needClock), (1, 101, 3, 1, 6, pt_X9_needWithin), (1, 220, 1, 1, 6, pt_X9_needDaysOn), (0, 162, 1, 0, 0, pt_X9_asTheyHang), (0, 321, 5, 0, 0, pt_X5_nearest)], [])
set_option maxRecDepth 100000 in
theorem vd_X9_wanted : md_X9_wanted.cd.all (cb_vE md_X9_wanted) = true := by decide +kernel
theorem wd_X9_wanted : cb_wd yX9_wanted md_X9_wanted := ⟨cb_tw (i := 1267) (by decide +kernel), cb_tw (i := 1) (by decide +kernel), by decide, by decide⟩
theorem cs_X9_wanted : ∀ X, cb_Bs md_X9_wanted X → ∀ g ∈ md_X9_wanted.ga, cb_CS cb_tb md_X9_wanted X g := fun X B => List.forall_mem_cons.mpr ⟨cb_csV B ok_X9_needClock wd_X9_needClock (cb_tw (i := 785) (by decide +kernel)) (cb_tw (i := 787) (by decide +kernel)) (cb_tp (i := 22) (by decide +kernel)) rc_X9_needClock ⟨by decide, by decide⟩ (by decide +kernel), List.forall_mem_cons.mpr ⟨cb_csS B ok_X9_needWithin wd_X9_needWithin (cb_tw (i := 548) (by decide +kernel)) (cb_tw (i := 549) (by decide +kernel)) ⟨by decide, by decide⟩ (by decide +kernel), List.forall_mem_cons.mpr ⟨cb_csS B ok_X9_needDaysOn wd_X9_needDaysOn (cb_tw (i := 937) (by decide +kernel)) (cb_tw (i := 938) (by decide +kernel)) ⟨by decide, by decide⟩ (by decide +kernel), List.forall_mem_cons.mpr ⟨cb_csV B ok_X9_asTheyHang wd_X9_asTheyHang (cb_tw (i := 420) (by decide +kernel)) (cb_tw (i := 422) (by decide +kernel)) (cb_tp (i := 1) (by decide +kernel)) rc_X9_asTheyHang ⟨by decide, by decide⟩ (by decide +kernel), List.forall_mem_cons.mpr ⟨cb_csV B ok_X5_nearest wd_X5_nearest (cb_tw (i := 1268) (by decide +kernel)) (cb_tw (i := 1269) (by decide +kernel)) (cb_tw (i := 1270) (by decide +kernel)) rc_X5_nearest ⟨by decide, by decide⟩ (by decide +kernel), fun _ h => nomatch h⟩⟩⟩⟩⟩
theorem ok_X9_wanted : cb_MOK cb_tb yX9_wanted md_X9_wanted pt_X9_wanted := by
  refine cb_okw0 ⟨plainFor_of_name (by decide), rfl⟩ (by decide) cs_X9_wanted (by decide) (fun X n0 f r M hr h => ?_)
  match r, hr, h with
  | [.inl x, .inl off, .inl N, .inl what], hr, h =>
    obtain ⟨P, n, hh, nb, hI, h⟩ := h
    obtain ⟨hP, hS, hH, -⟩ := id hI
    refine cb_run cb_tb_ok vd_X9_wanted (cuts := []) 90 ?_
    refine And.intro (cb_on rfl) ⟨P, n, wa_B hI, And.intro h.1 (fun i hi hx => And.intro (h.2 i hi hx).1 (fun w1 => And.intro ((h.2 i hi hx).2 w1).1 (fun k h1 h2 hN => And.intro (((h.2 i hi hx).2 w1).2 k h1 h2 hN).1 (fun w3 => ?_))))⟩
    have h := (((h.2 i hi hx).2 w1).2 k h1 h2 hN).2 w3
    refine And.intro (cb_on rfl) ⟨P, n, ⟨hP, hS⟩, fun M1 m hK => And.intro (cb_on rfl) ⟨P, n, i, k, ⟨wk_K_Q hS hK, hN, by omega, hx, hi⟩, fun M2 hF2 => And.intro trivial (cb_eqK (h M2 ((hK.1.mono fr_T_Z).trans (hF2.fx (fr_r_Z i)))) ?_)⟩⟩
    have e : wk_far M1 P n i k off = vq_far (va M P n hh nb) i k off := funext fun j => by
      unfold wk_far vq_far
      rw [vq_rt_k hI hK]
    rw [e]
def vq_sel (V : wV) (i g : Nat) : Bool := vq_fraud V i (g + 1)
def sp_X9_sale : cb_Sw := fun r M K => match r with
  | [.inl x, .inl N] => ∃ P n h nb, wa_I M P n h nb ∧ wg_c n x (K (.inr 0) M) fun i => wg_r 1 100 N (K (.inr 1) M) fun k => ∀ M', cb_fx fr_Z M M' → K (.inl (some (cb_i (wq_sell (vq_sel (va M P n h nb) i) k)))) M'
  | _ => False
def pt_X9_sale : cb_PT := cb_wm 2 sp_X9_sale
theorem rc_X9_sale : cb_rc cb_tb RX9 pt_X9_sale := cb_wm_rc
def md_X9_sale : cb_D := (RX9, cX9_sale, 3, (some .int), (2, 12, 8, 142), [
  (0, .aload_n 0, 1, 0, 0, 0, 0),
  (1, .iload_n 1, 1, 0, 1, 0, 0),
  (2, .invokevirtual 132, 3, 0, 0, 0, 0),
  (5, .iload_n 2, 1, 0, 2, 0, 0),
  (6, .invokestatic 220, 3, 0, 1, 0, 0),
  (9, .aload_n 0, 1, 0, 0, 0, 0),
  (10, .invokevirtual 162, 3, 0, 2, 0, 0),
  (13, .pop, 1, 0, 0, 0, 0),
  (14, .aload_n 0, 1, 0, 0, 0, 0),
  (15, .getfield 72, 3, 0, 9, 11, 369),
  (18, .iload_n 1, 1, 0, 1, 0, 0),
  (19, .iload_n 2, 1, 0, 2, 0, 0),
  (20, .invokevirtual 324, 3, 0, 3, 0, 0),
  (23, .ireturn, 1, 0, 0, 0, 0)],
  [(0, 132, 2, 1, 6, pt_X9_needClock), (1, 220, 1, 1, 6, pt_X9_needDaysOn), (0, 162, 1, 0, 0, pt_X9_asTheyHang), (0, 324, 3, 0, 0, pt_X0_firstDayToSell)], [])
set_option maxRecDepth 100000 in
theorem vd_X9_sale : md_X9_sale.cd.all (cb_vE md_X9_sale) = true := by decide +kernel
theorem wd_X9_sale : cb_wd yX9_sale md_X9_sale := ⟨cb_tw (i := 1279) (by decide +kernel), cb_tw (i := 1) (by decide +kernel), by decide, by decide⟩
theorem cs_X9_sale : ∀ X, cb_Bs md_X9_sale X → ∀ g ∈ md_X9_sale.ga, cb_CS cb_tb md_X9_sale X g := fun X B => List.forall_mem_cons.mpr ⟨cb_csV B ok_X9_needClock wd_X9_needClock (cb_tw (i := 785) (by decide +kernel)) (cb_tw (i := 787) (by decide +kernel)) (cb_tp (i := 22) (by decide +kernel)) rc_X9_needClock ⟨by decide, by decide⟩ (by decide +kernel), List.forall_mem_cons.mpr ⟨cb_csS B ok_X9_needDaysOn wd_X9_needDaysOn (cb_tw (i := 937) (by decide +kernel)) (cb_tw (i := 938) (by decide +kernel)) ⟨by decide, by decide⟩ (by decide +kernel), List.forall_mem_cons.mpr ⟨cb_csV B ok_X9_asTheyHang wd_X9_asTheyHang (cb_tw (i := 420) (by decide +kernel)) (cb_tw (i := 422) (by decide +kernel)) (cb_tp (i := 1) (by decide +kernel)) rc_X9_asTheyHang ⟨by decide, by decide⟩ (by decide +kernel), List.forall_mem_cons.mpr ⟨cb_csV B ok_X0_firstDayToSell wd_X0_firstDayToSell (cb_tw (i := 1280) (by decide +kernel)) (cb_tw (i := 1281) (by decide +kernel)) (cb_tw (i := 1282) (by decide +kernel)) rc_X0_firstDayToSell ⟨by decide, by decide⟩ (by decide +kernel), fun _ h => nomatch h⟩⟩⟩⟩
theorem ok_X9_sale : cb_MOK cb_tb yX9_sale md_X9_sale pt_X9_sale := by
  refine cb_okw0 ⟨plainFor_of_name (by decide), rfl⟩ (by decide) cs_X9_sale (by decide) (fun X n0 f r M hr h => ?_)
  match r, hr, h with
  | [.inl x, .inl N], hr, h =>
    obtain ⟨P, n, hh, nb, hI, h⟩ := h
    obtain ⟨hP, hS, hH, -⟩ := id hI
    refine cb_run cb_tb_ok vd_X9_sale (cuts := []) 90 ?_
    refine And.intro (cb_on rfl) ⟨P, n, wa_B hI, And.intro h.1 (fun i hi hx => And.intro (h.2 i hi hx).1 (fun k h1 h2 hN => ?_))⟩
    have h := (h.2 i hi hx).2 k h1 h2 hN
    refine And.intro (cb_on rfl) ⟨P, n, ⟨hP, hS⟩, fun M1 m hK => And.intro (cb_on rfl) ⟨P, n, i, k, ⟨wk_K_Q hS hK, hN, by omega, hx, hi, ?_⟩, fun M2 hF2 => And.intro trivial (cb_eqK (h M2 ((hK.1.mono fr_T_Z).trans (hF2.fx fr_q_Z))) ?_)⟩⟩
    · have := congrArg Prod.fst hK.2.2.2.2.2.1
      rw [hK.1.1 16 0 0 rfl]
      exact this
    · have e : wk_sel M1 P n i = vq_sel (va M P n hh nb) i := funext fun g => by
        unfold wk_sel vq_sel vq_fraud
        rw [vq_on_k hI hK, vq_al_k (h := hh) (nb := nb) hK hi, hK.1.1 3 P 4 rfl]
        rfl
      rw [e]
def vq_hon (V : wV) (i k : Nat) : Bool := (List.range k).all fun g => wm_rgt V.w (vq_al V i (g + 1))
def sp_X9_honest : cb_Sw := fun r M K => match r with
  | [.inl N] => ∃ P n h nb, wa_I M P n h nb ∧ wg_r 1 100 N (K (.inr 1) M) fun k => ∀ M', cb_fx fr_Z M M' → K (.inl (some (cb_i (wm_mask (fun i => vq_hon (va M P n h nb) i k) n)))) M'
  | _ => False
def pt_X9_honest : cb_PT := cb_wm 1 sp_X9_honest
theorem rc_X9_honest : cb_rc cb_tb RX9 pt_X9_honest := cb_wm_rc
def md_X9_honest : cb_D := (RX9, cX9_honest, 2, (some .int), (1, 6, 8, 142), [
  (0, .iload_n 1, 1, 0, 1, 0, 0),
  (1, .invokestatic 220, 3, 0, 0, 0, 0),
  (4, .aload_n 0, 1, 0, 0, 0, 0),
  (5, .invokevirtual 162, 3, 0, 1, 0, 0),
  (8, .pop, 1, 0, 0, 0, 0),
  (9, .aload_n 0, 1, 0, 0, 0, 0),
  (10, .getfield 72, 3, 0, 9, 11, 369),
  (13, .iload_n 1, 1, 0, 1, 0, 0),
  (14, .invokevirtual 327, 3, 0, 2, 0, 0),
  (17, .ireturn, 1, 0, 0, 0, 0)],
  [(1, 220, 1, 1, 6, pt_X9_needDaysOn), (0, 162, 1, 0, 0, pt_X9_asTheyHang), (0, 327, 2, 0, 0, pt_X0_honestOnes)], [])
set_option maxRecDepth 100000 in
theorem vd_X9_honest : md_X9_honest.cd.all (cb_vE md_X9_honest) = true := by decide +kernel
theorem wd_X9_honest : cb_wd yX9_honest md_X9_honest := ⟨cb_tw (i := 1291) (by decide +kernel), cb_tw (i := 1) (by decide +kernel), by decide, by decide⟩
theorem cs_X9_honest : ∀ X, cb_Bs md_X9_honest X → ∀ g ∈ md_X9_honest.ga, cb_CS cb_tb md_X9_honest X g := fun X B => List.forall_mem_cons.mpr ⟨cb_csS B ok_X9_needDaysOn wd_X9_needDaysOn (cb_tw (i := 937) (by decide +kernel)) (cb_tw (i := 938) (by decide +kernel)) ⟨by decide, by decide⟩ (by decide +kernel), List.forall_mem_cons.mpr ⟨cb_csV B ok_X9_asTheyHang wd_X9_asTheyHang (cb_tw (i := 420) (by decide +kernel)) (cb_tw (i := 422) (by decide +kernel)) (cb_tp (i := 1) (by decide +kernel)) rc_X9_asTheyHang ⟨by decide, by decide⟩ (by decide +kernel), List.forall_mem_cons.mpr ⟨cb_csV B ok_X0_honestOnes wd_X0_honestOnes (cb_tw (i := 1292) (by decide +kernel)) (cb_tw (i := 1293) (by decide +kernel)) (cb_tw (i := 1294) (by decide +kernel)) rc_X0_honestOnes ⟨by decide, by decide⟩ (by decide +kernel), fun _ h => nomatch h⟩⟩⟩
theorem ok_X9_honest : cb_MOK cb_tb yX9_honest md_X9_honest pt_X9_honest := by
  refine cb_okw0 ⟨plainFor_of_name (by decide), rfl⟩ (by decide) cs_X9_honest (by decide) (fun X n0 f r M hr h => ?_)
  match r, hr, h with
  | [.inl N], hr, h =>
    obtain ⟨P, n, hh, nb, hI, h⟩ := h
    obtain ⟨hP, hS, hH, -⟩ := id hI
    refine cb_run cb_tb_ok vd_X9_honest (cuts := []) 90 ?_
    refine And.intro h.1 (fun k h1 h2 hN => ?_)
    have h := h.2 k h1 h2 hN
    refine And.intro (cb_on rfl) ⟨P, n, ⟨hP, hS⟩, fun M1 m hK => And.intro (cb_on rfl) ⟨P, n, k, ⟨hK.2.1.1, hK.2.2.2.1, hN, by omega⟩, And.intro trivial (cb_eqK (h M1 (hK.1.mono fr_T_Z)) ?_)⟩⟩
    refine wm_mask_cong (fun i hi => ?_)
    unfold wk_hon vq_hon
    rw [hK.1.1 3 P 4 rfl]
    exact cb_all_cong (fun g _ => by rw [vq_al_k (h := hh) (nb := nb) hK hi]; rfl)
def vq_win (V : wV) (seed : Int32) (k : Nat) : wm_S := (wn_win (vc V) (wu_all V.n) V.dp V.s seed k).1
def sp_X9_winter : cb_Sw := fun r M K => match r with
  | [.inl x, .inl N, .inl seed] => ∃ P n h nb, wa_I M P n h nb ∧ wg_c n x (K (.inr 0) M) fun i => wg_r 1 100 N (K (.inr 1) M) fun k => ∀ M', cb_fx fr_Z M M' → K (.inl (some (cb_i ((vq_win (va M P n h nb) seed k).2.2 i)))) M'
  | _ => False
theorem vq_win_k {M M' : cb_M} {P n h nb m : Nat} (hI : wa_I M P n h nb) (hK : wk_K M P n m M') (seed : Int32) (k : Nat) : (wn_win (wt_c M' P n) (wt_u M' n) (cb_gI M' 15 P) (wt_s M' n) seed k).1 = vq_win (va M P n h nb) seed k := by
  obtain ⟨ec, eu⟩ := wk_K_c hK
  unfold vq_win
  rw [ec, eu, va_c hI, hK.2.2.2.2.2.1, hK.1.fn 15 P (fun _ => rfl)]
  exact congrArg Prod.fst (wn_win_tr k).symm
def pt_X9_winter : cb_PT := cb_wm 3 sp_X9_winter
theorem rc_X9_winter : cb_rc cb_tb RX9 pt_X9_winter := cb_wm_rc
def md_X9_winter : cb_D := (RX9, cX9_winter, 4, (some .int), (2, 12, 8, 142), [
  (0, .aload_n 0, 1, 0, 0, 0, 0),
  (1, .iload_n 1, 1, 0, 1, 0, 0),
  (2, .invokevirtual 132, 3, 0, 0, 0, 0),
  (5, .iload_n 2, 1, 0, 2, 0, 0),
  (6, .invokestatic 220, 3, 0, 1, 0, 0),
  (9, .aload_n 0, 1, 0, 0, 0, 0),
  (10, .invokevirtual 162, 3, 0, 2, 0, 0),
  (13, .iload_n 2, 1, 0, 2, 0, 0),
  (14, .iload_n 3, 1, 0, 3, 0, 0),
  (15, .invokevirtual 330, 3, 0, 3, 0, 0),
  (18, .aload_n 0, 1, 0, 0, 0, 0),
  (19, .getfield 56, 3, 0, 9, 9, 367),
  (22, .getfield 223, 3, 0, 7, 6, 243),
  (25, .iload_n 1, 1, 0, 1, 0, 0),
  (26, .iaload, 1, 0, 0, 0, 0),
  (27, .ireturn, 1, 0, 0, 0, 0)],
  [(0, 132, 2, 1, 6, pt_X9_needClock), (1, 220, 1, 1, 6, pt_X9_needDaysOn), (0, 162, 1, 0, 0, pt_X9_asTheyHang), (0, 330, 3, 0, 0, pt_X7_goWinter)], [])
set_option maxRecDepth 100000 in
theorem vd_X9_winter : md_X9_winter.cd.all (cb_vE md_X9_winter) = true := by decide +kernel
theorem wd_X9_winter : cb_wd yX9_winter md_X9_winter := ⟨cb_tw (i := 1306) (by decide +kernel), cb_tw (i := 1) (by decide +kernel), by decide, by decide⟩
theorem cs_X9_winter : ∀ X, cb_Bs md_X9_winter X → ∀ g ∈ md_X9_winter.ga, cb_CS cb_tb md_X9_winter X g := fun X B => List.forall_mem_cons.mpr ⟨cb_csV B ok_X9_needClock wd_X9_needClock (cb_tw (i := 785) (by decide +kernel)) (cb_tw (i := 787) (by decide +kernel)) (cb_tp (i := 22) (by decide +kernel)) rc_X9_needClock ⟨by decide, by decide⟩ (by decide +kernel), List.forall_mem_cons.mpr ⟨cb_csS B ok_X9_needDaysOn wd_X9_needDaysOn (cb_tw (i := 937) (by decide +kernel)) (cb_tw (i := 938) (by decide +kernel)) ⟨by decide, by decide⟩ (by decide +kernel), List.forall_mem_cons.mpr ⟨cb_csV B ok_X9_asTheyHang wd_X9_asTheyHang (cb_tw (i := 420) (by decide +kernel)) (cb_tw (i := 422) (by decide +kernel)) (cb_tp (i := 1) (by decide +kernel)) rc_X9_asTheyHang ⟨by decide, by decide⟩ (by decide +kernel), List.forall_mem_cons.mpr ⟨cb_csV B ok_X7_goWinter wd_X7_goWinter (cb_tw (i := 1307) (by decide +kernel)) (cb_tw (i := 1308) (by decide +kernel)) (cb_tw (i := 1309) (by decide +kernel)) rc_X7_goWinter ⟨by decide, by decide⟩ (by decide +kernel), fun _ h => nomatch h⟩⟩⟩⟩
theorem ok_X9_winter : cb_MOK cb_tb yX9_winter md_X9_winter pt_X9_winter := by
  refine cb_okw0 ⟨plainFor_of_name (by decide), rfl⟩ (by decide) cs_X9_winter (by decide) (fun X n0 f r M hr h => ?_)
  match r, hr, h with
  | [.inl x, .inl N, .inl seed], hr, h =>
    obtain ⟨P, n, hh, nb, hI, h⟩ := h
    obtain ⟨hP, hS, hH, -⟩ := id hI
    have hn8 := hS.2.2.1
    refine cb_run cb_tb_ok vd_X9_winter (cuts := []) 90 ?_
    refine And.intro (cb_on rfl) ⟨P, n, wa_B hI, And.intro h.1 (fun i hi hx => And.intro (h.2 i hi hx).1 (fun k h1 h2 hN => ?_))⟩
    have h := (h.2 i hi hx).2 k h1 h2 hN
    have hx8 : vp_in x 8 := by rw [hx]; exact cb_in8 hi hn8 (by decide)
    have hxc : x.toNatClampNeg = i := by rw [hx]; exact nI_clamp (by omega)
    refine And.intro (cb_on rfl) ⟨P, n, ⟨hP, hS⟩, fun M1 m hK => And.intro (cb_on rfl) ⟨P, n, m, k, ⟨hK.2.1, hK.2.2.1, hN, by omega⟩, fun M2 hF2 hs2 hp2 => And.intro hx8 (And.intro trivial (cb_eqK (h M2 ((hK.1.mono fr_T_Z).trans (hF2.fx fr_t_Z))) ?_))⟩⟩
    rw [hxc, ← show (wt_s M2 n).2.2 i = cb_gI M2 28 0 i from wn_tr_lt hi, hs2, vq_win_k hI hK]
