/-! ===== pushed, beginnings, groups, bound, infected, winters ===== -/
theorem wt_s_set {M : cb_M} {n i : Nat} {p : Int32} (hi : i < n) : wt_s (cb_sI M 27 0 i p) n = wt_set (wt_s M n) i p := by
  unfold wt_s wt_set
  refine Prod.ext rfl (Prod.ext (funext fun a => ?_) rfl)
  show wn_tr n (cb_gI (cb_sI M 27 0 i p) 27 0) a = if a = i then p else wn_tr n (cb_gI M 27 0) a
  unfold wn_tr
  rw [cb_gI_sI]
  by_cases e : a = i
  · subst e
    rw [if_pos hi, if_pos ⟨rfl, rfl, rfl⟩, if_pos rfl]
  · rw [if_neg (show ¬ (27 = 27 ∧ 0 = 0 ∧ a = i) from fun w => e w.2.2), if_neg e]
theorem vq_pon_k {M M1 M2 : cb_M} {P n h nb m i : Nat} {p : Int32} (hI : wa_I M P n h nb) (hK : wk_K M P n m M1) (hF : cb_fr fr_t M1 M2) (hs : wt_s M2 n = wb_s M P n) (hi : i < n) (k : Nat) : wn_days (wt_c (cb_sI M2 27 0 i p) P n) (wt_u (cb_sI M2 27 0 i p) n) (cb_gI (cb_sI M2 27 0 i p) 15 P) (wt_s (cb_sI M2 27 0 i p) n) k = vq_pon (va M P n h nb) i p k := by
  obtain ⟨ec, eu⟩ := wk_K_c hK
  have hF3 : cb_fr fr_t M1 (cb_sI M2 27 0 i p) := hF.set p rfl
  rw [wt_c_fr hF3, wt_u_fr hF3, ec, eu, va_c hI, wt_s_set hi, hs, hF3.fn 15 P (fun _ => rfl), hK.1.fn 15 P (fun _ => rfl)]
  unfold vq_pon
  exact (wn_days_tr k).symm
theorem wb_s_fr {M M' : cb_M} (hF : cb_fr fr_t M M') (P n : Nat) : wb_s M' P n = wb_s M P n := by
  unfold wb_s
  rw [hF.1 16 0 0 rfl, hF.fn 10 P (fun _ => rfl), hF.fn 17 0 (fun _ => rfl)]
theorem wk_Ph_set {M : cb_M} {n i : Nat} {p : Int32} (h : wk_Ph M n) (hp : wm_ph p) : wk_Ph (cb_sI M 27 0 i p) n := fun a ha => by
  rw [cb_gI_sI]
  split
  · exact hp
  · exact h a ha
def sp_X9_pushed : cb_Sw := fun r M K => match r with
  | [.inl ms, .inl N] => ∃ P n h nb, wa_I M P n h nb ∧ wg_i 1 200 ms (K (.inr 1) M) (wg_r 1 100 N (K (.inr 1) M) fun k => ∀ M', cb_fx fr_Z M M' → K (.inl (some (cb_i (vq_push (va M P n h nb) ms k)))) M')
  | _ => False
def pt_X9_pushed : cb_PT := cb_wm 2 sp_X9_pushed
theorem rc_X9_pushed : cb_rc cb_tb RX9 pt_X9_pushed := cb_wm_rc
def md_X9_pushed : cb_D := (RX9, cX9_pushed, 8, (some .int), (2, 12, 8, 142), [
  (0, .iload_n 1, 1, 0, 1, 0, 0),
  (1, .iconst 1, 1, 1, 0, 0, 0),
  (2, .sipush 200, 3, 200, 0, 0, 0),
  (5, .invokestatic 101, 3, 0, 0, 0, 0),
  (8, .iload_n 2, 1, 0, 2, 0, 0),
  (9, .invokestatic 220, 3, 0, 1, 0, 0),
  (12, .aload_n 0, 1, 0, 0, 0, 0),
  (13, .invokevirtual 162, 3, 0, 2, 0, 0),
  (16, .invokevirtual 247, 3, 0, 3, 0, 0),
  (19, .lstore_n 3, 1, 0, 3, 0, 0),
  (20, .iconst 0, 1, 0, 0, 0, 0),
  (21, .istore 5, 2, 0, 5, 0, 0),
  (23, .iconst 0, 1, 0, 0, 0, 0),
  (24, .istore 6, 2, 0, 6, 0, 0),
  (26, .iload 6, 2, 0, 6, 0, 0),
  (28, .aload_n 0, 1, 0, 0, 0, 0),
  (29, .getfield 30, 3, 0, 9, 4, 362),
  (32, .getfield 114, 3, 0, 4, 1, 72),
  (35, .if_icmp .ge 85, 3, 0, 120, 0, 0),
  (38, .iconst (-1), 1, (-1), 0, 0, 0),
  (39, .istore 7, 2, 0, 7, 0, 0),
  (41, .iload 7, 2, 0, 7, 0, 0),
  (43, .iconst 1, 1, 1, 0, 0, 0),
  (44, .if_icmp .gt 70, 3, 0, 114, 0, 0),
  (47, .aload_n 0, 1, 0, 0, 0, 0),
  (48, .getfield 56, 3, 0, 9, 9, 367),
  (51, .invokevirtual 251, 3, 0, 4, 0, 0),
  (54, .aload_n 0, 1, 0, 0, 0, 0),
  (55, .getfield 56, 3, 0, 9, 9, 367),
  (58, .iload 6, 2, 0, 6, 0, 0),
  (60, .aload_n 0, 1, 0, 0, 0, 0),
  (61, .getfield 56, 3, 0, 9, 9, 367),
  (64, .getfield 254, 3, 0, 7, 5, 238),
  (67, .iload 6, 2, 0, 6, 0, 0),
  (69, .iaload, 1, 0, 0, 0, 0),
  (70, .iload 7, 2, 0, 7, 0, 0),
  (72, .iload_n 1, 1, 0, 1, 0, 0),
  (73, .imul, 1, 0, 0, 0, 0),
  (74, .iadd, 1, 0, 0, 0, 0),
  (75, .invokevirtual 257, 3, 0, 5, 0, 0),
  (78, .aload_n 0, 1, 0, 0, 0, 0),
  (79, .getfield 56, 3, 0, 9, 9, 367),
  (82, .iload_n 2, 1, 0, 2, 0, 0),
  (83, .invokevirtual 196, 3, 0, 6, 0, 0),
  (86, .iload 5, 2, 0, 5, 0, 0),
  (88, .aload_n 0, 1, 0, 0, 0, 0),
  (89, .getfield 56, 3, 0, 9, 9, 367),
  (92, .invokevirtual 247, 3, 0, 3, 0, 0),
  (95, .lload_n 3, 1, 0, 3, 0, 0),
  (96, .lcmp, 1, 0, 0, 0, 0),
  (97, .ifCond .ne 7, 3, 0, 104, 0, 0),
  (100, .iconst 1, 1, 1, 0, 0, 0),
  (101, .goto 4, 3, 0, 105, 0, 0),
  (104, .iconst 0, 1, 0, 0, 0, 0),
  (105, .iadd, 1, 0, 0, 0, 0),
  (106, .istore 5, 2, 0, 5, 0, 0),
  (108, .iinc 7 2, 3, 2, 7, 0, 0),
  (111, .goto (-70), 3, 0, 41, 0, 0),
  (114, .iinc 6 1, 3, 1, 6, 0, 0),
  (117, .goto (-91), 3, 0, 26, 0, 0),
  (120, .iload 5, 2, 0, 5, 0, 0),
  (122, .ireturn, 1, 0, 0, 0, 0)],
  [(1, 101, 3, 1, 6, pt_X9_needWithin), (1, 220, 1, 1, 6, pt_X9_needDaysOn), (0, 162, 1, 0, 0, pt_X9_asTheyHang), (0, 247, 1, 0, 0, pt_X7_stepPairs), (0, 251, 1, 0, 0, pt_X7_begin), (0, 257, 3, 0, 0, pt_X7_setPhase), (0, 196, 2, 0, 0, pt_X7_goDays)], [])
set_option maxRecDepth 100000 in
theorem vd_X9_pushed : md_X9_pushed.cd.all (cb_vE md_X9_pushed) = true := by decide +kernel
theorem wd_X9_pushed : cb_wd yX9_pushed md_X9_pushed := ⟨cb_tw (i := 987) (by decide +kernel), cb_tw (i := 1) (by decide +kernel), by decide, by decide⟩
theorem cs_X9_pushed : ∀ X, cb_Bs md_X9_pushed X → ∀ g ∈ md_X9_pushed.ga, cb_CS cb_tb md_X9_pushed X g := fun X B => List.forall_mem_cons.mpr ⟨cb_csS B ok_X9_needWithin wd_X9_needWithin (cb_tw (i := 548) (by decide +kernel)) (cb_tw (i := 549) (by decide +kernel)) ⟨by decide, by decide⟩ (by decide +kernel), List.forall_mem_cons.mpr ⟨cb_csS B ok_X9_needDaysOn wd_X9_needDaysOn (cb_tw (i := 937) (by decide +kernel)) (cb_tw (i := 938) (by decide +kernel)) ⟨by decide, by decide⟩ (by decide +kernel), List.forall_mem_cons.mpr ⟨cb_csV B ok_X9_asTheyHang wd_X9_asTheyHang (cb_tw (i := 420) (by decide +kernel)) (cb_tw (i := 422) (by decide +kernel)) (cb_tp (i := 1) (by decide +kernel)) rc_X9_asTheyHang ⟨by decide, by decide⟩ (by decide +kernel), List.forall_mem_cons.mpr ⟨cb_csV B ok_X7_stepPairs wd_X7_stepPairs (cb_tw (i := 988) (by decide +kernel)) (cb_tw (i := 989) (by decide +kernel)) (cb_tw (i := 990) (by decide +kernel)) rc_X7_stepPairs ⟨by decide, by decide⟩ (by decide +kernel), List.forall_mem_cons.mpr ⟨cb_csV B ok_X7_begin wd_X7_begin (cb_tw (i := 993) (by decide +kernel)) (cb_tw (i := 454) (by decide +kernel)) (cb_tw (i := 455) (by decide +kernel)) rc_X7_begin ⟨by decide, by decide⟩ (by decide +kernel), List.forall_mem_cons.mpr ⟨cb_csV B ok_X7_setPhase wd_X7_setPhase (cb_tw (i := 994) (by decide +kernel)) (cb_tw (i := 904) (by decide +kernel)) (cb_tw (i := 905) (by decide +kernel)) rc_X7_setPhase ⟨by decide, by decide⟩ (by decide +kernel), List.forall_mem_cons.mpr ⟨cb_csV B ok_X7_goDays wd_X7_goDays (cb_tw (i := 891) (by decide +kernel)) (cb_tw (i := 892) (by decide +kernel)) (cb_tw (i := 893) (by decide +kernel)) rc_X7_goDays ⟨by decide, by decide⟩ (by decide +kernel), fun _ h => nomatch h⟩⟩⟩⟩⟩⟩⟩
theorem ok_X9_pushed : cb_MOK cb_tb yX9_pushed md_X9_pushed pt_X9_pushed := by
  refine cb_okw0 ⟨plainFor_of_name (by decide), rfl⟩ (by decide) cs_X9_pushed (by decide) (fun X n0 f r M hr h => ?_)
  match r, hr, h with
  | [.inl ms, .inl N], hr, h =>
    obtain ⟨P, n, hh, nb, hI, h⟩ := h
    obtain ⟨hP, hS, hH, -⟩ := id hI
    have hn8 := hS.2.2.1
    refine cb_run cb_tb_ok vd_X9_pushed (cuts := [26, 41]) 90 ?_
    refine And.intro h.1 (fun w1 => And.intro ((h.2 w1).1) (fun k h1 h2 hN => ?_))
    have h := (h.2 w1).2 k h1 h2 hN
    refine And.intro (cb_on rfl) ⟨P, n, ⟨hP, hS⟩, fun M1 m hK => And.intro (cb_on rfl) ⟨P, n, hK.2.1.1, ?_⟩⟩
    obtain ⟨V, hV⟩ : ∃ V, V = va M P n hh nb := ⟨_, rfl⟩
    have body : ∀ a, a < n → ∀ (sg sm : Int32) (M2 : cb_M), cb_fr fr_t M1 M2 → ¬ 1 < sg → (∀ M3, cb_fr fr_t M1 M3 → cb_Gd cb_tb md_X9_pushed X 41 [some (cb_r 0 0), some (cb_i (ms)), some (cb_i (N)), some (cb_l (wm_sp (cb_gI M1 27 0) n n)), none, some (cb_i (sm + vq_p1 V ms k a sg)), some (cb_i (nI a)), some (cb_i (sg + 2))] [] (cb_aS n0, f) M3 2 12) → cb_Gd cb_tb md_X9_pushed X 41 [some (cb_r 0 0), some (cb_i (ms)), some (cb_i (N)), some (cb_l (wm_sp (cb_gI M1 27 0) n n)), none, some (cb_i (sm)), some (cb_i (nI a)), some (cb_i (sg))] [] (cb_aS n0, f) M2 2 12 := by
      intro a ha' sg sm M2 hF2 hsg nx
      have hxc : (nI a).toNatClampNeg = a := nI_clamp (by omega)
      have hx8 : vp_in (nI a) 8 := cb_in8 ha' hn8 (by decide)
      refine cb_run cb_tb_ok vd_X9_pushed (cuts := [26, 41]) 90 ?_
      refine And.intro (fun q => absurd q hsg) (fun _ => And.intro (cb_on rfl) ⟨P, n, ⟨wk_T_fr hF2 hK.2.1.1, (hF2.ref 25 0 1).trans hK.2.2.2.1⟩, fun M3 hF3 hs3 hp3 => And.intro hx8 (And.intro (cb_on rfl) (And.intro hx8 ?_))⟩)
      have hF3' := hF2.trans hF3
      have hs3 : wt_s M3 n = wb_s M P n := by rw [hs3, wb_s_fr hF2, wb_s_k hK]
      have ep : cb_gI M3 27 0 (nI a).toNatClampNeg = V.s.2.1 a := by
        rw [hxc, ← show (wt_s M3 n).2.1 a = cb_gI M3 27 0 a from wn_tr_lt ha', hs3, hV]
        rfl
      rw [ep, hxc]
      obtain ⟨p, hp⟩ : ∃ p, p = wm_fmod (V.s.2.1 a + sg * ms) 1000 := ⟨_, rfl⟩
      have hpp : wm_ph p := by rw [hp]; exact wm_fmod_ph _
      rw [← hp]
      have hF4 : cb_fr fr_t M1 (cb_sI M3 27 0 a p) := hF3'.set p rfl
      refine And.intro (cb_on rfl) ⟨P, n, m, k, ⟨wk_R_fr hF4 hK.2.1, wk_Ph_set hp3 hpp, hN, by omega⟩, fun M5 hF5 hs5 hp5 => And.intro (cb_on rfl) ⟨P, n, wk_T_fr (hF4.trans hF5) hK.2.1.1, ?_⟩⟩
      rw [vq_pon_k hI hK hF3' hs3 ha', ← hV] at hs5
      have es : wm_sp (cb_gI M5 27 0) n n = wm_sp (cb_gI M1 27 0) n n ↔ wn_same (vq_pon V a p k).2.1 V.s.2.1 n = true := by
        rw [← wm_sp_same hn8]
        have e1 : wm_sp (cb_gI M5 27 0) n n = wm_sp (vq_pon V a p k).2.1 n n := wm_sp_cong (fun x y h1 h2 => by
          rw [← hs5]
          unfold wn_in
          rw [show (wt_s M5 n).2.1 x = cb_gI M5 27 0 x from wn_tr_lt (by omega), show (wt_s M5 n).2.1 y = cb_gI M5 27 0 y from wn_tr_lt h2]) n
        have e2 : wm_sp (cb_gI M1 27 0) n n = wm_sp V.s.2.1 n n := wm_sp_cong (fun x y h1 h2 => by
          unfold wn_in
          rw [wk_K_ph hK hh nb (by omega), wk_K_ph hK hh nb h2, hV]) n
        rw [e1, e2]
      have hF6 := hF4.trans hF5
      have e0 : V.n = n := by rw [hV]; rfl
      have ep1 : vq_p1 V ms k a sg = cb_z (wn_same (vq_pon V a p k).2.1 V.s.2.1 n) := by
        unfold vq_p1
        rw [← hp, e0]
      refine And.intro (fun q => ?_) (fun q => ?_)
      · have q : ¬ lg_cmp (wm_sp (cb_gI M5 27 0) n n) (wm_sp (cb_gI M1 27 0) n n) = 0 := q
        have := nx M5 hF6
        rw [ep1] at this
        cases z : wn_same (vq_pon V a p k).2.1 V.s.2.1 n with
        | true => exact absurd (lg_cmp_0.mpr (es.mpr z)) q
        | false =>
          rw [z] at this
          exact this
      · have q : ¬ ¬ lg_cmp (wm_sp (cb_gI M5 27 0) n n) (wm_sp (cb_gI M1 27 0) n n) = 0 := q
        have z := es.mp (lg_cmp_0.mp (Classical.not_not.mp q))
        have := nx M5 hF6
        rw [ep1, z] at this
        exact this
    have loop : ∀ a, a ≤ n → ∀ (x sm : Int32) (v : Option cb_V) (M2 : cb_M), x = nI a → sm = wm_sum (fun i => vq_p1 V ms k i (-1) + vq_p1 V ms k i 1) a → cb_fr fr_t M1 M2 → cb_Gd cb_tb md_X9_pushed X 26 [some (cb_r 0 0), some (cb_i (ms)), some (cb_i (N)), some (cb_l (wm_sp (cb_gI M1 27 0) n n)), none, some (cb_i (sm)), some (cb_i (x)), v] [] (cb_aS n0, f) M2 2 12 := by
      refine cb_up (fun a => ∀ (x sm : Int32) (v : Option cb_V) (M2 : cb_M), x = nI a → sm = wm_sum (fun i => vq_p1 V ms k i (-1) + vq_p1 V ms k i 1) a → cb_fr fr_t M1 M2 → cb_Gd cb_tb md_X9_pushed X 26 [some (cb_r 0 0), some (cb_i (ms)), some (cb_i (N)), some (cb_l (wm_sp (cb_gI M1 27 0) n n)), none, some (cb_i (sm)), some (cb_i (x)), v] [] (cb_aS n0, f) M2 2 12) ?_ ?_
      · intro x sm v M2 hx hsm hF2
        refine cb_run cb_tb_ok vd_X9_pushed (cuts := [26, 41]) 90 ?_
        have hZ := (hK.1.mono fr_T_Z).trans (hF2.fx fr_t_Z)
        refine Exists.intro (some P) (And.intro ((hZ.2.1 0 0 4 (by decide)).trans hP) (cb_av.of (cb_aPP hS.1 rfl) (cb_lout hx ((hZ.1 3 P 1 rfl).trans hS.2.1) (And.intro trivial (cb_eqK (h M2 hZ) ?_)))))
        rw [← hV, hsm]
        unfold vq_push
        rw [show V.n = n by rw [hV]; rfl]
      · intro a ha' ih x sm v M2 hx hsm hF2
        subst hx
        have hZ := (hK.1.mono fr_T_Z).trans (hF2.fx fr_t_Z)
        refine cb_run cb_tb_ok vd_X9_pushed (cuts := [26, 41]) 90 ?_
        refine Exists.intro (some P) (And.intro ((hZ.2.1 0 0 4 (by decide)).trans hP) (cb_av.of (cb_aPP hS.1 rfl) (cb_lin rfl ((hZ.1 3 P 1 rfl).trans hS.2.1) ha' (by omega) ?_)))
        refine body a ha' (-1) sm M2 hF2 (by decide) (fun M3 hF3 => body a ha' 1 _ M3 hF3 (by decide) (fun M4 hF4 => ?_))
        refine cb_run cb_tb_ok vd_X9_pushed (cuts := [26, 41]) 90 ?_
        refine And.intro (fun _ => ?_) (fun q => absurd (show (1 : Int32) < 1 + 2 by decide) q)
        refine ih _ _ _ M4 (nI_1 a) ?_ hF4
        rw [wm_sum, hsm, Int32.add_assoc]
    exact loop 0 (Nat.zero_le _) _ _ _ M1 rfl rfl (cb_fr.refl M1)
/-- so many beginnings of one come, with the other, to such a beat -/
def vq_beg (V : wV) (i j k : Nat) (beat : Int32) : Int32 := wm_sum (fun d => if wm_beat (wm_ap ((vq_pon V i (nI (50 * d)) k).2.1 i) ((vq_pon V i (nI (50 * d)) k).2.1 j)) = beat then 1 else 0) 20
theorem wm_fmod_50 : ∀ d, d < 20 → wm_fmod (nI (50 * d)) 1000 = nI (50 * d) ∧ 0 ≤ nI (50 * d) ∧ nI (50 * d) < 1000 := by decide +kernel
def sp_X9_beginnings : cb_Sw := fun r M K => match r with
  | [.inl x, .inl y, .inl N, .inl what] => ∃ P n h nb, wa_I M P n h nb ∧ wg_p n x y (K (.inr 0) M) (K (.inr 1) M) fun i j => wg_r 1 100 N (K (.inr 1) M) fun k => wg_i 0 2 what (K (.inr 1) M) (∀ M', cb_fx fr_Z M M' → K (.inl (some (cb_i (vq_beg (va M P n h nb) i j k (wm_ask what))))) M')
  | _ => False
def pt_X9_beginnings : cb_PT := cb_wm 4 sp_X9_beginnings
theorem rc_X9_beginnings : cb_rc cb_tb RX9 pt_X9_beginnings := cb_wm_rc
def md_X9_beginnings : cb_D := (RX9, cX9_beginnings, 7, (some .int), (5, 30, 8, 143), [
  (0, .aload_n 0, 1, 0, 0, 0, 0),
  (1, .iload_n 1, 1, 0, 1, 0, 0),
  (2, .iload_n 2, 1, 0, 2, 0, 0),
  (3, .invokevirtual 174, 3, 0, 0, 0, 0),
  (6, .iload_n 3, 1, 0, 3, 0, 0),
  (7, .invokestatic 220, 3, 0, 1, 0, 0),
  (10, .iload 4, 2, 0, 4, 0, 0),
  (12, .iconst 0, 1, 0, 0, 0, 0),
  (13, .iconst 2, 1, 2, 0, 0, 0),
  (14, .invokestatic 101, 3, 0, 2, 0, 0),
  (17, .aload_n 0, 1, 0, 0, 0, 0),
  (18, .invokevirtual 162, 3, 0, 3, 0, 0),
  (21, .pop, 1, 0, 0, 0, 0),
  (22, .iconst 0, 1, 0, 0, 0, 0),
  (23, .istore 5, 2, 0, 5, 0, 0),
  (25, .iconst 0, 1, 0, 0, 0, 0),
  (26, .istore 6, 2, 0, 6, 0, 0),
  (28, .iload 6, 2, 0, 6, 0, 0),
  (30, .sipush 1000, 3, 1000, 0, 0, 0),
  (33, .if_icmp .ge 61, 3, 0, 94, 0, 0),
  (36, .aload_n 0, 1, 0, 0, 0, 0),
  (37, .getfield 56, 3, 0, 9, 9, 367),
  (40, .invokevirtual 251, 3, 0, 4, 0, 0),
  (43, .aload_n 0, 1, 0, 0, 0, 0),
  (44, .getfield 56, 3, 0, 9, 9, 367),
  (47, .iload_n 1, 1, 0, 1, 0, 0),
  (48, .iload 6, 2, 0, 6, 0, 0),
  (50, .invokevirtual 257, 3, 0, 5, 0, 0),
  (53, .aload_n 0, 1, 0, 0, 0, 0),
  (54, .getfield 56, 3, 0, 9, 9, 367),
  (57, .iload_n 3, 1, 0, 3, 0, 0),
  (58, .invokevirtual 196, 3, 0, 6, 0, 0),
  (61, .iload 5, 2, 0, 5, 0, 0),
  (63, .aload_n 0, 1, 0, 0, 0, 0),
  (64, .getfield 56, 3, 0, 9, 9, 367),
  (67, .iload_n 1, 1, 0, 1, 0, 0),
  (68, .iload_n 2, 1, 0, 2, 0, 0),
  (69, .invokevirtual 205, 3, 0, 7, 0, 0),
  (72, .iload 4, 2, 0, 4, 0, 0),
  (74, .invokestatic 260, 3, 0, 8, 0, 0),
  (77, .if_icmp .ne 7, 3, 0, 84, 0, 0),
  (80, .iconst 1, 1, 1, 0, 0, 0),
  (81, .goto 4, 3, 0, 85, 0, 0),
  (84, .iconst 0, 1, 0, 0, 0, 0),
  (85, .iadd, 1, 0, 0, 0, 0),
  (86, .istore 5, 2, 0, 5, 0, 0),
  (88, .iinc 6 50, 3, 50, 6, 0, 0),
  (91, .goto (-63), 3, 0, 28, 0, 0),
  (94, .iload 5, 2, 0, 5, 0, 0),
  (96, .ireturn, 1, 0, 0, 0, 0)],
  [(0, 174, 3, 3, 18, pt_X9_needPair), (1, 220, 1, 1, 6, pt_X9_needDaysOn), (1, 101, 3, 1, 6, pt_X9_needWithin), (0, 162, 1, 0, 0, pt_X9_asTheyHang), (0, 251, 1, 0, 0, pt_X7_begin), (0, 257, 3, 0, 0, pt_X7_setPhase), (0, 196, 2, 0, 0, pt_X7_goDays), (0, 205, 3, 0, 0, pt_X7_beatOf), (1, 260, 1, 0, 0, pt_X9_beatAsked)], [])
set_option maxRecDepth 100000 in
theorem vd_X9_beginnings : md_X9_beginnings.cd.all (cb_vE md_X9_beginnings) = true := by decide +kernel
theorem wd_X9_beginnings : cb_wd yX9_beginnings md_X9_beginnings := ⟨cb_tw (i := 1001) (by decide +kernel), cb_tw (i := 1) (by decide +kernel), by decide, by decide⟩
theorem cs_X9_beginnings : ∀ X, cb_Bs md_X9_beginnings X → ∀ g ∈ md_X9_beginnings.ga, cb_CS cb_tb md_X9_beginnings X g := fun X B => List.forall_mem_cons.mpr ⟨cb_csV B ok_X9_needPair wd_X9_needPair (cb_tw (i := 831) (by decide +kernel)) (cb_tw (i := 833) (by decide +kernel)) (cb_tp (i := 24) (by decide +kernel)) rc_X9_needPair ⟨by decide, by decide⟩ (by decide +kernel), List.forall_mem_cons.mpr ⟨cb_csS B ok_X9_needDaysOn wd_X9_needDaysOn (cb_tw (i := 937) (by decide +kernel)) (cb_tw (i := 938) (by decide +kernel)) ⟨by decide, by decide⟩ (by decide +kernel), List.forall_mem_cons.mpr ⟨cb_csS B ok_X9_needWithin wd_X9_needWithin (cb_tw (i := 548) (by decide +kernel)) (cb_tw (i := 549) (by decide +kernel)) ⟨by decide, by decide⟩ (by decide +kernel), List.forall_mem_cons.mpr ⟨cb_csV B ok_X9_asTheyHang wd_X9_asTheyHang (cb_tw (i := 420) (by decide +kernel)) (cb_tw (i := 422) (by decide +kernel)) (cb_tp (i := 1) (by decide +kernel)) rc_X9_asTheyHang ⟨by decide, by decide⟩ (by decide +kernel), List.forall_mem_cons.mpr ⟨cb_csV B ok_X7_begin wd_X7_begin (cb_tw (i := 993) (by decide +kernel)) (cb_tw (i := 454) (by decide +kernel)) (cb_tw (i := 455) (by decide +kernel)) rc_X7_begin ⟨by decide, by decide⟩ (by decide +kernel), List.forall_mem_cons.mpr ⟨cb_csV B ok_X7_setPhase wd_X7_setPhase (cb_tw (i := 994) (by decide +kernel)) (cb_tw (i := 904) (by decide +kernel)) (cb_tw (i := 905) (by decide +kernel)) rc_X7_setPhase ⟨by decide, by decide⟩ (by decide +kernel), List.forall_mem_cons.mpr ⟨cb_csV B ok_X7_goDays wd_X7_goDays (cb_tw (i := 891) (by decide +kernel)) (cb_tw (i := 892) (by decide +kernel)) (cb_tw (i := 893) (by decide +kernel)) rc_X7_goDays ⟨by decide, by decide⟩ (by decide +kernel), List.forall_mem_cons.mpr ⟨cb_csV B ok_X7_beatOf wd_X7_beatOf (cb_tw (i := 490) (by decide +kernel)) (cb_tw (i := 491) (by decide +kernel)) (cb_tw (i := 492) (by decide +kernel)) rc_X7_beatOf ⟨by decide, by decide⟩ (by decide +kernel), List.forall_mem_cons.mpr ⟨cb_csS B ok_X9_beatAsked wd_X9_beatAsked (cb_tw (i := 1002) (by decide +kernel)) (cb_tw (i := 1003) (by decide +kernel)) ⟨by decide, by decide⟩ (by decide +kernel), fun _ h => nomatch h⟩⟩⟩⟩⟩⟩⟩⟩⟩
theorem ok_X9_beginnings : cb_MOK cb_tb yX9_beginnings md_X9_beginnings pt_X9_beginnings := by
  refine cb_okw0 ⟨plainFor_of_name (by decide), rfl⟩ (by decide) cs_X9_beginnings (by decide) (fun X n0 f r M hr h => ?_)
  match r, hr, h with
  | [.inl x, .inl y, .inl N, .inl what], hr, h =>
    obtain ⟨P, n, hh, nb, hI, h⟩ := h
    obtain ⟨hP, hS, hH, -⟩ := id hI
    have hn8 := hS.2.2.1
    refine cb_run cb_tb_ok vd_X9_beginnings (cuts := [28]) 90 ?_
    refine And.intro (cb_on rfl) ⟨P, n, wa_B hI, And.intro h.1 (fun i hi hx => And.intro (h.2 i hi hx).1 (fun j hj hy => And.intro ((h.2 i hi hx).2 j hj hy).1 (fun hij => And.intro (((h.2 i hi hx).2 j hj hy).2 hij).1 (fun k h1 h2 hN => And.intro ((((h.2 i hi hx).2 j hj hy).2 hij).2 k h1 h2 hN).1 (fun w => ?_)))))⟩
    have h := ((((h.2 i hi hx).2 j hj hy).2 hij).2 k h1 h2 hN).2 w
    have hx8 : vp_in x 8 := by rw [hx]; exact cb_in8 hi hn8 (by decide)
    have hxc : x.toNatClampNeg = i := by rw [hx]; exact nI_clamp (by omega)
    have hy8 : vp_in y 8 := by rw [hy]; exact cb_in8 hj hn8 (by decide)
    have hyc : y.toNatClampNeg = j := by rw [hy]; exact nI_clamp (by omega)
    refine And.intro (cb_on rfl) ⟨P, n, ⟨hP, hS⟩, fun M1 m hK => ?_⟩
    obtain ⟨V, hV⟩ : ∃ V, V = va M P n hh nb := ⟨_, rfl⟩
    rw [← hV] at h
    have loop : ∀ d, d ≤ 20 → ∀ (z sm : Int32) (M2 : cb_M), z = nI (50 * d) → sm = wm_sum (fun d => if wm_beat (wm_ap ((vq_pon V i (nI (50 * d)) k).2.1 i) ((vq_pon V i (nI (50 * d)) k).2.1 j)) = wm_ask what then 1 else 0) d → cb_fr fr_t M1 M2 → cb_Gd cb_tb md_X9_beginnings X 28 [some (cb_r 0 0), some (cb_i (x)), some (cb_i (y)), some (cb_i (N)), some (cb_i (what)), some (cb_i (sm)), some (cb_i (z))] [] (cb_aS n0, f) M2 5 30 := by
      refine cb_up (fun d => ∀ (z sm : Int32) (M2 : cb_M), z = nI (50 * d) → sm = wm_sum (fun d => if wm_beat (wm_ap ((vq_pon V i (nI (50 * d)) k).2.1 i) ((vq_pon V i (nI (50 * d)) k).2.1 j)) = wm_ask what then 1 else 0) d → cb_fr fr_t M1 M2 → cb_Gd cb_tb md_X9_beginnings X 28 [some (cb_r 0 0), some (cb_i (x)), some (cb_i (y)), some (cb_i (N)), some (cb_i (what)), some (cb_i (sm)), some (cb_i (z))] [] (cb_aS n0, f) M2 5 30) ?_ ?_
      · intro z sm M2 hz hsm hF2
        refine cb_run cb_tb_ok vd_X9_beginnings (cuts := [28]) 90 ?_
        exact cb_lout (N := 1000) hz rfl (And.intro trivial (cb_eqK (h M2 ((hK.1.mono fr_T_Z).trans (hF2.fx fr_t_Z))) hsm))
      · intro d hd ih z sm M2 hz hsm hF2
        subst hz
        obtain ⟨e50, p50⟩ := wm_fmod_50 d hd
        refine cb_run cb_tb_ok vd_X9_beginnings (cuts := [28]) 90 ?_
        refine cb_lin (N := 1000) (n := 1000) rfl rfl (by omega) (by decide) (And.intro (cb_on rfl) ⟨P, n, ⟨wk_T_fr hF2 hK.2.1.1, (hF2.ref 25 0 1).trans hK.2.2.2.1⟩, fun M3 hF3 hs3 hp3 => And.intro (cb_on rfl) (And.intro hx8 ?_)⟩)
        rw [hxc, e50]
        have hF3' := hF2.trans hF3
        have hs3 : wt_s M3 n = wb_s M P n := by rw [hs3, wb_s_fr hF2, wb_s_k hK]
        have hF4 : cb_fr fr_t M1 (cb_sI M3 27 0 i (nI (50 * d))) := hF3'.set _ rfl
        refine And.intro (cb_on rfl) ⟨P, n, m, k, ⟨wk_R_fr hF4 hK.2.1, wk_Ph_set hp3 p50, hN, by omega⟩, fun M5 hF5 hs5 hp5 => And.intro (cb_on rfl) (And.intro ⟨hx8, hy8⟩ (And.intro trivial ?_))⟩
        rw [vq_pon_k hI hK hF3' hs3 hi, ← hV] at hs5
        have eb : wm_beat (wm_ap (cb_gI M5 27 0 x.toNatClampNeg) (cb_gI M5 27 0 y.toNatClampNeg)) = wm_beat (wm_ap ((vq_pon V i (nI (50 * d)) k).2.1 i) ((vq_pon V i (nI (50 * d)) k).2.1 j)) := by
          rw [← hs5, hxc, hyc, show (wt_s M5 n).2.1 i = cb_gI M5 27 0 i from wn_tr_lt hi, show (wt_s M5 n).2.1 j = cb_gI M5 27 0 j from wn_tr_lt hj]
        have nx := fun m' hm' => ih (nI (50 * d) + 50) m' M5 (by rw [show (50 : Int32) = nI 50 from rfl, nI_add]; rfl) hm' (hF4.trans hF5)
        refine cb_ifne (fun q => ?_) (fun q => ?_)
        · rw [eb] at q
          refine nx _ ?_
          have q : ¬ _ = wm_ask what := q
          rw [wm_sum, if_neg q, hsm]
        · rw [eb] at q
          refine nx _ ?_
          have q : _ = wm_ask what := q
          rw [wm_sum, if_pos q, hsm]
    exact loop 0 (Nat.zero_le _) _ _ M1 rfl rfl (cb_fr.refl M1)
/-! groups, bound -/
def wl_B (p : Nat → Nat → Bool) (n a b c d : Nat) : Prop := (c < d ∧ d < n ∧ p c d = true ∧ (c < a ∨ (c = a ∧ d < b))) ∨ (d < c ∧ c < n ∧ p d c = true ∧ (d < a ∨ (d = a ∧ c < b)))
def wl_E (p : Nat → Nat → Bool) (c d : Nat) : Bool := (decide (c < d) && p c d) || (decide (d < c) && p d c)
theorem wl_B_yes {p : Nat → Nat → Bool} {n a b c d : Nat} (hab : a < b) (hb : b < n) (h : p a b = true) : wl_B p n a (b + 1) c d ↔ wl_B p n a b c d ∨ ((c = a ∧ d = b) ∨ (c = b ∧ d = a)) := by
  constructor
  · rintro (⟨h1, h2, h3, h4⟩ | ⟨h1, h2, h3, h4⟩)
    · by_cases e : c = a ∧ d = b
      · exact Or.inr (Or.inl e)
      · exact Or.inl (Or.inl ⟨h1, h2, h3, by omega⟩)
    · by_cases e : c = b ∧ d = a
      · exact Or.inr (Or.inr e)
      · exact Or.inl (Or.inr ⟨h1, h2, h3, by omega⟩)
  · rintro ((⟨h1, h2, h3, h4⟩ | ⟨h1, h2, h3, h4⟩) | (⟨rfl, rfl⟩ | ⟨rfl, rfl⟩))
    · exact Or.inl ⟨h1, h2, h3, by omega⟩
    · exact Or.inr ⟨h1, h2, h3, by omega⟩
    · exact Or.inl ⟨hab, hb, h, by omega⟩
    · exact Or.inr ⟨hab, hb, h, by omega⟩
theorem wl_B_no {p : Nat → Nat → Bool} {n a b c d : Nat} (h : p a b = false) : wl_B p n a (b + 1) c d ↔ wl_B p n a b c d := by
  constructor
  · rintro (⟨h1, h2, h3, h4⟩ | ⟨h1, h2, h3, h4⟩)
    · by_cases e : c = a ∧ d = b
      · obtain ⟨rfl, rfl⟩ := e
        rw [h] at h3
        cases h3
      · exact Or.inl ⟨h1, h2, h3, by omega⟩
    · by_cases e : c = b ∧ d = a
      · obtain ⟨rfl, rfl⟩ := e
        rw [h] at h3
        cases h3
      · exact Or.inr ⟨h1, h2, h3, by omega⟩
  · rintro (⟨h1, h2, h3, h4⟩ | ⟨h1, h2, h3, h4⟩)
    · exact Or.inl ⟨h1, h2, h3, by omega⟩
    · exact Or.inr ⟨h1, h2, h3, by omega⟩
theorem wl_B_in {p : Nat → Nat → Bool} {n a c d : Nat} : wl_B p n a (a + 1) c d ↔ wl_B p n a 0 c d := by
  constructor
  · rintro (⟨h1, h2, h3, h4⟩ | ⟨h1, h2, h3, h4⟩)
    · exact Or.inl ⟨h1, h2, h3, by omega⟩
    · exact Or.inr ⟨h1, h2, h3, by omega⟩
  · rintro (⟨h1, h2, h3, h4⟩ | ⟨h1, h2, h3, h4⟩)
    · exact Or.inl ⟨h1, h2, h3, by omega⟩
    · exact Or.inr ⟨h1, h2, h3, by omega⟩
theorem wl_B_out {p : Nat → Nat → Bool} {n a c d : Nat} : wl_B p n a n c d ↔ wl_B p n (a + 1) 0 c d := by
  constructor
  · rintro (⟨h1, h2, h3, h4⟩ | ⟨h1, h2, h3, h4⟩)
    · exact Or.inl ⟨h1, h2, h3, by omega⟩
    · exact Or.inr ⟨h1, h2, h3, by omega⟩
  · rintro (⟨h1, h2, h3, h4⟩ | ⟨h1, h2, h3, h4⟩)
    · exact Or.inl ⟨h1, h2, h3, by omega⟩
    · exact Or.inr ⟨h1, h2, h3, by omega⟩
theorem wl_B_0 {p : Nat → Nat → Bool} {n c d : Nat} : ¬ wl_B p n 0 0 c d := by
  rintro (⟨h1, h2, h3, h4⟩ | ⟨h1, h2, h3, h4⟩) <;> omega
theorem wl_B_J {p : Nat → Nat → Bool} {n : Nat} {J : wm_F} (hn : n ≤ 8) (h : ∀ c d, c < 8 → d < 32 → (cb_bit (J c) d = true ↔ wl_B p n n 0 c d)) : wl_J J n (wl_E p) := by
  intro c hc d
  by_cases hd : d < 32
  · rw [h c d (by omega) hd]
    unfold wl_E
    constructor
    · rintro (⟨h1, h2, h3, h4⟩ | ⟨h1, h2, h3, h4⟩)
      · exact ⟨h2, by rw [decide_eq_true h1, h3]; rfl⟩
      · exact ⟨by omega, by rw [decide_eq_true h1, h3]; simp⟩
    · rintro ⟨h1, h2⟩
      rw [Bool.or_eq_true, Bool.and_eq_true, Bool.and_eq_true, decide_eq_true_eq, decide_eq_true_eq] at h2
      rcases h2 with ⟨h2, h3⟩ | ⟨h2, h3⟩
      · exact Or.inl ⟨h2, h1, h3, by omega⟩
      · exact Or.inr ⟨h2, hc, h3, by omega⟩
  · constructor
    · intro q
      exfalso
      unfold cb_bit at q
      rw [BitVec.getLsbD_of_ge _ _ (by omega)] at q
      cases q
    · rintro ⟨h1, -⟩
      omega
theorem wl_E_sym (p : Nat → Nat → Bool) (n : Nat) : ∀ x y, x < n → y < n → wl_E p x y = true → wl_E p y x = true := by
  intro x y _ _ h
  unfold wl_E at *
  rw [Bool.or_comm]
  exact h
/-- what is outside the trials and their like stays -/
theorem va_zz {M M' : cb_M} (h : cb_fx fr_Z M M') (P n hh nb : Nat) : va M' P n hh nb = va M P n hh nb := by
  unfold va wb_s
  rw [h.fn 9 P (fun _ => rfl), h.fn 8 P (fun _ => rfl), h.fn 11 P (fun _ => rfl), h.fn 7 P (fun _ => rfl), h.fn 4 P (fun _ => rfl), h.fn 15 P (fun _ => rfl), h.fn 18 0 (fun _ => rfl), h.fn 19 0 (fun _ => rfl), h.fn 20 0 (fun _ => rfl), h.fn 21 0 (fun _ => rfl), h.fn 22 0 (fun _ => rfl), h.fn 14 P (fun _ => rfl), h.fn 16 0 (fun _ => rfl), h.fn 10 P (fun _ => rfl), h.fn 17 0 (fun _ => rfl), h.fn 3 P (fun _ => rfl)]
theorem wa_I_Z {M M' : cb_M} (h : cb_fx fr_Z M M') {P n hh nb : Nat} (hI : wa_I M P n hh nb) : wa_I M' P n hh nb := by
  unfold wa_I wk_S wk_H at *
  rw [h.fn 8 P (fun _ => rfl), h.fn 18 0 (fun _ => rfl), h.fn 19 0 (fun _ => rfl), h.fn 20 0 (fun _ => rfl), h.fn 21 0 (fun _ => rfl), h.fn 16 0 (fun _ => rfl), h.fn 3 P (fun _ => rfl), h.2.1 0 0 4 (by decide)]
  exact hI
noncomputable def vq_groups (V : wV) : Int32 := wl_cc V.n (wl_E (wn_in V.s.2.1))
noncomputable def vq_bound (V : wV) : Int32 := wl_cc V.n (wl_E fun a b => decide (0 < (vc V).he a b) || decide (0 < (vc V).he b a))
def fr_g (t j : Nat) : Bool := Nat.beq t 38
theorem fr_38_Z : ∀ t j, fr_38 t j = true → fr_Z t j = true := by
  intro t j h
  have := Nat.eq_of_beq_eq_true h
  subst this
  rfl
def sp_X9_groups : cb_Sw := fun r M K => match r with
  | [] => ∃ P n h nb, wa_I M P n h nb ∧ ∀ M', cb_fx fr_Z M M' → K (.inl (some (cb_i (vq_groups (va M P n h nb))))) M'
  | _ => False
def pt_X9_groups : cb_PT := cb_wm 0 sp_X9_groups
theorem rc_X9_groups : cb_rc cb_tb RX9 pt_X9_groups := cb_wm_rc
def md_X9_groups : cb_D := (RX9, cX9_groups, 3, (some .int), (0, 0, 6, 135), [
  (0, .aload_n 0, 1, 0, 0, 0, 0),
  (1, .getfield 63, 3, 0, 9, 10, 368),
  (4, .aload_n 0, 1, 0, 0, 0, 0),
  (5, .getfield 30, 3, 0, 9, 4, 362),
  (8, .getfield 114, 3, 0, 4, 1, 72),
  (11, .invokevirtual 211, 3, 0, 0, 0, 0),
  (14, .aload_n 0, 1, 0, 0, 0, 0),
  (15, .invokevirtual 162, 3, 0, 1, 0, 0),
  (18, .pop, 1, 0, 0, 0, 0),
  (19, .iconst 0, 1, 0, 0, 0, 0),
  (20, .istore_n 1, 1, 0, 1, 0, 0),
  (21, .iload_n 1, 1, 0, 1, 0, 0),
  (22, .aload_n 0, 1, 0, 0, 0, 0),
  (23, .getfield 30, 3, 0, 9, 4, 362),
  (26, .getfield 114, 3, 0, 4, 1, 72),
  (29, .if_icmp .ge 52, 3, 0, 81, 0, 0),
  (32, .iload_n 1, 1, 0, 1, 0, 0),
  (33, .iconst 1, 1, 1, 0, 0, 0),
  (34, .iadd, 1, 0, 0, 0, 0),
  (35, .istore_n 2, 1, 0, 2, 0, 0),
  (36, .iload_n 2, 1, 0, 2, 0, 0),
  (37, .aload_n 0, 1, 0, 0, 0, 0),
  (38, .getfield 30, 3, 0, 9, 4, 362),
  (41, .getfield 114, 3, 0, 4, 1, 72),
  (44, .if_icmp .ge 31, 3, 0, 75, 0, 0),
  (47, .aload_n 0, 1, 0, 0, 0, 0),
  (48, .getfield 56, 3, 0, 9, 9, 367),
  (51, .iload_n 1, 1, 0, 1, 0, 0),
  (52, .iload_n 2, 1, 0, 2, 0, 0),
  (53, .invokevirtual 205, 3, 0, 2, 0, 0),
  (56, .iconst 2, 1, 2, 0, 0, 0),
  (57, .if_icmp .ne 12, 3, 0, 69, 0, 0),
  (60, .aload_n 0, 1, 0, 0, 0, 0),
  (61, .getfield 63, 3, 0, 9, 10, 368),
  (64, .iload_n 1, 1, 0, 1, 0, 0),
  (65, .iload_n 2, 1, 0, 2, 0, 0),
  (66, .invokevirtual 214, 3, 0, 3, 0, 0),
  (69, .iinc 2 1, 3, 1, 2, 0, 0),
  (72, .goto (-36), 3, 0, 36, 0, 0),
  (75, .iinc 1 1, 3, 1, 1, 0, 0),
  (78, .goto (-57), 3, 0, 21, 0, 0),
  (81, .aload_n 0, 1, 0, 0, 0, 0),
  (82, .getfield 63, 3, 0, 9, 10, 368),
  (85, .invokevirtual 217, 3, 0, 4, 0, 0),
  (88, .ireturn, 1, 0, 0, 0, 0)],
  [(0, 211, 2, 0, 0, pt_X2_clearFor), (0, 162, 1, 0, 0, pt_X9_asTheyHang), (0, 205, 3, 0, 0, pt_X7_beatOf), (0, 214, 3, 0, 0, pt_X2_join), (0, 217, 1, 0, 0, pt_X2_countSets)], [])
set_option maxRecDepth 100000 in
theorem vd_X9_groups : md_X9_groups.cd.all (cb_vE md_X9_groups) = true := by decide +kernel
theorem wd_X9_groups : cb_wd yX9_groups md_X9_groups := ⟨cb_tw (i := 479) (by decide +kernel), cb_tw (i := 1) (by decide +kernel), by decide, by decide⟩
theorem cs_X9_groups : ∀ X, cb_Bs md_X9_groups X → ∀ g ∈ md_X9_groups.ga, cb_CS cb_tb md_X9_groups X g := fun X B => List.forall_mem_cons.mpr ⟨cb_csV B ok_X2_clearFor wd_X2_clearFor (cb_tw (i := 480) (by decide +kernel)) (cb_tw (i := 481) (by decide +kernel)) (cb_tw (i := 482) (by decide +kernel)) rc_X2_clearFor ⟨by decide, by decide⟩ (by decide +kernel), List.forall_mem_cons.mpr ⟨cb_csV B ok_X9_asTheyHang wd_X9_asTheyHang (cb_tw (i := 420) (by decide +kernel)) (cb_tw (i := 422) (by decide +kernel)) (cb_tp (i := 1) (by decide +kernel)) rc_X9_asTheyHang ⟨by decide, by decide⟩ (by decide +kernel), List.forall_mem_cons.mpr ⟨cb_csV B ok_X7_beatOf wd_X7_beatOf (cb_tw (i := 490) (by decide +kernel)) (cb_tw (i := 491) (by decide +kernel)) (cb_tw (i := 492) (by decide +kernel)) rc_X7_beatOf ⟨by decide, by decide⟩ (by decide +kernel), List.forall_mem_cons.mpr ⟨cb_csV B ok_X2_join wd_X2_join (cb_tw (i := 504) (by decide +kernel)) (cb_tw (i := 505) (by decide +kernel)) (cb_tw (i := 506) (by decide +kernel)) rc_X2_join ⟨by decide, by decide⟩ (by decide +kernel), List.forall_mem_cons.mpr ⟨cb_csV B ok_X2_countSets wd_X2_countSets (cb_tw (i := 508) (by decide +kernel)) (cb_tw (i := 509) (by decide +kernel)) (cb_tw (i := 510) (by decide +kernel)) rc_X2_countSets ⟨by decide, by decide⟩ (by decide +kernel), fun _ h => nomatch h⟩⟩⟩⟩⟩
theorem ok_X9_groups : cb_MOK cb_tb yX9_groups md_X9_groups pt_X9_groups := by
  refine cb_okw0 ⟨plainFor_of_name (by decide), rfl⟩ (by decide) cs_X9_groups (by decide) (fun X n0 f r M hr h => ?_)
  match r, hr, h with
  | [], hr, h =>
    obtain ⟨P, n, hh, nb, hI, h⟩ := h
    obtain ⟨hP, hS, hH, -⟩ := id hI
    have hn8 := hS.2.2.1
    refine cb_run cb_tb_ok vd_X9_groups (cuts := [21, 36]) 90 ?_
    refine Exists.intro (some P) (And.intro hP (cb_av.of (cb_aPP hS.1 rfl) (And.intro (cb_on rfl) ⟨n, ⟨hS.2.1, hn8⟩, fun M0 hF0 hc0 hz0 => ?_⟩)))
    have hZ0 := hF0.fx fr_l_Z
    have hI0 := wa_I_Z hZ0 hI
    have eV := va_zz hZ0 P n hh nb
    obtain ⟨hP0, hS0, -⟩ := id hI0
    refine And.intro (cb_on rfl) ⟨P, n, ⟨hP0, hS0⟩, fun M1 m hK => ?_⟩
    have hZ1 := hZ0.trans (hK.1.mono fr_T_Z)
    obtain ⟨p, hp⟩ : ∃ p : Nat → Nat → Bool, p = wn_in (va M P n hh nb).s.2.1 := ⟨_, rfl⟩
    have inner : ∀ a, a < n → (∀ (x : Int32) (v : Option cb_V) (M2 : cb_M), x = nI (a + 1) → cb_fr fr_38 M1 M2 → (∀ c d, c < 8 → d < 32 → (cb_bit (cb_gI M2 38 0 c) d = true ↔ wl_B p n (a + 1) 0 c d)) → cb_Gd cb_tb md_X9_groups X 21 [some (cb_r 0 0), some (cb_i (x)), v] [] (cb_aS n0, f) M2 0 0) →
        ∀ b, b ≤ n → a < b → ∀ (y : Int32) (M2 : cb_M), y = nI b → cb_fr fr_38 M1 M2 → (∀ c d, c < 8 → d < 32 → (cb_bit (cb_gI M2 38 0 c) d = true ↔ wl_B p n a b c d)) → cb_Gd cb_tb md_X9_groups X 36 [some (cb_r 0 0), some (cb_i (nI a)), some (cb_i (y))] [] (cb_aS n0, f) M2 0 0 := by
      intro a ha' hout
      have hxc : (nI a).toNatClampNeg = a := nI_clamp (by omega)
      have hx8 : vp_in (nI a) 8 := cb_in8 ha' hn8 (by decide)
      refine cb_up (fun b => a < b → ∀ (y : Int32) (M2 : cb_M), y = nI b → cb_fr fr_38 M1 M2 → (∀ c d, c < 8 → d < 32 → (cb_bit (cb_gI M2 38 0 c) d = true ↔ wl_B p n a b c d)) → cb_Gd cb_tb md_X9_groups X 36 [some (cb_r 0 0), some (cb_i (nI a)), some (cb_i (y))] [] (cb_aS n0, f) M2 0 0) ?_ ?_
      · intro _ y M2 hy hF2 hb
        have hZ := hZ1.trans (hF2.fx fr_38_Z)
        refine cb_run cb_tb_ok vd_X9_groups (cuts := [21, 36]) 90 ?_
        refine Exists.intro (some P) (And.intro ((hZ.2.1 0 0 4 (by decide)).trans hP) (cb_av.of (cb_aPP hS.1 rfl) (cb_lout hy ((hZ.1 3 P 1 rfl).trans hS.2.1) ?_)))
        exact hout _ _ M2 (nI_1 a) hF2 (fun c d hc hd => (hb c d hc hd).trans wl_B_out)
      · intro b hb' ih hab y M2 hy hF2 hb
        have hZ := hZ1.trans (hF2.fx fr_38_Z)
        have hy8 : vp_in y 8 := by rw [hy]; exact cb_in8 hb' hn8 (by decide)
        have hyc : y.toNatClampNeg = b := by rw [hy]; exact nI_clamp (by omega)
        refine cb_run cb_tb_ok vd_X9_groups (cuts := [21, 36]) 90 ?_
        refine Exists.intro (some P) (And.intro ((hZ.2.1 0 0 4 (by decide)).trans hP) (cb_av.of (cb_aPP hS.1 rfl) (cb_lin hy ((hZ.1 3 P 1 rfl).trans hS.2.1) hb' (by omega) (And.intro (cb_on rfl) (And.intro ⟨hx8, hy8⟩ ?_)))))
        have ep : ∀ i, i < n → cb_gI M2 27 0 i = (va M P n hh nb).s.2.1 i := fun i hi => by
          rw [hF2.1 27 0 i rfl, wk_K_ph hK hh nb hi, eV]
        have e : wm_beat (wm_ap (cb_gI M2 27 0 (nI a).toNatClampNeg) (cb_gI M2 27 0 y.toNatClampNeg)) = 2 ↔ p a b = true := by
          rw [hxc, hyc, ep a ha', ep b hb', hp]
          exact decide_eq_true_iff.symm
        refine cb_ifne (fun q => ?_) (fun q => And.intro (cb_on rfl) ⟨a, b, ⟨rfl, hy, by omega, by omega, by omega⟩, fun M3 hF3 hb3 => ?_⟩)
        · have q2 : p a b = false := by
            cases z : p a b with
            | false => rfl
            | true => exact absurd (e.mpr z) q
          exact ih (by omega) _ M2 (by rw [hy, nI_1]) hF2 (fun c d hc hd => (hb c d hc hd).trans (wl_B_no q2).symm)
        · have q2 := e.mp q
          refine ih (by omega) _ M3 (by rw [hy, nI_1]) (hF2.trans hF3) (fun c d hc hd => ?_)
          rw [hb3 c d hc hd, Bool.or_eq_true, hb c d hc hd, wl_B_yes hab hb' q2, decide_eq_true_eq]
    have outer : ∀ a, a ≤ n → ∀ (x : Int32) (v : Option cb_V) (M2 : cb_M), x = nI a → cb_fr fr_38 M1 M2 → (∀ c d, c < 8 → d < 32 → (cb_bit (cb_gI M2 38 0 c) d = true ↔ wl_B p n a 0 c d)) → cb_Gd cb_tb md_X9_groups X 21 [some (cb_r 0 0), some (cb_i (x)), v] [] (cb_aS n0, f) M2 0 0 := by
      refine cb_up (fun a => ∀ (x : Int32) (v : Option cb_V) (M2 : cb_M), x = nI a → cb_fr fr_38 M1 M2 → (∀ c d, c < 8 → d < 32 → (cb_bit (cb_gI M2 38 0 c) d = true ↔ wl_B p n a 0 c d)) → cb_Gd cb_tb md_X9_groups X 21 [some (cb_r 0 0), some (cb_i (x)), v] [] (cb_aS n0, f) M2 0 0) ?_ ?_
      · intro x v M2 hx hF2 hb
        have hZ := hZ1.trans (hF2.fx fr_38_Z)
        refine cb_run cb_tb_ok vd_X9_groups (cuts := [21, 36]) 90 ?_
        refine Exists.intro (some P) (And.intro ((hZ.2.1 0 0 4 (by decide)).trans hP) (cb_av.of (cb_aPP hS.1 rfl) (cb_lout hx ((hZ.1 3 P 1 rfl).trans hS.2.1) (And.intro (cb_on rfl) ⟨n, wl_E p, ⟨?_, hn8, wl_B_J hn8 hb, wl_E_sym p n⟩, And.intro trivial (cb_eqK (h M2 hZ) ?_)⟩))))
        · rw [hF2.1 37 0 0 rfl, hK.1.1 37 0 0 rfl]
          exact hc0
        · unfold vq_groups
          rw [← hp]
          rfl
      · intro a ha' ih x v M2 hx hF2 hb
        subst hx
        have hZ := hZ1.trans (hF2.fx fr_38_Z)
        refine cb_run cb_tb_ok vd_X9_groups (cuts := [21, 36]) 90 ?_
        refine Exists.intro (some P) (And.intro ((hZ.2.1 0 0 4 (by decide)).trans hP) (cb_av.of (cb_aPP hS.1 rfl) (cb_lin rfl ((hZ.1 3 P 1 rfl).trans hS.2.1) ha' (by omega) ?_)))
        exact inner a ha' ih (a + 1) ha' (by omega) _ M2 (nI_1 a) hF2 (fun c d hc hd => (hb c d hc hd).trans wl_B_in.symm)
    refine outer 0 (Nat.zero_le _) _ _ M1 rfl (cb_fr.refl M1) (fun c d hc hd => ?_)
    rw [hK.1.1 38 0 c rfl, hz0 c hc]
    constructor
    · intro q
      exfalso
      revert q
      unfold cb_bit
      simp
    · intro q
      exact absurd q wl_B_0
def sp_X9_bound : cb_Sw := fun r M K => match r with
  | [] => ∃ P n h nb, wa_I M P n h nb ∧ ∀ M', cb_fx fr_Z M M' → K (.inl (some (cb_i (vq_bound (va M P n h nb))))) M'
  | _ => False
def pt_X9_bound : cb_PT := cb_wm 0 sp_X9_bound
theorem rc_X9_bound : cb_rc cb_tb RX9 pt_X9_bound := cb_wm_rc
def md_X9_bound : cb_D := (RX9, cX9_bound, 3, (some .int), (0, 0, 6, 135), [
  (0, .aload_n 0, 1, 0, 0, 0, 0),
  (1, .getfield 63, 3, 0, 9, 10, 368),
  (4, .aload_n 0, 1, 0, 0, 0, 0),
  (5, .getfield 30, 3, 0, 9, 4, 362),
  (8, .getfield 114, 3, 0, 4, 1, 72),
  (11, .invokevirtual 211, 3, 0, 0, 0, 0),
  (14, .aload_n 0, 1, 0, 0, 0, 0),
  (15, .invokevirtual 162, 3, 0, 1, 0, 0),
  (18, .pop, 1, 0, 0, 0, 0),
  (19, .iconst 0, 1, 0, 0, 0, 0),
  (20, .istore_n 1, 1, 0, 1, 0, 0),
  (21, .iload_n 1, 1, 0, 1, 0, 0),
  (22, .aload_n 0, 1, 0, 0, 0, 0),
  (23, .getfield 30, 3, 0, 9, 4, 362),
  (26, .getfield 114, 3, 0, 4, 1, 72),
  (29, .if_icmp .ge 63, 3, 0, 92, 0, 0),
  (32, .iload_n 1, 1, 0, 1, 0, 0),
  (33, .iconst 1, 1, 1, 0, 0, 0),
  (34, .iadd, 1, 0, 0, 0, 0),
  (35, .istore_n 2, 1, 0, 2, 0, 0),
  (36, .iload_n 2, 1, 0, 2, 0, 0),
  (37, .aload_n 0, 1, 0, 0, 0, 0),
  (38, .getfield 30, 3, 0, 9, 4, 362),
  (41, .getfield 114, 3, 0, 4, 1, 72),
  (44, .if_icmp .ge 42, 3, 0, 86, 0, 0),
  (47, .aload_n 0, 1, 0, 0, 0, 0),
  (48, .getfield 56, 3, 0, 9, 9, 367),
  (51, .iload_n 1, 1, 0, 1, 0, 0),
  (52, .iload_n 2, 1, 0, 2, 0, 0),
  (53, .invokevirtual 178, 3, 0, 2, 0, 0),
  (56, .ifCond .gt 15, 3, 0, 71, 0, 0),
  (59, .aload_n 0, 1, 0, 0, 0, 0),
  (60, .getfield 56, 3, 0, 9, 9, 367),
  (63, .iload_n 2, 1, 0, 2, 0, 0),
  (64, .iload_n 1, 1, 0, 1, 0, 0),
  (65, .invokevirtual 178, 3, 0, 2, 0, 0),
  (68, .ifCond .le 12, 3, 0, 80, 0, 0),
  (71, .aload_n 0, 1, 0, 0, 0, 0),
  (72, .getfield 63, 3, 0, 9, 10, 368),
  (75, .iload_n 1, 1, 0, 1, 0, 0),
  (76, .iload_n 2, 1, 0, 2, 0, 0),
  (77, .invokevirtual 214, 3, 0, 3, 0, 0),
  (80, .iinc 2 1, 3, 1, 2, 0, 0),
  (83, .goto (-47), 3, 0, 36, 0, 0),
  (86, .iinc 1 1, 3, 1, 1, 0, 0),
  (89, .goto (-68), 3, 0, 21, 0, 0),
  (92, .aload_n 0, 1, 0, 0, 0, 0),
  (93, .getfield 63, 3, 0, 9, 10, 368),
  (96, .invokevirtual 217, 3, 0, 4, 0, 0),
  (99, .ireturn, 1, 0, 0, 0, 0)],
  [(0, 211, 2, 0, 0, pt_X2_clearFor), (0, 162, 1, 0, 0, pt_X9_asTheyHang), (0, 178, 3, 0, 0, pt_X7_hearingOf), (0, 214, 3, 0, 0, pt_X2_join), (0, 217, 1, 0, 0, pt_X2_countSets)], [])
set_option maxRecDepth 100000 in
theorem vd_X9_bound : md_X9_bound.cd.all (cb_vE md_X9_bound) = true := by decide +kernel
theorem wd_X9_bound : cb_wd yX9_bound md_X9_bound := ⟨cb_tw (i := 520) (by decide +kernel), cb_tw (i := 1) (by decide +kernel), by decide, by decide⟩
theorem cs_X9_bound : ∀ X, cb_Bs md_X9_bound X → ∀ g ∈ md_X9_bound.ga, cb_CS cb_tb md_X9_bound X g := fun X B => List.forall_mem_cons.mpr ⟨cb_csV B ok_X2_clearFor wd_X2_clearFor (cb_tw (i := 480) (by decide +kernel)) (cb_tw (i := 481) (by decide +kernel)) (cb_tw (i := 482) (by decide +kernel)) rc_X2_clearFor ⟨by decide, by decide⟩ (by decide +kernel), List.forall_mem_cons.mpr ⟨cb_csV B ok_X9_asTheyHang wd_X9_asTheyHang (cb_tw (i := 420) (by decide +kernel)) (cb_tw (i := 422) (by decide +kernel)) (cb_tp (i := 1) (by decide +kernel)) rc_X9_asTheyHang ⟨by decide, by decide⟩ (by decide +kernel), List.forall_mem_cons.mpr ⟨cb_csV B ok_X7_hearingOf wd_X7_hearingOf (cb_tw (i := 521) (by decide +kernel)) (cb_tw (i := 447) (by decide +kernel)) (cb_tw (i := 448) (by decide +kernel)) rc_X7_hearingOf ⟨by decide, by decide⟩ (by decide +kernel), List.forall_mem_cons.mpr ⟨cb_csV B ok_X2_join wd_X2_join (cb_tw (i := 504) (by decide +kernel)) (cb_tw (i := 505) (by decide +kernel)) (cb_tw (i := 506) (by decide +kernel)) rc_X2_join ⟨by decide, by decide⟩ (by decide +kernel), List.forall_mem_cons.mpr ⟨cb_csV B ok_X2_countSets wd_X2_countSets (cb_tw (i := 508) (by decide +kernel)) (cb_tw (i := 509) (by decide +kernel)) (cb_tw (i := 510) (by decide +kernel)) rc_X2_countSets ⟨by decide, by decide⟩ (by decide +kernel), fun _ h => nomatch h⟩⟩⟩⟩⟩
theorem ok_X9_bound : cb_MOK cb_tb yX9_bound md_X9_bound pt_X9_bound := by
  refine cb_okw0 ⟨plainFor_of_name (by decide), rfl⟩ (by decide) cs_X9_bound (by decide) (fun X n0 f r M hr h => ?_)
  match r, hr, h with
  | [], hr, h =>
    obtain ⟨P, n, hh, nb, hI, h⟩ := h
    obtain ⟨hP, hS, hH, -⟩ := id hI
    have hn8 := hS.2.2.1
    refine cb_run cb_tb_ok vd_X9_bound (cuts := [21, 36]) 90 ?_
    refine Exists.intro (some P) (And.intro hP (cb_av.of (cb_aPP hS.1 rfl) (And.intro (cb_on rfl) ⟨n, ⟨hS.2.1, hn8⟩, fun M0 hF0 hc0 hz0 => ?_⟩)))
    have hZ0 := hF0.fx fr_l_Z
    have hI0 := wa_I_Z hZ0 hI
    have eV := va_zz hZ0 P n hh nb
    obtain ⟨hP0, hS0, -⟩ := id hI0
    refine And.intro (cb_on rfl) ⟨P, n, ⟨hP0, hS0⟩, fun M1 m hK => ?_⟩
    have hZ1 := hZ0.trans (hK.1.mono fr_T_Z)
    obtain ⟨p, hp⟩ : ∃ p : Nat → Nat → Bool, p = fun a b => decide (0 < (vc (va M P n hh nb)).he a b) || decide (0 < (vc (va M P n hh nb)).he b a) := ⟨_, rfl⟩
    have hhe : ∀ a b, a < n → b < n → wm_hear (wk_c M1 P 0) a b = (vc (va M P n hh nb)).he a b := fun a b ha hb => by
      obtain ⟨ec, -⟩ := wk_K_c hK
      rw [← eV, ← va_c hI0, ← ec]
      exact (if_pos ⟨ha, hb⟩).symm
    have inner : ∀ a, a < n → (∀ (x : Int32) (v : Option cb_V) (M2 : cb_M), x = nI (a + 1) → cb_fr fr_38 M1 M2 → (∀ c d, c < 8 → d < 32 → (cb_bit (cb_gI M2 38 0 c) d = true ↔ wl_B p n (a + 1) 0 c d)) → cb_Gd cb_tb md_X9_bound X 21 [some (cb_r 0 0), some (cb_i (x)), v] [] (cb_aS n0, f) M2 0 0) →
        ∀ b, b ≤ n → a < b → ∀ (y : Int32) (M2 : cb_M), y = nI b → cb_fr fr_38 M1 M2 → (∀ c d, c < 8 → d < 32 → (cb_bit (cb_gI M2 38 0 c) d = true ↔ wl_B p n a b c d)) → cb_Gd cb_tb md_X9_bound X 36 [some (cb_r 0 0), some (cb_i (nI a)), some (cb_i (y))] [] (cb_aS n0, f) M2 0 0 := by
      intro a ha' hout
      have hxc : (nI a).toNatClampNeg = a := nI_clamp (by omega)
      have hx8 : vp_in (nI a) 8 := cb_in8 ha' hn8 (by decide)
      refine cb_up (fun b => a < b → ∀ (y : Int32) (M2 : cb_M), y = nI b → cb_fr fr_38 M1 M2 → (∀ c d, c < 8 → d < 32 → (cb_bit (cb_gI M2 38 0 c) d = true ↔ wl_B p n a b c d)) → cb_Gd cb_tb md_X9_bound X 36 [some (cb_r 0 0), some (cb_i (nI a)), some (cb_i (y))] [] (cb_aS n0, f) M2 0 0) ?_ ?_
      · intro _ y M2 hy hF2 hb
        have hZ := hZ1.trans (hF2.fx fr_38_Z)
        refine cb_run cb_tb_ok vd_X9_bound (cuts := [21, 36]) 90 ?_
        refine Exists.intro (some P) (And.intro ((hZ.2.1 0 0 4 (by decide)).trans hP) (cb_av.of (cb_aPP hS.1 rfl) (cb_lout hy ((hZ.1 3 P 1 rfl).trans hS.2.1) ?_)))
        exact hout _ _ M2 (nI_1 a) hF2 (fun c d hc hd => (hb c d hc hd).trans wl_B_out)
      · intro b hb' ih hab y M2 hy hF2 hb
        have hZ := hZ1.trans (hF2.fx fr_38_Z)
        have hy8 : vp_in y 8 := by rw [hy]; exact cb_in8 hb' hn8 (by decide)
        have hyc : y.toNatClampNeg = b := by rw [hy]; exact nI_clamp (by omega)
        have hB2 : wk_B M2 n := by
          have := hK.2.2.2.2.1
          unfold wk_B at *
          rw [hF2.fn 29 0 (fun _ => rfl), hF2.fn 30 0 (fun _ => rfl)]
          exact this
        have hgR : cb_gR M2 25 0 0 = some P := (hF2.ref 25 0 0).trans hK.2.1.1.1
        have ec2 : wk_c M2 P 0 = wk_c M1 P 0 := by
          unfold wk_c
          rw [hF2.fn 9 P (fun _ => rfl), hF2.fn 29 0 (fun _ => rfl), hF2.fn 30 0 (fun _ => rfl), hF2.fn 8 P (fun _ => rfl), hF2.fn 4 P (fun _ => rfl), hF2.fn 11 P (fun _ => rfl), hF2.fn 26 0 (fun _ => rfl), hF2.fn 14 P (fun _ => rfl)]
        have e1 : wm_hear (wk_c M2 P 0) (nI a).toNatClampNeg y.toNatClampNeg = (vc (va M P n hh nb)).he a b := by rw [ec2, hxc, hyc, hhe a b ha' hb']
        have e2 : wm_hear (wk_c M2 P 0) y.toNatClampNeg (nI a).toNatClampNeg = (vc (va M P n hh nb)).he b a := by rw [ec2, hxc, hyc, hhe b a hb' ha']
        have yes : p a b = true → cb_Gd cb_tb md_X9_bound X 71 [some (cb_r 0 0), some (cb_i (nI a)), some (cb_i (y))] [] (cb_aS n0, f) M2 0 0 := fun q2 => by
          refine cb_run cb_tb_ok vd_X9_bound (cuts := [21, 36]) 90 ?_
          refine And.intro (cb_on rfl) ⟨a, b, ⟨rfl, hy, by omega, by omega, by omega⟩, fun M3 hF3 hb3 => ?_⟩
          refine ih (by omega) _ M3 (by rw [hy, nI_1]) (hF2.trans hF3) (fun c d hc hd => ?_)
          rw [hb3 c d hc hd, Bool.or_eq_true, hb c d hc hd, wl_B_yes hab hb' q2, decide_eq_true_eq]
        refine cb_run cb_tb_ok vd_X9_bound (cuts := [21, 36, 71]) 90 ?_
        refine Exists.intro (some P) (And.intro ((hZ.2.1 0 0 4 (by decide)).trans hP) (cb_av.of (cb_aPP hS.1 rfl) (cb_lin hy ((hZ.1 3 P 1 rfl).trans hS.2.1) hb' (by omega) (And.intro (cb_on rfl) ⟨P, ⟨hgR, hS.1, hx8, hy8, by rw [hxc]; exact (hB2 a ha').1, by rw [hxc, hyc]; exact wm_near (hB2 a ha').2 (hB2 b hb').2⟩, And.intro (fun q => ?_) (fun q => And.intro (cb_on rfl) ⟨P, ⟨hgR, hS.1, hy8, hx8, by rw [hyc]; exact (hB2 b hb').1, by rw [hxc, hyc]; exact wm_near (hB2 b hb').2 (hB2 a ha').2⟩, And.intro (fun q2 => ?_) (fun q2 => ?_)⟩)⟩))))
        · have q : 0 < wm_hear (wk_c M2 P 0) (nI a).toNatClampNeg y.toNatClampNeg := q
          rw [e1] at q
          exact yes (by rw [hp]; show (decide _ || decide _) = true; rw [decide_eq_true q]; rfl)
        · have q : ¬ 0 < wm_hear (wk_c M2 P 0) (nI a).toNatClampNeg y.toNatClampNeg := q
          have q2 : wm_hear (wk_c M2 P 0) y.toNatClampNeg (nI a).toNatClampNeg ≤ 0 := q2
          rw [e1] at q
          rw [e2] at q2
          have q3 : p a b = false := by
            rw [hp]
            show (decide _ || decide _) = false
            rw [decide_eq_false q, decide_eq_false (fun w => absurd q2 (Int32.not_le.mpr w))]
            rfl
          exact ih (by omega) _ M2 (by rw [hy, nI_1]) hF2 (fun c d hc hd => (hb c d hc hd).trans (wl_B_no q3).symm)
        · have q2 : ¬ wm_hear (wk_c M2 P 0) y.toNatClampNeg (nI a).toNatClampNeg ≤ 0 := q2
          rw [e2] at q2
          exact yes (by rw [hp]; show (decide _ || decide _) = true; rw [decide_eq_true (Int32.not_le.mp q2)]; simp)
    have outer : ∀ a, a ≤ n → ∀ (x : Int32) (v : Option cb_V) (M2 : cb_M), x = nI a → cb_fr fr_38 M1 M2 → (∀ c d, c < 8 → d < 32 → (cb_bit (cb_gI M2 38 0 c) d = true ↔ wl_B p n a 0 c d)) → cb_Gd cb_tb md_X9_bound X 21 [some (cb_r 0 0), some (cb_i (x)), v] [] (cb_aS n0, f) M2 0 0 := by
      refine cb_up (fun a => ∀ (x : Int32) (v : Option cb_V) (M2 : cb_M), x = nI a → cb_fr fr_38 M1 M2 → (∀ c d, c < 8 → d < 32 → (cb_bit (cb_gI M2 38 0 c) d = true ↔ wl_B p n a 0 c d)) → cb_Gd cb_tb md_X9_bound X 21 [some (cb_r 0 0), some (cb_i (x)), v] [] (cb_aS n0, f) M2 0 0) ?_ ?_
      · intro x v M2 hx hF2 hb
        have hZ := hZ1.trans (hF2.fx fr_38_Z)
        refine cb_run cb_tb_ok vd_X9_bound (cuts := [21, 36]) 90 ?_
        refine Exists.intro (some P) (And.intro ((hZ.2.1 0 0 4 (by decide)).trans hP) (cb_av.of (cb_aPP hS.1 rfl) (cb_lout hx ((hZ.1 3 P 1 rfl).trans hS.2.1) (And.intro (cb_on rfl) ⟨n, wl_E p, ⟨?_, hn8, wl_B_J hn8 hb, wl_E_sym p n⟩, And.intro trivial (cb_eqK (h M2 hZ) ?_)⟩))))
        · rw [hF2.1 37 0 0 rfl, hK.1.1 37 0 0 rfl]
          exact hc0
        · unfold vq_bound
          rw [← hp]
          rfl
      · intro a ha' ih x v M2 hx hF2 hb
        subst hx
        have hZ := hZ1.trans (hF2.fx fr_38_Z)
        refine cb_run cb_tb_ok vd_X9_bound (cuts := [21, 36]) 90 ?_
        refine Exists.intro (some P) (And.intro ((hZ.2.1 0 0 4 (by decide)).trans hP) (cb_av.of (cb_aPP hS.1 rfl) (cb_lin rfl ((hZ.1 3 P 1 rfl).trans hS.2.1) ha' (by omega) ?_)))
        exact inner a ha' ih (a + 1) ha' (by omega) _ M2 (nI_1 a) hF2 (fun c d hc hd => (hb c d hc hd).trans wl_B_in.symm)
    refine outer 0 (Nat.zero_le _) _ _ M1 rfl (cb_fr.refl M1) (fun c d hc hd => ?_)
    rw [hK.1.1 38 0 c rfl, hz0 c hc]
    constructor
    · intro q
      exfalso
      revert q
      unfold cb_bit
      simp
    · intro q
      exact absurd q wl_B_0
/-! infected -/
def vq_exp (V : wV) (i k j : Nat) : Bool := decide (¬ nI j - 100 = V.rt i) && wq_book V.bk (vq_rt V i (nI j - 100) k).2.2 V.n
def vq_inf (V : wV) (k : Nat) : Int32 := wm_mask (fun i => (List.range 201).any (vq_exp V i k)) V.n
theorem wn_rt_self (c : wn_C) (i : Nat) (r : Int32) (h : r = c.rt i) : wn_rt c i r = c := by
  unfold wn_rt
  refine Prod.ext rfl (Prod.ext rfl (Prod.ext rfl (Prod.ext rfl (Prod.ext rfl (Prod.ext (funext fun a => ?_) rfl)))))
  show (if a = i then r else c.rt a) = c.rt a
  by_cases e : a = i
  · rw [if_pos e, h, e]
  · rw [if_neg e]
theorem fr_r_T (i : Nat) : ∀ t j, fr_r i t j = true → fr_T t j = true := by
  intro t j h
  unfold fr_r at h
  rw [Bool.or_eq_true, Bool.and_eq_true] at h
  rcases h with h | ⟨h, -⟩
  · exact fr_t_T t j h
  · have := Nat.eq_of_beq_eq_true h
    subst this
    rfl
def sp_X9_infected : cb_Sw := fun r M K => match r with
  | [.inl N] => ∃ P n h nb, wa_I M P n h nb ∧ wg_r 1 100 N (K (.inr 1) M) fun k => ∀ M', cb_fx fr_Z M M' → K (.inl (some (cb_i (vq_inf (va M P n h nb) k)))) M'
  | _ => False
def pt_X9_infected : cb_PT := cb_wm 1 sp_X9_infected
theorem rc_X9_infected : cb_rc cb_tb RX9 pt_X9_infected := cb_wm_rc
def md_X9_infected : cb_D := (RX9, cX9_infected, 4, (some .int), (1, 6, 8, 159), [
  (0, .iload_n 1, 1, 0, 1, 0, 0),
  (1, .invokestatic 220, 3, 0, 0, 0, 0),
  (4, .aload_n 0, 1, 0, 0, 0, 0),
  (5, .invokevirtual 162, 3, 0, 1, 0, 0),
  (8, .pop, 1, 0, 0, 0, 0),
  (9, .iconst 0, 1, 0, 0, 0, 0),
  (10, .istore_n 2, 1, 0, 2, 0, 0),
  (11, .iconst 0, 1, 0, 0, 0, 0),
  (12, .istore_n 3, 1, 0, 3, 0, 0),
  (13, .iload_n 3, 1, 0, 3, 0, 0),
  (14, .aload_n 0, 1, 0, 0, 0, 0),
  (15, .getfield 30, 3, 0, 9, 4, 362),
  (18, .getfield 114, 3, 0, 4, 1, 72),
  (21, .if_icmp .ge 27, 3, 0, 48, 0, 0),
  (24, .aload_n 0, 1, 0, 0, 0, 0),
  (25, .getfield 79, 3, 0, 9, 12, 370),
  (28, .iload_n 3, 1, 0, 3, 0, 0),
  (29, .iload_n 1, 1, 0, 1, 0, 0),
  (30, .invokevirtual 292, 3, 0, 2, 0, 0),
  (33, .ifCond .eq 9, 3, 0, 42, 0, 0),
  (36, .iload_n 2, 1, 0, 2, 0, 0),
  (37, .iconst 1, 1, 1, 0, 0, 0),
  (38, .iload_n 3, 1, 0, 3, 0, 0),
  (39, .ishl, 1, 0, 0, 0, 0),
  (40, .ior, 1, 0, 0, 0, 0),
  (41, .istore_n 2, 1, 0, 2, 0, 0),
  (42, .iinc 3 1, 3, 1, 3, 0, 0),
  (45, .goto (-32), 3, 0, 13, 0, 0),
  (48, .iload_n 2, 1, 0, 2, 0, 0),
  (49, .ireturn, 1, 0, 0, 0, 0)],
  [(1, 220, 1, 1, 6, pt_X9_needDaysOn), (0, 162, 1, 0, 0, pt_X9_asTheyHang), (0, 292, 3, 0, 0, pt_X5_isExplainedBy)], [])
set_option maxRecDepth 100000 in
theorem vd_X9_infected : md_X9_infected.cd.all (cb_vE md_X9_infected) = true := by decide +kernel
theorem wd_X9_infected : cb_wd yX9_infected md_X9_infected := ⟨cb_tw (i := 1152) (by decide +kernel), cb_tw (i := 1) (by decide +kernel), by decide, by decide⟩
theorem cs_X9_infected : ∀ X, cb_Bs md_X9_infected X → ∀ g ∈ md_X9_infected.ga, cb_CS cb_tb md_X9_infected X g := fun X B => List.forall_mem_cons.mpr ⟨cb_csS B ok_X9_needDaysOn wd_X9_needDaysOn (cb_tw (i := 937) (by decide +kernel)) (cb_tw (i := 938) (by decide +kernel)) ⟨by decide, by decide⟩ (by decide +kernel), List.forall_mem_cons.mpr ⟨cb_csV B ok_X9_asTheyHang wd_X9_asTheyHang (cb_tw (i := 420) (by decide +kernel)) (cb_tw (i := 422) (by decide +kernel)) (cb_tp (i := 1) (by decide +kernel)) rc_X9_asTheyHang ⟨by decide, by decide⟩ (by decide +kernel), List.forall_mem_cons.mpr ⟨cb_csV B ok_X5_isExplainedBy wd_X5_isExplainedBy (cb_tw (i := 1153) (by decide +kernel)) (cb_tw (i := 1154) (by decide +kernel)) (cb_tw (i := 1155) (by decide +kernel)) rc_X5_isExplainedBy ⟨by decide, by decide⟩ (by decide +kernel), fun _ h => nomatch h⟩⟩⟩
theorem ok_X9_infected : cb_MOK cb_tb yX9_infected md_X9_infected pt_X9_infected := by
  refine cb_okw0 ⟨plainFor_of_name (by decide), rfl⟩ (by decide) cs_X9_infected (by decide) (fun X n0 f r M hr h => ?_)
  match r, hr, h with
  | [.inl N], hr, h =>
    obtain ⟨P, n, hh, nb, hI, h⟩ := h
    obtain ⟨hP, hS, hH, -⟩ := id hI
    have hn8 := hS.2.2.1
    refine cb_run cb_tb_ok vd_X9_infected (cuts := [13]) 90 ?_
    refine And.intro h.1 (fun k h1 h2 hN => ?_)
    have h := h.2 k h1 h2 hN
    refine And.intro (cb_on rfl) ⟨P, n, ⟨hP, hS⟩, fun M1 m hK => ?_⟩
    obtain ⟨g, hg⟩ : ∃ g : Nat → Bool, g = fun i => (List.range 201).any (vq_exp (va M P n hh nb) i k) := ⟨_, rfl⟩
    have loop : ∀ j, j ≤ n → ∀ (y x : Int32) (M2 : cb_M), y = nI j → x = wm_mask g j → cb_fr fr_T M1 M2 → wk_Q M2 P n → wt_c M2 P n = wt_c M1 P n → wt_u M2 n = wt_u M1 n → (∀ i, i < n → cb_gI M2 26 0 i = cb_gI M 7 P i) → cb_Gd cb_tb md_X9_infected X 13 [some (cb_r 0 0), some (cb_i (N)), some (cb_i (x)), some (cb_i (y))] [] (cb_aS n0, f) M2 1 6 := by
      refine cb_up (fun j => ∀ (y x : Int32) (M2 : cb_M), y = nI j → x = wm_mask g j → cb_fr fr_T M1 M2 → wk_Q M2 P n → wt_c M2 P n = wt_c M1 P n → wt_u M2 n = wt_u M1 n → (∀ i, i < n → cb_gI M2 26 0 i = cb_gI M 7 P i) → cb_Gd cb_tb md_X9_infected X 13 [some (cb_r 0 0), some (cb_i (N)), some (cb_i (x)), some (cb_i (y))] [] (cb_aS n0, f) M2 1 6) ?_ ?_
      · intro y x M2 hy hx hF2 hQ hc hu hrt
        have hZ := (hK.1.mono fr_T_Z).trans (hF2.fx fr_T_Z)
        refine cb_run cb_tb_ok vd_X9_infected (cuts := [13]) 90 ?_
        refine Exists.intro (some P) (And.intro ((hZ.2.1 0 0 4 (by decide)).trans hP) (cb_av.of (cb_aPP hS.1 rfl) (cb_lout hy ((hZ.1 3 P 1 rfl).trans hS.2.1) (And.intro trivial (cb_eqK (h M2 hZ) ?_)))))
        unfold vq_inf
        rw [← hg]
        exact hx
      · intro j hj ih y x M2 hy hx hF2 hQ hc hu hrt
        have hZ := (hK.1.mono fr_T_Z).trans (hF2.fx fr_T_Z)
        refine cb_run cb_tb_ok vd_X9_infected (cuts := [13]) 90 ?_
        refine Exists.intro (some P) (And.intro ((hZ.2.1 0 0 4 (by decide)).trans hP) (cb_av.of (cb_aPP hS.1 rfl) (cb_lin hy ((hZ.1 3 P 1 rfl).trans hS.2.1) hj (by omega) (And.intro (cb_on rfl) ⟨P, n, j, k, ⟨hQ, hN, by omega, hy, hj, ?_⟩, fun M3 hF3 hrt3 hp3 => ?_⟩))))
        · rw [hrt j hj]
          exact (hZ.1 7 P j rfl).symm
        · have eg : (List.range 201).any (wk_exp M2 P n j k) = g j := by
            rw [hg]
            refine cb_any_cong (fun i _ => ?_)
            have e1 : wk_rt M2 P n j (nI i - 100) k = vq_rt (va M P n hh nb) j (nI i - 100) k := by
              rw [← vq_rt_k hI hK]
              unfold wk_rt
              rw [hc, hu, hF2.fn 15 P (fun _ => rfl)]
              congr 1
              unfold wb_s
              rw [hF2.1 16 0 0 rfl, hF2.fn 10 P (fun _ => rfl), hF2.fn 17 0 (fun _ => rfl)]
            unfold wk_exp vq_exp
            rw [e1, hZ.fn 7 P (fun _ => rfl), hZ.fn 22 0 (fun _ => rfl)]
            have e2 : (va M P n hh nb).rt j = cb_gI M 7 P j := wn_tr_lt hj
            rw [e2]
            congr 1
            unfold wq_book
            exact cb_all_cong (fun a ha' => by rw [show (va M P n hh nb).bk a = cb_gI M 22 0 a from wn_tr_lt (List.mem_range.mp ha')])
          have hrt' : ∀ i, i < n → cb_gI M3 26 0 i = cb_gI M 7 P i := fun i hi => by
            by_cases q : i = j
            · rw [q, hrt3, hrt j hj]
            · rw [hF3.1 26 0 i (by
                show (false || (true && Nat.beq i j)) = false
                cases hh : Nat.beq i j with
                | false => rfl
                | true => exact absurd (Nat.eq_of_beq_eq_true hh) q), hrt i hi]
          have hc' : wt_c M3 P n = wt_c M1 P n := by
            rw [wt_c_r hF3 hj, ← hc, hrt3]
            exact wn_rt_self _ _ _ (wn_tr_lt hj).symm
          have hu' := (wt_u_r hF3 n).trans hu
          have hQ' := wk_Q_r hF3 hQ hp3
          have hF' := hF2.trans (hF3.mono (fr_r_T j))
          rw [eg]
          refine cb_ifz (fun q => ?_) (fun q => ?_)
          · refine ih _ _ M3 (by rw [hy, nI_1]) ?_ hF' hQ' hc' hu' hrt'
            rw [wm_mask, q, hx]
            simp
          · refine ih _ _ M3 (by rw [hy, nI_1]) ?_ hF' hQ' hc' hu' hrt'
            rw [wm_mask, q, hx, hy]
            rfl
    exact loop 0 (Nat.zero_le _) _ _ M1 rfl rfl (cb_fr.refl M1) (wk_K_Q hS hK) rfl rfl (fun i hi => (hK.2.2.2.2.2.2.1 i (by omega)).2.2)
/-! winters, fault, count -/
def vq_wins (V : wV) (i k : Nat) (seed : Int32) (many : Nat) : Int32 := wm_sum (fun j => cb_z (wm_rgt V.w ((vq_win V (seed + nI j) k).2.2 i))) many
def sp_X9_winters : cb_Sw := fun r M K => match r with
  | [.inl x, .inl N, .inl seed, .inl many] => ∃ P n h nb, wa_I M P n h nb ∧ wg_c n x (K (.inr 0) M) fun i => wg_r 1 100 N (K (.inr 1) M) fun k => wg_r 1 60 many (K (.inr 1) M) fun j => ∀ M', cb_fx fr_Z M M' → K (.inl (some (cb_i (vq_wins (va M P n h nb) i k seed j)))) M'
  | _ => False
def pt_X9_winters : cb_PT := cb_wm 4 sp_X9_winters
theorem rc_X9_winters : cb_rc cb_tb RX9 pt_X9_winters := cb_wm_rc
def md_X9_winters : cb_D := (RX9, cX9_winters, 7, (some .int), (3, 18, 8, 142), [
  (0, .aload_n 0, 1, 0, 0, 0, 0),
  (1, .iload_n 1, 1, 0, 1, 0, 0),
  (2, .invokevirtual 132, 3, 0, 0, 0, 0),
  (5, .iload_n 2, 1, 0, 2, 0, 0),
  (6, .invokestatic 220, 3, 0, 1, 0, 0),
  (9, .iload 4, 2, 0, 4, 0, 0),
  (11, .iconst 1, 1, 1, 0, 0, 0),
  (12, .bipush 60, 2, 60, 0, 0, 0),
  (14, .invokestatic 101, 3, 0, 2, 0, 0),
  (17, .aload_n 0, 1, 0, 0, 0, 0),
  (18, .invokevirtual 162, 3, 0, 3, 0, 0),
  (21, .pop, 1, 0, 0, 0, 0),
  (22, .iconst 0, 1, 0, 0, 0, 0),
  (23, .istore 5, 2, 0, 5, 0, 0),
  (25, .iconst 0, 1, 0, 0, 0, 0),
  (26, .istore 6, 2, 0, 6, 0, 0),
  (28, .iload 6, 2, 0, 6, 0, 0),
  (30, .iload 4, 2, 0, 4, 0, 0),
  (32, .if_icmp .ge 49, 3, 0, 81, 0, 0),
  (35, .aload_n 0, 1, 0, 0, 0, 0),
  (36, .getfield 56, 3, 0, 9, 9, 367),
  (39, .invokevirtual 251, 3, 0, 4, 0, 0),
  (42, .aload_n 0, 1, 0, 0, 0, 0),
  (43, .getfield 56, 3, 0, 9, 9, 367),
  (46, .iload_n 2, 1, 0, 2, 0, 0),
  (47, .iload_n 3, 1, 0, 3, 0, 0),
  (48, .iload 6, 2, 0, 6, 0, 0),
  (50, .iadd, 1, 0, 0, 0, 0),
  (51, .invokevirtual 330, 3, 0, 5, 0, 0),
  (54, .iload 5, 2, 0, 5, 0, 0),
  (56, .aload_n 0, 1, 0, 0, 0, 0),
  (57, .getfield 56, 3, 0, 9, 9, 367),
  (60, .iload_n 1, 1, 0, 1, 0, 0),
  (61, .invokevirtual 295, 3, 0, 6, 0, 0),
  (64, .ifCond .eq 7, 3, 0, 71, 0, 0),
  (67, .iconst 1, 1, 1, 0, 0, 0),
  (68, .goto 4, 3, 0, 72, 0, 0),
  (71, .iconst 0, 1, 0, 0, 0, 0),
  (72, .iadd, 1, 0, 0, 0, 0),
  (73, .istore 5, 2, 0, 5, 0, 0),
  (75, .iinc 6 1, 3, 1, 6, 0, 0),
  (78, .goto (-50), 3, 0, 28, 0, 0),
  (81, .iload 5, 2, 0, 5, 0, 0),
  (83, .ireturn, 1, 0, 0, 0, 0)],
  [(0, 132, 2, 1, 6, pt_X9_needClock), (1, 220, 1, 1, 6, pt_X9_needDaysOn), (1, 101, 3, 1, 6, pt_X9_needWithin), (0, 162, 1, 0, 0, pt_X9_asTheyHang), (0, 251, 1, 0, 0, pt_X7_begin), (0, 330, 3, 0, 0, pt_X7_goWinter), (0, 295, 2, 0, 0, pt_X7_isRight)], [])
set_option maxRecDepth 100000 in
theorem vd_X9_winters : md_X9_winters.cd.all (cb_vE md_X9_winters) = true := by decide +kernel
theorem wd_X9_winters : cb_wd yX9_winters md_X9_winters := ⟨cb_tw (i := 1318) (by decide +kernel), cb_tw (i := 1) (by decide +kernel), by decide, by decide⟩
theorem cs_X9_winters : ∀ X, cb_Bs md_X9_winters X → ∀ g ∈ md_X9_winters.ga, cb_CS cb_tb md_X9_winters X g := fun X B => List.forall_mem_cons.mpr ⟨cb_csV B ok_X9_needClock wd_X9_needClock (cb_tw (i := 785) (by decide +kernel)) (cb_tw (i := 787) (by decide +kernel)) (cb_tp (i := 22) (by decide +kernel)) rc_X9_needClock ⟨by decide, by decide⟩ (by decide +kernel), List.forall_mem_cons.mpr ⟨cb_csS B ok_X9_needDaysOn wd_X9_needDaysOn (cb_tw (i := 937) (by decide +kernel)) (cb_tw (i := 938) (by decide +kernel)) ⟨by decide, by decide⟩ (by decide +kernel), List.forall_mem_cons.mpr ⟨cb_csS B ok_X9_needWithin wd_X9_needWithin (cb_tw (i := 548) (by decide +kernel)) (cb_tw (i := 549) (by decide +kernel)) ⟨by decide, by decide⟩ (by decide +kernel), List.forall_mem_cons.mpr ⟨cb_csV B ok_X9_asTheyHang wd_X9_asTheyHang (cb_tw (i := 420) (by decide +kernel)) (cb_tw (i := 422) (by decide +kernel)) (cb_tp (i := 1) (by decide +kernel)) rc_X9_asTheyHang ⟨by decide, by decide⟩ (by decide +kernel), List.forall_mem_cons.mpr ⟨cb_csV B ok_X7_begin wd_X7_begin (cb_tw (i := 993) (by decide +kernel)) (cb_tw (i := 454) (by decide +kernel)) (cb_tw (i := 455) (by decide +kernel)) rc_X7_begin ⟨by decide, by decide⟩ (by decide +kernel), List.forall_mem_cons.mpr ⟨cb_csV B ok_X7_goWinter wd_X7_goWinter (cb_tw (i := 1307) (by decide +kernel)) (cb_tw (i := 1308) (by decide +kernel)) (cb_tw (i := 1309) (by decide +kernel)) rc_X7_goWinter ⟨by decide, by decide⟩ (by decide +kernel), List.forall_mem_cons.mpr ⟨cb_csV B ok_X7_isRight wd_X7_isRight (cb_tw (i := 1168) (by decide +kernel)) (cb_tw (i := 469) (by decide +kernel)) (cb_tw (i := 470) (by decide +kernel)) rc_X7_isRight ⟨by decide, by decide⟩ (by decide +kernel), fun _ h => nomatch h⟩⟩⟩⟩⟩⟩⟩
theorem ok_X9_winters : cb_MOK cb_tb yX9_winters md_X9_winters pt_X9_winters := by
  refine cb_okw0 ⟨plainFor_of_name (by decide), rfl⟩ (by decide) cs_X9_winters (by decide) (fun X n0 f r M hr h => ?_)
  match r, hr, h with
  | [.inl x, .inl N, .inl seed, .inl many], hr, h =>
    obtain ⟨P, n, hh, nb, hI, h⟩ := h
    obtain ⟨hP, hS, hH, -⟩ := id hI
    have hn8 := hS.2.2.1
    refine cb_run cb_tb_ok vd_X9_winters (cuts := [28]) 90 ?_
    refine And.intro (cb_on rfl) ⟨P, n, wa_B hI, And.intro h.1 (fun i hi hx => And.intro (h.2 i hi hx).1 (fun k h1 h2 hN => wg_r_i (lo := 1) (hi := 60) (by decide) (by decide) ((h.2 i hi hx).2 k h1 h2 hN) (fun mm m1 m2 hmm h => ?_)))⟩
    have hx8 : vp_in x 8 := by rw [hx]; exact cb_in8 hi hn8 (by decide)
    have hxc : x.toNatClampNeg = i := by rw [hx]; exact nI_clamp (by omega)
    refine And.intro (cb_on rfl) ⟨P, n, ⟨hP, hS⟩, fun M1 m hK => ?_⟩
    obtain ⟨V, hV⟩ : ∃ V, V = va M P n hh nb := ⟨_, rfl⟩
    rw [← hV] at h
    have loop : ∀ d, d ≤ mm → ∀ (z sm : Int32) (M2 : cb_M), z = nI d → sm = wm_sum (fun j => cb_z (wm_rgt V.w ((vq_win V (seed + nI j) k).2.2 i))) d → cb_fr fr_t M1 M2 → cb_Gd cb_tb md_X9_winters X 28 [some (cb_r 0 0), some (cb_i (x)), some (cb_i (N)), some (cb_i (seed)), some (cb_i (many)), some (cb_i (sm)), some (cb_i (z))] [] (cb_aS n0, f) M2 3 18 := by
      refine cb_up (fun d => ∀ (z sm : Int32) (M2 : cb_M), z = nI d → sm = wm_sum (fun j => cb_z (wm_rgt V.w ((vq_win V (seed + nI j) k).2.2 i))) d → cb_fr fr_t M1 M2 → cb_Gd cb_tb md_X9_winters X 28 [some (cb_r 0 0), some (cb_i (x)), some (cb_i (N)), some (cb_i (seed)), some (cb_i (many)), some (cb_i (sm)), some (cb_i (z))] [] (cb_aS n0, f) M2 3 18) ?_ ?_
      · intro z sm M2 hz hsm hF2
        refine cb_run cb_tb_ok vd_X9_winters (cuts := [28]) 90 ?_
        exact cb_lout hz hmm (And.intro trivial (cb_eqK (h M2 ((hK.1.mono fr_T_Z).trans (hF2.fx fr_t_Z))) hsm))
      · intro d hd ih z sm M2 hz hsm hF2
        subst hz
        refine cb_run cb_tb_ok vd_X9_winters (cuts := [28]) 90 ?_
        refine cb_lin rfl hmm hd (by omega) (And.intro (cb_on rfl) ⟨P, n, ⟨wk_T_fr hF2 hK.2.1.1, (hF2.ref 25 0 1).trans hK.2.2.2.1⟩, fun M3 hF3 hs3 hp3 => ?_⟩)
        have hF3' := hF2.trans hF3
        have hs3 : wt_s M3 n = wt_s M1 n := by rw [hs3, wb_s_fr hF2, wb_s_k hK, hK.2.2.2.2.2.1]
        refine And.intro (cb_on rfl) ⟨P, n, m, k, ⟨wk_R_fr hF3' hK.2.1, hp3, hN, by omega⟩, fun M5 hF5 hs5 hp5 => ?_⟩
        have hF6 := hF3'.trans hF5
        have hZ := (hK.1.mono fr_T_Z).trans (hF6.fx fr_t_Z)
        rw [wt_c_fr hF3', wt_u_fr hF3', hF3'.fn 15 P (fun _ => rfl), hs3, vq_win_k hI hK, ← hV] at hs5
        refine And.intro (cb_on rfl) ⟨P, ⟨(hF6.ref 25 0 0).trans hK.2.1.1.1, hS.1, hx8⟩, ?_⟩
        have e1 : wm_rgt (cb_gI M5 3 P 4) (cb_gI M5 28 0 x.toNatClampNeg) = wm_rgt V.w ((vq_win V (seed + nI d) k).2.2 i) := by
          rw [hxc, ← hs5, show (wt_s M5 n).2.2 i = cb_gI M5 28 0 i from wn_tr_lt hi, hZ.1 3 P 4 rfl, hV]
          rfl
        rw [e1]
        refine cb_ifz (fun q => ?_) (fun q => ?_)
        · refine ih _ _ M5 (nI_1 d) ?_ hF6
          rw [wm_sum, q, hsm]
          rfl
        · refine ih _ _ M5 (nI_1 d) ?_ hF6
          rw [wm_sum, q, hsm]
          rfl
    exact loop 0 (Nat.zero_le _) _ _ M1 rfl rfl (cb_fr.refl M1)
def sp_X9_fault : cb_Sw := fun r M K => match r with
  | [] => K (.inl (some (cb_i (cb_gI M 0 0 3)))) M
  | _ => False
def pt_X9_fault : cb_PT := cb_wm 0 sp_X9_fault
theorem rc_X9_fault : cb_rc cb_tb RX9 pt_X9_fault := cb_wm_rc
def md_X9_fault : cb_D := (RX9, cX9_fault, 1, (some .int), (0, 0, 0, 0), [
  (0, .aload_n 0, 1, 0, 0, 0, 0),
  (1, .getfield 24, 3, 0, 9, 3, 361),
  (4, .ireturn, 1, 0, 0, 0, 0)],
  [], [])
set_option maxRecDepth 100000 in
theorem vd_X9_fault : md_X9_fault.cd.all (cb_vE md_X9_fault) = true := by decide +kernel
theorem wd_X9_fault : cb_wd yX9_fault md_X9_fault := ⟨cb_tw (i := 415) (by decide +kernel), cb_tw (i := 1) (by decide +kernel), by decide, by decide⟩
theorem cs_X9_fault : ∀ X, cb_Bs md_X9_fault X → ∀ g ∈ md_X9_fault.ga, cb_CS cb_tb md_X9_fault X g := fun X B => fun _ h => nomatch h
theorem ok_X9_fault : cb_MOK cb_tb yX9_fault md_X9_fault pt_X9_fault := by
  refine cb_okw0 ⟨plainFor_of_name (by decide), rfl⟩ (by decide) cs_X9_fault (by decide) (fun X n0 f r M hr h => ?_)
  match r, hr, h with
  | [], hr, h =>
    refine cb_run cb_tb_ok vd_X9_fault (cuts := []) 90 ?_
    exact And.intro trivial h
def sp_X9_count : cb_Sw := fun r M K => match r with
  | [.inl x] => K (.inl (some (cb_i (if x = 0 then cb_gI M 0 0 8 else if x = 1 then cb_gI M 0 0 1 else -1)))) M
  | _ => False
def pt_X9_count : cb_PT := cb_wm 1 sp_X9_count
theorem rc_X9_count : cb_rc cb_tb RX9 pt_X9_count := cb_wm_rc
def md_X9_count : cb_D := (RX9, cX9_count, 2, (some .int), (0, 0, 0, 0), [
  (0, .iload_n 1, 1, 0, 1, 0, 0),
  (1, .lookupswitch 37 #[(0, 27), (1, 32)], 27, 0, 0, 0, 0),
  (28, .aload_n 0, 1, 0, 0, 0, 0),
  (29, .getfield 48, 3, 0, 9, 8, 366),
  (32, .ireturn, 1, 0, 0, 0, 0),
  (33, .aload_n 0, 1, 0, 0, 0, 0),
  (34, .getfield 13, 3, 0, 9, 1, 359),
  (37, .ireturn, 1, 0, 0, 0, 0),
  (38, .iconst (-1), 1, (-1), 0, 0, 0),
  (39, .ireturn, 1, 0, 0, 0, 0)],
  [], [(1, [(0, 28), (1, 33)], 38)])
set_option maxRecDepth 100000 in
theorem vd_X9_count : md_X9_count.cd.all (cb_vE md_X9_count) = true := by decide +kernel
theorem wd_X9_count : cb_wd yX9_count md_X9_count := ⟨cb_tw (i := 539) (by decide +kernel), cb_tw (i := 1) (by decide +kernel), by decide, by decide⟩
theorem cs_X9_count : ∀ X, cb_Bs md_X9_count X → ∀ g ∈ md_X9_count.ga, cb_CS cb_tb md_X9_count X g := fun X B => fun _ h => nomatch h
theorem ok_X9_count : cb_MOK cb_tb yX9_count md_X9_count pt_X9_count := by
  refine cb_okw0 ⟨plainFor_of_name (by decide), rfl⟩ (by decide) cs_X9_count (by decide) (fun X n0 f r M hr h => ?_)
  match r, hr, h with
  | [.inl x], hr, h =>
    have h : X.K (.inl (some (cb_i (if x = 0 then cb_gI M 0 0 8 else if x = 1 then cb_gI M 0 0 1 else -1)))) (cb_aS n0, f) M := h
    refine cb_run cb_tb_ok vd_X9_count (cuts := []) 90 ?_
    refine And.intro (fun q => ?_) (fun q => And.intro (fun q1 => ?_) (fun q1 => ?_))
    · rw [if_pos q] at h
      exact And.intro trivial h
    · rw [if_neg q, if_pos q1] at h
      exact And.intro trivial h
    · rw [if_neg q, if_neg q1] at h
      exact And.intro trivial h
