/-! ===== the best move ===== -/
def wm_upd (f : wm_F) (i : Nat) (v : Int32) : wm_F := fun a => if a = i then v else f a
/-- how many are right, with one hung there -/
def wb_n (M : cb_M) (P n k a g : Nat) : Int32 := wm_bc (wq_r (cb_gI M 3 P 4) (wm_all (nI n)) (wh_try M P n (wm_upd (cb_gI M 29 0) a (cb_gI M 20 0 g)) (wm_upd (cb_gI M 30 0) a (cb_gI M 21 0 g)) k) n)
def wb_in (f : Nat → Nat → Int32) (a : Nat) (st : Int32 × Int32) : Nat → Int32 × Int32
  | 0 => st
  | g + 1 => if (wb_in f a st g).1 < f a g then (f a g, 100 * nI a + nI g) else wb_in f a st g
def wb_out (f : Nat → Nat → Int32) (h : Nat) (st : Int32 × Int32) : Nat → Int32 × Int32
  | 0 => st
  | a + 1 => wb_in f a (wb_out f h st a) h
def wb_res (what : Int32) (st : Int32 × Int32) : Int32 := if what = 1 ∧ ¬ st.2 = -1 then st.1 else st.2
def wk_mv (M : cb_M) (P n h k : Nat) : Int32 × Int32 := wb_out (wb_n M P n k) h (wm_bc (wq_r (cb_gI M 3 P 4) (cb_gI M 25 0 9) (wk_on M P n k) n), -1) n
def sp_X1_bestMove : cb_Sp := fun _ r M K => match r with
  | [.inl N, .inl what] => ∃ P n h nb k, (wk_Q M P n ∧ N = nI k ∧ k < 2 ^ 31 ∧ wk_H M P h nb ∧ ∀ a, a < n → cb_gI M 29 0 a = cb_gI M 18 0 a ∧ cb_gI M 30 0 a = cb_gI M 19 0 a) ∧ ∀ M', cb_fr fr_h M M' → K (some (cb_i (wb_res what (wk_mv M P n h k)))) M'
  | _ => False
def pt_X1_bestMove : cb_PT := cb_m 42 2 sp_X1_bestMove
theorem rc_X1_bestMove : cb_rc cb_tb RX1 pt_X1_bestMove := cb_m_rc rfl rfl
def md_X1_bestMove : cb_D := (RX1, cX1_bestMove, 9, (some .int), (0, 0, 6, 132), [
  (0, .aload_n 0, 1, 0, 0, 0, 0),
  (1, .getfield 22, 3, 0, 1, 0, 335),
  (4, .iload_n 1, 1, 0, 1, 0, 0),
  (5, .invokevirtual 111, 3, 0, 0, 0, 0),
  (8, .aload_n 0, 1, 0, 0, 0, 0),
  (9, .getfield 22, 3, 0, 1, 0, 335),
  (12, .invokevirtual 48, 3, 0, 1, 0, 0),
  (15, .invokestatic 114, 3, 0, 2, 0, 0),
  (18, .istore_n 3, 1, 0, 3, 0, 0),
  (19, .iconst (-1), 1, (-1), 0, 0, 0),
  (20, .istore 4, 2, 0, 4, 0, 0),
  (22, .aload_n 0, 1, 0, 0, 0, 0),
  (23, .getfield 22, 3, 0, 1, 0, 335),
  (26, .getfield 72, 3, 0, 7, 1, 223),
  (29, .astore 5, 2, 0, 5, 0, 0),
  (31, .iconst 0, 1, 0, 0, 0, 0),
  (32, .istore 6, 2, 0, 6, 0, 0),
  (34, .iload 6, 2, 0, 6, 0, 0),
  (36, .aload_n 0, 1, 0, 0, 0, 0),
  (37, .getfield 22, 3, 0, 1, 0, 335),
  (40, .getfield 56, 3, 0, 7, 2, 227),
  (43, .if_icmp .ge 119, 3, 0, 162, 0, 0),
  (46, .iconst 0, 1, 0, 0, 0, 0),
  (47, .istore 7, 2, 0, 7, 0, 0),
  (49, .iload 7, 2, 0, 7, 0, 0),
  (51, .aload_n 0, 1, 0, 0, 0, 0),
  (52, .getfield 22, 3, 0, 1, 0, 335),
  (55, .getfield 63, 3, 0, 7, 0, 220),
  (58, .getfield 67, 3, 0, 4, 2, 75),
  (61, .if_icmp .ge 70, 3, 0, 131, 0, 0),
  (64, .aload_n 0, 1, 0, 0, 0, 0),
  (65, .getfield 22, 3, 0, 1, 0, 335),
  (68, .iload 6, 2, 0, 6, 0, 0),
  (70, .aload 5, 2, 0, 5, 0, 0),
  (72, .getfield 76, 3, 0, 3, 4, 185),
  (75, .iload 7, 2, 0, 7, 0, 0),
  (77, .iaload, 1, 0, 0, 0, 0),
  (78, .aload 5, 2, 0, 5, 0, 0),
  (80, .getfield 81, 3, 0, 3, 5, 188),
  (83, .iload 7, 2, 0, 7, 0, 0),
  (85, .iaload, 1, 0, 0, 0, 0),
  (86, .invokevirtual 84, 3, 0, 3, 0, 0),
  (89, .aload_n 0, 1, 0, 0, 0, 0),
  (90, .iload_n 1, 1, 0, 1, 0, 0),
  (91, .invokevirtual 45, 3, 0, 4, 0, 0),
  (94, .aload_n 0, 1, 0, 0, 0, 0),
  (95, .getfield 22, 3, 0, 1, 0, 335),
  (98, .invokevirtual 48, 3, 0, 1, 0, 0),
  (101, .invokestatic 114, 3, 0, 2, 0, 0),
  (104, .istore 8, 2, 0, 8, 0, 0),
  (106, .iload 8, 2, 0, 8, 0, 0),
  (108, .iload_n 3, 1, 0, 3, 0, 0),
  (109, .if_icmp .le 16, 3, 0, 125, 0, 0),
  (112, .iload 8, 2, 0, 8, 0, 0),
  (114, .istore_n 3, 1, 0, 3, 0, 0),
  (115, .bipush 100, 2, 100, 0, 0, 0),
  (117, .iload 6, 2, 0, 6, 0, 0),
  (119, .imul, 1, 0, 0, 0, 0),
  (120, .iload 7, 2, 0, 7, 0, 0),
  (122, .iadd, 1, 0, 0, 0, 0),
  (123, .istore 4, 2, 0, 4, 0, 0),
  (125, .iinc 7 1, 3, 1, 7, 0, 0),
  (128, .goto (-79), 3, 0, 49, 0, 0),
  (131, .aload_n 0, 1, 0, 0, 0, 0),
  (132, .getfield 22, 3, 0, 1, 0, 335),
  (135, .iload 6, 2, 0, 6, 0, 0),
  (137, .aload 5, 2, 0, 5, 0, 0),
  (139, .getfield 120, 3, 0, 3, 2, 179),
  (142, .iload 6, 2, 0, 6, 0, 0),
  (144, .iaload, 1, 0, 0, 0, 0),
  (145, .aload 5, 2, 0, 5, 0, 0),
  (147, .getfield 121, 3, 0, 3, 3, 183),
  (150, .iload 6, 2, 0, 6, 0, 0),
  (152, .iaload, 1, 0, 0, 0, 0),
  (153, .invokevirtual 84, 3, 0, 3, 0, 0),
  (156, .iinc 6 1, 3, 1, 6, 0, 0),
  (159, .goto (-125), 3, 0, 34, 0, 0),
  (162, .iload_n 2, 1, 0, 2, 0, 0),
  (163, .iconst 1, 1, 1, 0, 0, 0),
  (164, .if_icmp .ne 13, 3, 0, 177, 0, 0),
  (167, .iload 4, 2, 0, 4, 0, 0),
  (169, .iconst (-1), 1, (-1), 0, 0, 0),
  (170, .if_icmp .eq 7, 3, 0, 177, 0, 0),
  (173, .iload_n 3, 1, 0, 3, 0, 0),
  (174, .goto 5, 3, 0, 179, 0, 0),
  (177, .iload 4, 2, 0, 4, 0, 0),
  (179, .ireturn, 1, 0, 0, 0, 0)],
  [(0, 111, 2, 0, 0, pt_X7_goDays), (0, 48, 1, 0, 0, pt_X7_rightOnes), (1, 114, 1, 0, 0, pt_J6_bitCount_0f7a4), (0, 84, 4, 0, 0, pt_X7_hangAt), (0, 45, 2, 0, 0, pt_X1_tryHung)], [])
set_option maxRecDepth 100000 in
theorem vd_X1_bestMove : md_X1_bestMove.cd.all (cb_vE md_X1_bestMove) = true := by decide +kernel
theorem wd_X1_bestMove : cb_wd yX1_bestMove md_X1_bestMove := ⟨cb_tw (i := 1259) (by decide +kernel), cb_tw (i := 9) (by decide +kernel), by decide, by decide⟩
theorem cs_X1_bestMove : ∀ X, cb_Bs md_X1_bestMove X → ∀ g ∈ md_X1_bestMove.ga, cb_CS cb_tb md_X1_bestMove X g := fun X B => List.forall_mem_cons.mpr ⟨cb_csV B ok_X7_goDays wd_X7_goDays (cb_tw (i := 1099) (by decide +kernel)) (cb_tw (i := 892) (by decide +kernel)) (cb_tw (i := 893) (by decide +kernel)) rc_X7_goDays ⟨by decide, by decide⟩ (by decide +kernel), List.forall_mem_cons.mpr ⟨cb_csV B ok_X7_rightOnes wd_X7_rightOnes (cb_tw (i := 1100) (by decide +kernel)) (cb_tw (i := 465) (by decide +kernel)) (cb_tw (i := 466) (by decide +kernel)) rc_X7_rightOnes ⟨by decide, by decide⟩ (by decide +kernel), List.forall_mem_cons.mpr ⟨cb_csS B ok_J6_bitCount_0f7a4 wd_J6_bitCount_0f7a4 (cb_tw (i := 1260) (by decide +kernel)) (cb_tw (i := 1037) (by decide +kernel)) ⟨by decide, by decide⟩ (by decide +kernel), List.forall_mem_cons.mpr ⟨cb_csV B ok_X7_hangAt wd_X7_hangAt (cb_tw (i := 1083) (by decide +kernel)) (cb_tw (i := 1084) (by decide +kernel)) (cb_tw (i := 1085) (by decide +kernel)) rc_X7_hangAt ⟨by decide, by decide⟩ (by decide +kernel), List.forall_mem_cons.mpr ⟨cb_csV B ok_X1_tryHung wd_X1_tryHung (cb_tw (i := 1092) (by decide +kernel)) (cb_tw (i := 1094) (by decide +kernel)) (cb_tp (i := 37) (by decide +kernel)) rc_X1_tryHung ⟨by decide, by decide⟩ (by decide +kernel), fun _ h => nomatch h⟩⟩⟩⟩⟩
theorem ok_X1_bestMove : cb_MOK cb_tb yX1_bestMove md_X1_bestMove pt_X1_bestMove := by
  refine cb_okm ⟨plainFor_of_name (by decide), rfl⟩ (by decide) cs_X1_bestMove (by decide) (fun X n0 f i r M hr ha h => ?_)
  have h0 := cb_a1 (T := 42) rfl ha
  subst h0
  match r, hr, h with
  | [.inl N, .inl what], hr, h =>
    obtain ⟨P, n, hh, nb, k, ⟨hQ, hN, hk, ⟨hhk, hh6, hnb, hnb4, hok⟩, hba⟩, h⟩ := h
    obtain ⟨hW, hph, m, hR⟩ := id hQ
    obtain ⟨⟨hP, hP2, hn, hn8⟩, hB, hq, hwt, hpn⟩ := id hW
    let F : Nat → Nat → Int32 := wb_n M P n k
    let s0 : Int32 × Int32 := (wm_bc (wq_r (cb_gI M 3 P 4) (cb_gI M 25 0 9) (wk_on M P n k) n), -1)
    let H : Nat → Int32 × Int32 := wb_out F hh s0
    have inner : ∀ a, a < n → (∀ (x : Int32) (M' : cb_M) (v w : Option cb_V), x = nI (a + 1) → cb_fr fr_h M M' → (∀ b, b < n → cb_gI M' 29 0 b = cb_gI M 29 0 b ∧ cb_gI M' 30 0 b = cb_gI M 30 0 b) → cb_Gd cb_tb md_X1_bestMove X 34 [some (cb_r 42 0), some (cb_i (N)), some (cb_i (what)), some (cb_i ((H (a + 1)).1)), some (cb_i ((H (a + 1)).2)), some (cb_r 16 0), some (cb_i (x)), v, w] [] (cb_aS n0, f) M' 0 0) →
        ∀ g, g ≤ hh → ∀ (y : Int32) (M' : cb_M) (w : Option cb_V), y = nI g → cb_fr fr_h M M' → (∀ b, b < n → ¬ b = a → cb_gI M' 29 0 b = cb_gI M 29 0 b ∧ cb_gI M' 30 0 b = cb_gI M 30 0 b) → cb_Gd cb_tb md_X1_bestMove X 49 [some (cb_r 42 0), some (cb_i (N)), some (cb_i (what)), some (cb_i ((wb_in F a (H a) g).1)), some (cb_i ((wb_in F a (H a) g).2)), some (cb_r 16 0), some (cb_i (nI a)), some (cb_i (y)), w] [] (cb_aS n0, f) M' 0 0 := by
      intro a ha' hout
      have hx8 : vp_in (nI a) 8 := cb_in8 ha' hn8 (by decide)
      have hxc : (nI a).toNatClampNeg = a := nI_clamp (by omega)
      refine cb_up (fun g => ∀ (y : Int32) (M' : cb_M) (w : Option cb_V), y = nI g → cb_fr fr_h M M' → (∀ b, b < n → ¬ b = a → cb_gI M' 29 0 b = cb_gI M 29 0 b ∧ cb_gI M' 30 0 b = cb_gI M 30 0 b) → cb_Gd cb_tb md_X1_bestMove X 49 [some (cb_r 42 0), some (cb_i (N)), some (cb_i (what)), some (cb_i ((wb_in F a (H a) g).1)), some (cb_i ((wb_in F a (H a) g).2)), some (cb_r 16 0), some (cb_i (nI a)), some (cb_i (y)), w] [] (cb_aS n0, f) M' 0 0) ?_ ?_
      · intro y M' w hy hF hb
        refine cb_run cb_tb_ok vd_X1_bestMove (cuts := [34, 49]) 90 ?_
        refine Exists.intro (some P) (And.intro ((hF.ref 25 0 0).trans hP) (cb_av.of (cb_aPP hP2 rfl) (cb_lout hy ((hF.1 3 P 2 rfl).trans hhk) (And.intro hx8 (And.intro hx8 (And.intro (cb_on rfl) (And.intro hx8 ?_)))))))
        refine hout _ _ _ _ (nI_1 a) ((hF.set _ rfl).set _ rfl) (fun b hb' => ⟨?_, ?_⟩)
        · show cb_gI (cb_sI M' 29 0 (nI a).toNatClampNeg (cb_gI M' 18 0 (nI a).toNatClampNeg)) 29 0 b = _
          rw [cb_gI_sI, hxc]
          by_cases e : b = a
          · rw [if_pos ⟨rfl, rfl, e⟩, e, hF.1 18 0 a rfl]
            exact (hba a ha').1.symm
          · rw [if_neg (fun w => e w.2.2)]
            exact (hb b hb' e).1
        · rw [cb_gI_sI, hxc]
          by_cases e : b = a
          · rw [if_pos ⟨rfl, rfl, e⟩, e]
            refine Eq.trans ?_ (hba a ha').2.symm
            exact hF.1 19 0 a rfl
          · rw [if_neg (fun w => e w.2.2)]
            exact (hb b hb' e).2
      · intro g hg ih y M' w hy hF hb
        have hy6 : vp_in y 6 := by rw [hy]; exact cb_in8 hg hh6 (by decide)
        have hyc : y.toNatClampNeg = g := by rw [hy]; exact nI_clamp (by omega)
        refine cb_run cb_tb_ok vd_X1_bestMove (cuts := [34, 49]) 90 ?_
        refine Exists.intro (some P) (And.intro ((hF.ref 25 0 0).trans hP) (cb_av.of (cb_aPP hP2 rfl) (cb_lin hy ((hF.1 3 P 2 rfl).trans hhk) hg (by omega) (And.intro hy6 (And.intro hy6 (And.intro (cb_on rfl) (And.intro hx8 ?_)))))))
        have hbd : ∀ b, b < n → cb_gI (cb_sI (cb_sI M' 29 0 (nI a).toNatClampNeg (cb_gI M' 20 0 y.toNatClampNeg)) 30 0 (nI a).toNatClampNeg (cb_gI M' 21 0 y.toNatClampNeg)) 29 0 b = wm_upd (cb_gI M 29 0) a (cb_gI M 20 0 g) b ∧ cb_gI (cb_sI (cb_sI M' 29 0 (nI a).toNatClampNeg (cb_gI M' 20 0 y.toNatClampNeg)) 30 0 (nI a).toNatClampNeg (cb_gI M' 21 0 y.toNatClampNeg)) 30 0 b = wm_upd (cb_gI M 30 0) a (cb_gI M 21 0 g) b := by
          intro b hb'
          unfold wm_upd
          constructor
          · show cb_gI (cb_sI M' 29 0 (nI a).toNatClampNeg (cb_gI M' 20 0 y.toNatClampNeg)) 29 0 b = _
            rw [cb_gI_sI, hxc, hyc]
            by_cases e : b = a
            · rw [if_pos ⟨rfl, rfl, e⟩, if_pos e, hF.1 20 0 g rfl]
            · rw [if_neg (fun w => e w.2.2), if_neg e]
              exact (hb b hb' e).1
          · rw [cb_gI_sI, hxc, hyc]
            by_cases e : b = a
            · rw [if_pos ⟨rfl, rfl, e⟩, if_pos e, hF.1 21 0 g rfl]
            · rw [if_neg (fun w => e w.2.2), if_neg e]
              exact (hb b hb' e).2
        have hF2 : cb_fr fr_h M (cb_sI (cb_sI M' 29 0 (nI a).toNatClampNeg (cb_gI M' 20 0 y.toNatClampNeg)) 30 0 (nI a).toNatClampNeg (cb_gI M' 21 0 y.toNatClampNeg)) := (hF.set _ rfl).set _ rfl
        generalize cb_sI (cb_sI M' 29 0 (nI a).toNatClampNeg (cb_gI M' 20 0 y.toNatClampNeg)) 30 0 (nI a).toNatClampNeg (cb_gI M' 21 0 y.toNatClampNeg) = M2 at hbd hF2 ⊢
        have hB2 : wk_B M2 n := fun b hb' => by
          rw [(hbd b hb').1, (hbd b hb').2]
          unfold wm_upd
          by_cases e : b = a
          · rw [if_pos e, if_pos e]
            exact hok g hg
          · rw [if_neg e, if_neg e]
            exact hB b hb'
        refine And.intro (cb_on rfl) ⟨P, n, k, ⟨wk_W_h hF2 hW hB2, hN, hk⟩, fun M4 hF4 hQ4 hu4 hs4 => And.intro (cb_on rfl) ⟨P, n, hQ4.1.1, And.intro trivial ?_⟩⟩
        have hF14 := hF2.trans (hF4.mono fr_q_h)
        have hb4 : ∀ b, b < n → ¬ b = a → cb_gI M4 29 0 b = cb_gI M 29 0 b ∧ cb_gI M4 30 0 b = cb_gI M 30 0 b := fun b hb' e => ⟨(hF4.1 29 0 b rfl).trans ((hbd b hb').1.trans (if_neg e)), (hF4.1 30 0 b rfl).trans ((hbd b hb').2.trans (if_neg e))⟩
        have ev : wm_bc (wm_rts (cb_gI M4 3 P 4) (cb_gI M4 28 0) n &&& cb_gI M4 25 0 9) = F a g := by
          rw [wq_r_s, hu4, hs4, hF14.1 3 P 4 rfl, wh_try_h hF2 hbd]
          rfl
        have nx := ih (y + 1) M4 (some (cb_i (wm_bc (wm_rts (cb_gI M4 3 P 4) (cb_gI M4 28 0) n &&& cb_gI M4 25 0 9)))) (by rw [hy, nI_1]) hF14 hb4
        refine And.intro (fun q => ?_) (fun q => ?_)
        · have q : wm_bc (wm_rts (cb_gI M4 3 P 4) (cb_gI M4 28 0) n &&& cb_gI M4 25 0 9) ≤ (wb_in F a (H a) g).1 := q
          rw [ev] at q
          have e : wb_in F a (H a) (g + 1) = wb_in F a (H a) g := if_neg (Int32.not_lt.mpr q)
          rw [e] at nx
          exact nx
        · have q : ¬ wm_bc (wm_rts (cb_gI M4 3 P 4) (cb_gI M4 28 0) n &&& cb_gI M4 25 0 9) ≤ (wb_in F a (H a) g).1 := q
          rw [ev] at q
          have e : wb_in F a (H a) (g + 1) = (F a g, 100 * nI a + nI g) := if_pos (cb_nle_lt q)
          rw [e, ← ev, ← hy] at nx
          exact nx
    have outer : ∀ a, a ≤ n → ∀ (x : Int32) (M' : cb_M) (v w : Option cb_V), x = nI a → cb_fr fr_h M M' → (∀ b, b < n → cb_gI M' 29 0 b = cb_gI M 29 0 b ∧ cb_gI M' 30 0 b = cb_gI M 30 0 b) → cb_Gd cb_tb md_X1_bestMove X 34 [some (cb_r 42 0), some (cb_i (N)), some (cb_i (what)), some (cb_i ((H a).1)), some (cb_i ((H a).2)), some (cb_r 16 0), some (cb_i (x)), v, w] [] (cb_aS n0, f) M' 0 0 := by
      refine cb_up (fun a => ∀ (x : Int32) (M' : cb_M) (v w : Option cb_V), x = nI a → cb_fr fr_h M M' → (∀ b, b < n → cb_gI M' 29 0 b = cb_gI M 29 0 b ∧ cb_gI M' 30 0 b = cb_gI M 30 0 b) → cb_Gd cb_tb md_X1_bestMove X 34 [some (cb_r 42 0), some (cb_i (N)), some (cb_i (what)), some (cb_i ((H a).1)), some (cb_i ((H a).2)), some (cb_r 16 0), some (cb_i (x)), v, w] [] (cb_aS n0, f) M' 0 0) ?_ ?_
      · intro x M' v w hx hF hb
        have hf := h M' hF
        unfold wb_res at hf
        refine cb_run cb_tb_ok vd_X1_bestMove (cuts := [34, 49]) 90 ?_
        refine cb_lout hx ((hF.1 25 0 2 rfl).trans hn) (cb_ifne (fun q => ?_) (fun q => And.intro (fun q2 => ?_) (fun q2 => ?_)))
        · exact And.intro trivial (cb_eqK hf (if_neg (fun w => q w.1)).symm)
        · exact And.intro trivial (cb_eqK hf (if_neg (fun w => w.2 q2)).symm)
        · exact And.intro trivial (cb_eqK hf (if_pos ⟨q, q2⟩).symm)
      · intro a ha' ih x M' v w hx hF hb
        subst hx
        refine cb_run cb_tb_ok vd_X1_bestMove (cuts := [34, 49]) 90 ?_
        exact cb_lin rfl ((hF.1 25 0 2 rfl).trans hn) ha' (by omega) (inner a ha' ih 0 (Nat.zero_le _) _ M' _ rfl hF (fun b hb' _ => hb b hb'))
    refine cb_run cb_tb_ok vd_X1_bestMove (cuts := [34, 49]) 90 ?_
    refine And.intro (cb_on rfl) ⟨P, n, m, k, ⟨hR, hph, hN, hk⟩, fun M2 hF2 hs2 hph2 => And.intro (cb_on rfl) ⟨P, n, wk_T_fr hF2 hW.1, And.intro trivial ?_⟩⟩
    refine Exists.intro (some 0) (And.intro ((hF2.ref 25 0 1).trans hq) ?_)
    have := outer 0 (Nat.zero_le _) 0 M2 none none rfl ((hF2.mono fr_t_q).mono fr_q_h) (fun b _ => ⟨hF2.1 29 0 b rfl, hF2.1 30 0 b rfl⟩)
    have e : wm_bc (wm_rts (cb_gI M2 3 P 4) (cb_gI M2 28 0) n &&& cb_gI M2 25 0 9) = (H 0).1 := by
      rw [wq_r_s, hs2, hF2.1 3 P 4 rfl, hF2.1 25 0 9 rfl]
      rfl
    show cb_Gd cb_tb md_X1_bestMove X 34 [some (cb_r 42 0), some (cb_i (N)), some (cb_i (what)), some (cb_i (wm_bc (wm_rts (cb_gI M2 3 P 4) (cb_gI M2 28 0) n &&& cb_gI M2 25 0 9))), some (cb_i (-1)), some (cb_r 16 0), some (cb_i (0)), none, none] [] (cb_aS n0, f) M2 0 0
    rw [e]
    exact this
