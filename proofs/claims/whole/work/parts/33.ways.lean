/-! ===== the ways to hang them ===== -/
def wh_f (hk : wm_F) (L : List Nat) (e : Nat → Nat) (f : wm_F) : Nat → wm_F
  | 0 => f
  | l + 1 => fun a => if a = L.getD l 0 then hk (e l) else wh_f hk L e f l a
theorem wh_f_ext {hk : wm_F} {L : List Nat} {e : Nat → Nat} {f g : wm_F} : ∀ {m : Nat} {a : Nat}, ((∀ l, l < m → ¬ a = L.getD l 0) → f a = g a) → wh_f hk L e f m a = wh_f hk L e g m a
  | 0, a, h => h (fun l hl => absurd hl (by omega))
  | m + 1, a, h => by
    show (if a = L.getD m 0 then hk (e m) else wh_f hk L e f m a) = if a = L.getD m 0 then hk (e m) else wh_f hk L e g m a
    by_cases q : a = L.getD m 0
    · rw [if_pos q, if_pos q]
    · rw [if_neg q, if_neg q]
      refine wh_f_ext (fun w => h (fun l hl => ?_))
      by_cases z : l = m
      · subst z
        exact q
      · exact w l (by omega)
theorem wh_f_all {hk : wm_F} {L : List Nat} {e : Nat → Nat} {f : wm_F} {p : Int32 → Prop} {a : Nat} (h0 : p (f a)) : ∀ {m : Nat}, (∀ l, l < m → p (hk (e l))) → p (wh_f hk L e f m a)
  | 0, _ => h0
  | m + 1, h => by
    show p (if a = L.getD m 0 then hk (e m) else wh_f hk L e f m a)
    by_cases q : a = L.getD m 0
    · rw [if_pos q]
      exact h m (by omega)
    · rw [if_neg q]
      exact wh_f_all h0 (fun l hl => h l (by omega))
theorem wh_f_out {hk : wm_F} {L : List Nat} {e : Nat → Nat} {f : wm_F} {a : Nat} : ∀ {m : Nat}, (∀ l, l < m → ¬ a = L.getD l 0) → wh_f hk L e f m a = f a
  | 0, _ => rfl
  | m + 1, h => by
    show (if a = L.getD m 0 then hk (e m) else wh_f hk L e f m a) = f a
    rw [if_neg (h m (by omega))]
    exact wh_f_out (fun l hl => h l (by omega))
def fr_bp (t _j : Nat) : Bool := Nat.beq t 29 || Nat.beq t 30
def sp_X1_hangChosen : cb_Sp := fun _ r M K => match r with
  | [] => ∃ (L : List Nat) (e : Nat → Nat), (cb_gR M 25 0 1 = some 0 ∧ wk_ch M L ∧ L.length ≤ 4 ∧ (∀ l, l < L.length → L.getD l 0 < 8) ∧ (∀ l, l < L.length → cb_gI M 44 0 l = nI (e l) ∧ e l < 6)) ∧ ∀ M', cb_fr fr_bp M M' → (∀ a, cb_gI M' 29 0 a = wh_f (cb_gI M 20 0) L e (cb_gI M 29 0) L.length a ∧ cb_gI M' 30 0 a = wh_f (cb_gI M 21 0) L e (cb_gI M 30 0) L.length a) → K none M'
  | _ => False
def pt_X1_hangChosen : cb_PT := cb_m 42 0 sp_X1_hangChosen
theorem rc_X1_hangChosen : cb_rc cb_tb RX1 pt_X1_hangChosen := cb_m_rc rfl rfl
def md_X1_hangChosen : cb_D := (RX1, cX1_hangChosen, 3, none, (0, 0, 1, 23), [
  (0, .aload_n 0, 1, 0, 0, 0, 0),
  (1, .getfield 22, 3, 0, 1, 0, 335),
  (4, .getfield 72, 3, 0, 7, 1, 223),
  (7, .astore_n 1, 1, 0, 1, 0, 0),
  (8, .iconst 0, 1, 0, 0, 0, 0),
  (9, .istore_n 2, 1, 0, 2, 0, 0),
  (10, .iload_n 2, 1, 0, 2, 0, 0),
  (11, .aload_n 0, 1, 0, 0, 0, 0),
  (12, .getfield 18, 3, 0, 1, 3, 338),
  (15, .if_icmp .ge 44, 3, 0, 59, 0, 0),
  (18, .aload_n 0, 1, 0, 0, 0, 0),
  (19, .getfield 22, 3, 0, 1, 0, 335),
  (22, .aload_n 0, 1, 0, 0, 0, 0),
  (23, .getfield 9, 3, 0, 1, 1, 336),
  (26, .iload_n 2, 1, 0, 2, 0, 0),
  (27, .iaload, 1, 0, 0, 0, 0),
  (28, .aload_n 1, 1, 0, 1, 0, 0),
  (29, .getfield 76, 3, 0, 3, 4, 185),
  (32, .aload_n 0, 1, 0, 0, 0, 0),
  (33, .getfield 15, 3, 0, 1, 2, 337),
  (36, .iload_n 2, 1, 0, 2, 0, 0),
  (37, .iaload, 1, 0, 0, 0, 0),
  (38, .iaload, 1, 0, 0, 0, 0),
  (39, .aload_n 1, 1, 0, 1, 0, 0),
  (40, .getfield 81, 3, 0, 3, 5, 188),
  (43, .aload_n 0, 1, 0, 0, 0, 0),
  (44, .getfield 15, 3, 0, 1, 2, 337),
  (47, .iload_n 2, 1, 0, 2, 0, 0),
  (48, .iaload, 1, 0, 0, 0, 0),
  (49, .iaload, 1, 0, 0, 0, 0),
  (50, .invokevirtual 84, 3, 0, 0, 0, 0),
  (53, .iinc 2 1, 3, 1, 2, 0, 0),
  (56, .goto (-46), 3, 0, 10, 0, 0),
  (59, .return_, 1, 0, 0, 0, 0)],
  [(0, 84, 4, 0, 0, pt_X7_hangAt)], [])
set_option maxRecDepth 100000 in
theorem vd_X1_hangChosen : md_X1_hangChosen.cd.all (cb_vE md_X1_hangChosen) = true := by decide +kernel
theorem wd_X1_hangChosen : cb_wd yX1_hangChosen md_X1_hangChosen := ⟨cb_tw (i := 1082) (by decide +kernel), cb_tw (i := 9) (by decide +kernel), by decide, by decide⟩
theorem cs_X1_hangChosen : ∀ X, cb_Bs md_X1_hangChosen X → ∀ g ∈ md_X1_hangChosen.ga, cb_CS cb_tb md_X1_hangChosen X g := fun X B => List.forall_mem_cons.mpr ⟨cb_csV B ok_X7_hangAt wd_X7_hangAt (cb_tw (i := 1083) (by decide +kernel)) (cb_tw (i := 1084) (by decide +kernel)) (cb_tw (i := 1085) (by decide +kernel)) rc_X7_hangAt ⟨by decide, by decide⟩ (by decide +kernel), fun _ h => nomatch h⟩
theorem ok_X1_hangChosen : cb_MOK cb_tb yX1_hangChosen md_X1_hangChosen pt_X1_hangChosen := by
  refine cb_okm ⟨plainFor_of_name (by decide), rfl⟩ (by decide) cs_X1_hangChosen (by decide) (fun X n0 f i r M hr ha h => ?_)
  have h0 := cb_a1 (T := 42) rfl ha
  subst h0
  match r, hr, h with
  | [], hr, h =>
    obtain ⟨L, e, ⟨hq, hc, hL4, hL8, he⟩, h⟩ := h
    have loop : ∀ j, j ≤ L.length → ∀ (x : Int32) (M' : cb_M), x = nI j → cb_fr fr_bp M M' → (∀ a, cb_gI M' 29 0 a = wh_f (cb_gI M 20 0) L e (cb_gI M 29 0) j a ∧ cb_gI M' 30 0 a = wh_f (cb_gI M 21 0) L e (cb_gI M 30 0) j a) → cb_Gd cb_tb md_X1_hangChosen X 10 [some (cb_r 42 0), some (cb_r 16 0), some (cb_i (x))] [] (cb_aS n0, f) M' 0 0 := by
      refine cb_up (fun j => ∀ (x : Int32) (M' : cb_M), x = nI j → cb_fr fr_bp M M' → (∀ a, cb_gI M' 29 0 a = wh_f (cb_gI M 20 0) L e (cb_gI M 29 0) j a ∧ cb_gI M' 30 0 a = wh_f (cb_gI M 21 0) L e (cb_gI M 30 0) j a) → cb_Gd cb_tb md_X1_hangChosen X 10 [some (cb_r 42 0), some (cb_r 16 0), some (cb_i (x))] [] (cb_aS n0, f) M' 0 0) ?_ ?_
      · intro x M' hx hF hb
        refine cb_run cb_tb_ok vd_X1_hangChosen (cuts := [10]) 90 ?_
        exact cb_lout hx ((hF.1 42 0 3 rfl).trans hc.1) (And.intro rfl (h M' hF hb))
      · intro j hj ih x M' hx hF hb
        have hx4 : vp_in x 4 := by rw [hx]; exact vp_in_nI (by omega) (by decide)
        have hxc : x.toNatClampNeg = j := by rw [hx]; exact nI_clamp (by omega)
        have e43 : cb_gI M' 43 0 x.toNatClampNeg = nI (L.getD j 0) := by rw [hxc, hF.1 43 0 j rfl]; exact hc.2 j hj
        have e44 : cb_gI M' 44 0 x.toNatClampNeg = nI (e j) := by rw [hxc, hF.1 44 0 j rfl]; exact (he j hj).1
        have v44 : vp_in (cb_gI M' 44 0 x.toNatClampNeg) 6 := by rw [e44]; exact vp_in_nI (he j hj).2 (by decide)
        have v43 : vp_in (cb_gI M' 43 0 x.toNatClampNeg) 8 := by rw [e43]; exact vp_in_nI (hL8 j hj) (by decide)
        have c43 : (cb_gI M' 43 0 x.toNatClampNeg).toNatClampNeg = L.getD j 0 := by rw [e43]; exact nI_clamp (by have := hL8 j hj; omega)
        have c44 : (cb_gI M' 44 0 x.toNatClampNeg).toNatClampNeg = e j := by rw [e44]; exact nI_clamp (by have := (he j hj).2; omega)
        refine cb_run cb_tb_ok vd_X1_hangChosen (cuts := [10]) 90 ?_
        refine cb_lin hx ((hF.1 42 0 3 rfl).trans hc.1) hj (by omega) (And.intro hx4 (And.intro hx4 (And.intro v44 (And.intro hx4 (And.intro v44 (And.intro (cb_on rfl) (And.intro v43 ?_)))))))
        refine ih _ _ (by rw [hx, nI_1]) ((hF.set _ rfl).set _ rfl) (fun a => ⟨?_, ?_⟩)
        · show cb_gI (cb_sI M' 29 0 (cb_gI M' 43 0 x.toNatClampNeg).toNatClampNeg (cb_gI M' 20 0 (cb_gI M' 44 0 x.toNatClampNeg).toNatClampNeg)) 29 0 a = if a = L.getD j 0 then cb_gI M 20 0 (e j) else _
          rw [cb_gI_sI, c43, c44, hF.1 20 0 (e j) rfl]
          by_cases q : a = L.getD j 0
          · rw [if_pos ⟨rfl, rfl, q⟩, if_pos q]
          · rw [if_neg (fun w => q w.2.2), if_neg q]
            exact (hb a).1
        · rw [cb_gI_sI, c43, c44]
          show _ = if a = L.getD j 0 then cb_gI M 21 0 (e j) else _
          by_cases q : a = L.getD j 0
          · rw [if_pos ⟨rfl, rfl, q⟩, if_pos q]
            exact hF.1 21 0 (e j) rfl
          · rw [if_neg (fun w => q w.2.2), if_neg q]
            exact (hb a).2
    refine cb_run cb_tb_ok vd_X1_hangChosen (cuts := [10]) 90 ?_
    exact Exists.intro (some 0) (And.intro hq (loop 0 (Nat.zero_le _) _ M rfl (cb_fr.refl M) (fun a => ⟨rfl, rfl⟩)))
def wq_mw (bd wt : wm_F) (n : Nat) : Nat → Int32
  | 0 => 0
  | b + 1 => wm_max (wq_mw bd wt n b) (wm_sum (fun i => if bd i = nI b then wt i else 0) n)
theorem wq_mw_cong {bd bd' wt : wm_F} {n : Nat} (h : ∀ i, i < n → bd i = bd' i) : ∀ b, wq_mw bd wt n b = wq_mw bd' wt n b
  | 0 => rfl
  | b + 1 => by rw [wq_mw, wq_mw, wq_mw_cong h b, wm_sum_cong (fun i hi => by rw [h i hi])]
def sp_X1_mostWeight : cb_Sp := fun _ r M K => match r with
  | [] => ∃ P n nb, (wk_T M P n ∧ cb_gI M 3 P 0 = nI nb ∧ nb ≤ 4) ∧ K (some (cb_i (wq_mw (cb_gI M 29 0) (cb_gI M 8 P) n nb))) M
  | _ => False
def pt_X1_mostWeight : cb_PT := cb_m 42 0 sp_X1_mostWeight
theorem rc_X1_mostWeight : cb_rc cb_tb RX1 pt_X1_mostWeight := cb_m_rc rfl rfl
def md_X1_mostWeight : cb_D := (RX1, cX1_mostWeight, 5, (some .int), (0, 0, 1, 21), [
  (0, .iconst 0, 1, 0, 0, 0, 0),
  (1, .istore_n 1, 1, 0, 1, 0, 0),
  (2, .iconst 0, 1, 0, 0, 0, 0),
  (3, .istore_n 2, 1, 0, 2, 0, 0),
  (4, .iload_n 2, 1, 0, 2, 0, 0),
  (5, .aload_n 0, 1, 0, 0, 0, 0),
  (6, .getfield 22, 3, 0, 1, 0, 335),
  (9, .getfield 63, 3, 0, 7, 0, 220),
  (12, .getfield 88, 3, 0, 4, 0, 69),
  (15, .if_icmp .ge 72, 3, 0, 87, 0, 0),
  (18, .iconst 0, 1, 0, 0, 0, 0),
  (19, .istore_n 3, 1, 0, 3, 0, 0),
  (20, .iconst 0, 1, 0, 0, 0, 0),
  (21, .istore 4, 2, 0, 4, 0, 0),
  (23, .iload 4, 2, 0, 4, 0, 0),
  (25, .aload_n 0, 1, 0, 0, 0, 0),
  (26, .getfield 22, 3, 0, 1, 0, 335),
  (29, .getfield 56, 3, 0, 7, 2, 227),
  (32, .if_icmp .ge 43, 3, 0, 75, 0, 0),
  (35, .iload_n 3, 1, 0, 3, 0, 0),
  (36, .aload_n 0, 1, 0, 0, 0, 0),
  (37, .getfield 22, 3, 0, 1, 0, 335),
  (40, .getfield 91, 3, 0, 7, 7, 245),
  (43, .iload 4, 2, 0, 4, 0, 0),
  (45, .iaload, 1, 0, 0, 0, 0),
  (46, .iload_n 2, 1, 0, 2, 0, 0),
  (47, .if_icmp .ne 19, 3, 0, 66, 0, 0),
  (50, .aload_n 0, 1, 0, 0, 0, 0),
  (51, .getfield 22, 3, 0, 1, 0, 335),
  (54, .getfield 63, 3, 0, 7, 0, 220),
  (57, .getfield 94, 3, 0, 4, 9, 102),
  (60, .iload 4, 2, 0, 4, 0, 0),
  (62, .iaload, 1, 0, 0, 0, 0),
  (63, .goto 4, 3, 0, 67, 0, 0),
  (66, .iconst 0, 1, 0, 0, 0, 0),
  (67, .iadd, 1, 0, 0, 0, 0),
  (68, .istore_n 3, 1, 0, 3, 0, 0),
  (69, .iinc 4 1, 3, 1, 4, 0, 0),
  (72, .goto (-49), 3, 0, 23, 0, 0),
  (75, .iload_n 1, 1, 0, 1, 0, 0),
  (76, .iload_n 3, 1, 0, 3, 0, 0),
  (77, .invokestatic 97, 3, 0, 0, 0, 0),
  (80, .istore_n 1, 1, 0, 1, 0, 0),
  (81, .iinc 2 1, 3, 1, 2, 0, 0),
  (84, .goto (-80), 3, 0, 4, 0, 0),
  (87, .iload_n 1, 1, 0, 1, 0, 0),
  (88, .ireturn, 1, 0, 0, 0, 0)],
  [(1, 97, 2, 0, 0, pt_J9_max_7cf53)], [])
set_option maxRecDepth 100000 in
theorem vd_X1_mostWeight : md_X1_mostWeight.cd.all (cb_vE md_X1_mostWeight) = true := by decide +kernel
theorem wd_X1_mostWeight : cb_wd yX1_mostWeight md_X1_mostWeight := ⟨cb_tw (i := 1090) (by decide +kernel), cb_tw (i := 9) (by decide +kernel), by decide, by decide⟩
theorem cs_X1_mostWeight : ∀ X, cb_Bs md_X1_mostWeight X → ∀ g ∈ md_X1_mostWeight.ga, cb_CS cb_tb md_X1_mostWeight X g := fun X B => List.forall_mem_cons.mpr ⟨cb_csS B ok_J9_max_7cf53 wd_J9_max_7cf53 (cb_tw (i := 1091) (by decide +kernel)) (cb_tw (i := 877) (by decide +kernel)) ⟨by decide, by decide⟩ (by decide +kernel), fun _ h => nomatch h⟩
theorem ok_X1_mostWeight : cb_MOK cb_tb yX1_mostWeight md_X1_mostWeight pt_X1_mostWeight := by
  refine cb_okm ⟨plainFor_of_name (by decide), rfl⟩ (by decide) cs_X1_mostWeight (by decide) (fun X n0 f i r M hr ha h => ?_)
  have h0 := cb_a1 (T := 42) rfl ha
  subst h0
  match r, hr, h with
  | [], hr, h =>
    obtain ⟨P, n, nb, ⟨⟨hP, hP2, hn, hn8⟩, hnb, hnb4⟩, h⟩ := h
    have inner : ∀ b, b < nb → (∀ (x m : Int32) (v w : Option cb_V), x = nI (b + 1) → m = wq_mw (cb_gI M 29 0) (cb_gI M 8 P) n (b + 1) → cb_Gd cb_tb md_X1_mostWeight X 4 [some (cb_r 42 0), some (cb_i (m)), some (cb_i (x)), v, w] [] (cb_aS n0, f) M 0 0) → ∀ j, j ≤ n → ∀ (y s : Int32), y = nI j → s = wm_sum (fun i => if cb_gI M 29 0 i = nI b then cb_gI M 8 P i else 0) j → cb_Gd cb_tb md_X1_mostWeight X 23 [some (cb_r 42 0), some (cb_i (wq_mw (cb_gI M 29 0) (cb_gI M 8 P) n b)), some (cb_i (nI b)), some (cb_i (s)), some (cb_i (y))] [] (cb_aS n0, f) M 0 0 := by
      intro b hb hout
      refine cb_up (fun j => ∀ (y s : Int32), y = nI j → s = wm_sum (fun i => if cb_gI M 29 0 i = nI b then cb_gI M 8 P i else 0) j → cb_Gd cb_tb md_X1_mostWeight X 23 [some (cb_r 42 0), some (cb_i (wq_mw (cb_gI M 29 0) (cb_gI M 8 P) n b)), some (cb_i (nI b)), some (cb_i (s)), some (cb_i (y))] [] (cb_aS n0, f) M 0 0) ?_ ?_
      · intro y s hy hs
        refine cb_run cb_tb_ok vd_X1_mostWeight (cuts := [4, 23]) 90 ?_
        refine cb_lout hy hn (And.intro trivial (hout _ _ _ _ (nI_1 b) ?_))
        rw [hs]
        rfl
      · intro j hj ih y s hy hs
        have hy8 : vp_in y 8 := by rw [hy]; exact cb_in8 hj hn8 (by decide)
        have hyc : y.toNatClampNeg = j := by rw [hy]; exact nI_clamp (by omega)
        refine cb_run cb_tb_ok vd_X1_mostWeight (cuts := [4, 23]) 90 ?_
        refine cb_lin hy hn hj (by omega) (And.intro hy8 (cb_ifne (fun q => ?_) (fun q => Exists.intro (some P) (And.intro hP (cb_av.of (cb_aPP hP2 rfl) (cb_av.of (cb_aPP hP2 rfl) (And.intro hy8 ?_)))))))
        · rw [hyc] at q
          refine ih _ _ (by rw [hy, nI_1]) ?_
          rw [wm_sum, if_neg q, hs]
        · rw [hyc] at q
          refine ih _ _ (by rw [hy, nI_1]) ?_
          rw [wm_sum, if_pos q, hs, hyc]
    have outer : ∀ b, b ≤ nb → ∀ (x m : Int32) (v w : Option cb_V), x = nI b → m = wq_mw (cb_gI M 29 0) (cb_gI M 8 P) n b → cb_Gd cb_tb md_X1_mostWeight X 4 [some (cb_r 42 0), some (cb_i (m)), some (cb_i (x)), v, w] [] (cb_aS n0, f) M 0 0 := by
      refine cb_up (fun b => ∀ (x m : Int32) (v w : Option cb_V), x = nI b → m = wq_mw (cb_gI M 29 0) (cb_gI M 8 P) n b → cb_Gd cb_tb md_X1_mostWeight X 4 [some (cb_r 42 0), some (cb_i (m)), some (cb_i (x)), v, w] [] (cb_aS n0, f) M 0 0) ?_ ?_
      · intro x m v w hx hm
        refine cb_run cb_tb_ok vd_X1_mostWeight (cuts := [4, 23]) 90 ?_
        exact Exists.intro (some P) (And.intro hP (cb_av.of (cb_aPP hP2 rfl) (cb_lout hx hnb (And.intro trivial (cb_eqK h hm)))))
      · intro b hb ih x m v w hx hm
        subst hx hm
        refine cb_run cb_tb_ok vd_X1_mostWeight (cuts := [4, 23]) 90 ?_
        exact Exists.intro (some P) (And.intro hP (cb_av.of (cb_aPP hP2 rfl) (cb_lin rfl hnb hb (by omega) (inner b hb ih 0 (Nat.zero_le _) _ _ rfl rfl))))
    exact cb_run cb_tb_ok vd_X1_mostWeight (cuts := [4, 23]) 40 (outer 0 (Nat.zero_le _) _ _ _ _ rfl rfl)
def wq_wr (e : Nat → Nat) : Nat → Nat
  | 0 => 0
  | l + 1 => wq_wr e l * 10 + e l + 1
def sp_X1_writtenWay : cb_Sp := fun _ r M K => match r with
  | [] => ∃ (m : Nat) (e : Nat → Nat), (cb_gI M 42 0 3 = nI m ∧ m ≤ 4 ∧ ∀ l, l < m → cb_gI M 44 0 l = nI (e l)) ∧ K (some (cb_i (nI (wq_wr e m)))) M
  | _ => False
def pt_X1_writtenWay : cb_PT := cb_m 42 0 sp_X1_writtenWay
theorem rc_X1_writtenWay : cb_rc cb_tb RX1 pt_X1_writtenWay := cb_m_rc rfl rfl
def md_X1_writtenWay : cb_D := (RX1, cX1_writtenWay, 3, (some .int), (0, 0, 0, 0), [
  (0, .iconst 0, 1, 0, 0, 0, 0),
  (1, .istore_n 1, 1, 0, 1, 0, 0),
  (2, .iconst 0, 1, 0, 0, 0, 0),
  (3, .istore_n 2, 1, 0, 2, 0, 0),
  (4, .iload_n 2, 1, 0, 2, 0, 0),
  (5, .aload_n 0, 1, 0, 0, 0, 0),
  (6, .getfield 18, 3, 0, 1, 3, 338),
  (9, .if_icmp .ge 23, 3, 0, 32, 0, 0),
  (12, .iload_n 1, 1, 0, 1, 0, 0),
  (13, .bipush 10, 2, 10, 0, 0, 0),
  (15, .imul, 1, 0, 0, 0, 0),
  (16, .aload_n 0, 1, 0, 0, 0, 0),
  (17, .getfield 15, 3, 0, 1, 2, 337),
  (20, .iload_n 2, 1, 0, 2, 0, 0),
  (21, .iaload, 1, 0, 0, 0, 0),
  (22, .iadd, 1, 0, 0, 0, 0),
  (23, .iconst 1, 1, 1, 0, 0, 0),
  (24, .iadd, 1, 0, 0, 0, 0),
  (25, .istore_n 1, 1, 0, 1, 0, 0),
  (26, .iinc 2 1, 3, 1, 2, 0, 0),
  (29, .goto (-25), 3, 0, 4, 0, 0),
  (32, .iload_n 1, 1, 0, 1, 0, 0),
  (33, .ireturn, 1, 0, 0, 0, 0)],
  [], [])
set_option maxRecDepth 100000 in
theorem vd_X1_writtenWay : md_X1_writtenWay.cd.all (cb_vE md_X1_writtenWay) = true := by decide +kernel
theorem wd_X1_writtenWay : cb_wd yX1_writtenWay md_X1_writtenWay := ⟨cb_tw (i := 1104) (by decide +kernel), cb_tw (i := 9) (by decide +kernel), by decide, by decide⟩
theorem cs_X1_writtenWay : ∀ X, cb_Bs md_X1_writtenWay X → ∀ g ∈ md_X1_writtenWay.ga, cb_CS cb_tb md_X1_writtenWay X g := fun X B => fun _ h => nomatch h
theorem ok_X1_writtenWay : cb_MOK cb_tb yX1_writtenWay md_X1_writtenWay pt_X1_writtenWay := by
  refine cb_okm ⟨plainFor_of_name (by decide), rfl⟩ (by decide) cs_X1_writtenWay (by decide) (fun X n0 f i r M hr ha h => ?_)
  have h0 := cb_a1 (T := 42) rfl ha
  subst h0
  match r, hr, h with
  | [], hr, h =>
    obtain ⟨m, e, ⟨hm, hm4, he⟩, h⟩ := h
    have loop : ∀ j, j ≤ m → ∀ (x w : Int32), x = nI j → w = nI (wq_wr e j) → cb_Gd cb_tb md_X1_writtenWay X 4 [some (cb_r 42 0), some (cb_i (w)), some (cb_i (x))] [] (cb_aS n0, f) M 0 0 := by
      refine cb_up (fun j => ∀ (x w : Int32), x = nI j → w = nI (wq_wr e j) → cb_Gd cb_tb md_X1_writtenWay X 4 [some (cb_r 42 0), some (cb_i (w)), some (cb_i (x))] [] (cb_aS n0, f) M 0 0) ?_ ?_
      · intro x w hx hw
        refine cb_run cb_tb_ok vd_X1_writtenWay (cuts := [4]) 90 ?_
        exact cb_lout hx hm (And.intro trivial (cb_eqK h hw))
      · intro j hj ih x w hx hw
        have hxc : x.toNatClampNeg = j := by rw [hx]; exact nI_clamp (by omega)
        refine cb_run cb_tb_ok vd_X1_writtenWay (cuts := [4]) 90 ?_
        have hx4 : vp_in x 4 := by rw [hx]; exact vp_in_nI (by omega) (by decide)
        refine cb_lin hx hm hj (by omega) (And.intro hx4 (ih _ _ (by rw [hx, nI_1]) ?_))
        show w * 10 + cb_gI M 44 0 x.toNatClampNeg + 1 = _
        rw [hxc, he j hj, hw, show (10 : Int32) = nI 10 from rfl, show nI (wq_wr e j) * nI 10 = nI (wq_wr e j * 10) from (Int32.ofNat_mul _ _).symm, nI_add, nI_1]
        rfl
    exact cb_run cb_tb_ok vd_X1_writtenWay (cuts := [4]) 40 (loop 0 (Nat.zero_le _) _ _ rfl rfl)
/-! all the ways -/
def wy_e (h way : Nat) (L : List Nat) : Nat → Nat := fun l => wq_e h way (L.length - 1 - l)
def wy_bd (M : cb_M) (h : Nat) (L : List Nat) (way : Nat) : wm_F := wh_f (cb_gI M 20 0) L (wy_e h way L) (cb_gI M 29 0) L.length
def wy_pl (M : cb_M) (h : Nat) (L : List Nat) (way : Nat) : wm_F := wh_f (cb_gI M 21 0) L (wy_e h way L) (cb_gI M 30 0) L.length
def wy_wt (M : cb_M) (P n nb h : Nat) (L : List Nat) (way : Nat) : Int32 := wq_mw (wy_bd M h L way) (cb_gI M 8 P) n nb
def wy_ok (M : cb_M) (P n h k : Nat) (L : List Nat) (those : Int32) (way : Nat) : Bool := decide (wm_wo those (wq_r (cb_gI M 3 P 4) (wm_all (nI n)) (wh_try M P n (wy_bd M h L way) (wy_pl M h L way) k) n) = 0)
def wy_step (what : Int32) (dis : Bool) (wt wr : Int32) (ok : Bool) (st : Int32 × Int32) : Int32 × Int32 := if (what = 0 ∧ ¬ st.2 = -1) ∨ dis = false ∨ st.1 ≤ wt then st else if ok = true then (wt, wr) else st
def wy_all (what : Int32) (dis : Nat → Bool) (wt wr : Nat → Int32) (ok : Nat → Bool) : Nat → Int32 × Int32
  | 0 => (1000000000, -1)
  | j + 1 => wy_step what (dis j) (wt j) (wr j) (ok j) (wy_all what dis wt wr ok j)
theorem wy_stop {what : Int32} {dis : Nat → Bool} {wt wr : Nat → Int32} {ok : Nat → Bool} (h0 : what = 0) {j : Nat} (h : ¬ (wy_all what dis wt wr ok j).2 = -1) : ∀ d, wy_all what dis wt wr ok (j + d) = wy_all what dis wt wr ok j
  | 0 => rfl
  | d + 1 => by
    rw [show j + (d + 1) = (j + d) + 1 by omega, wy_all, wy_stop h0 h d]
    exact if_pos (Or.inl ⟨h0, h⟩)
def wy_res (what : Int32) (st : Int32 × Int32) : Int32 := if what = 2 ∧ ¬ st.2 = -1 then st.1 else st.2
theorem wq_wr_lt {e : Nat → Nat} {m : Nat} (h : m ≤ 4) (he : ∀ l, l < m → e l < 6) : wq_wr e m < 10000 := by
  have : ∀ m, (∀ l, l < m → e l < 6) → wq_wr e m + 1 ≤ 10 ^ m := by
    intro m
    induction m with
    | zero => intro _; exact Nat.le_refl _
    | succ m ih =>
      intro q
      have := ih (fun l hl => q l (by omega))
      have := q m (by omega)
      show wq_wr e m * 10 + e m + 1 + 1 ≤ 10 ^ (m + 1)
      rw [Nat.pow_succ]
      omega
  have h1 := this m he
  have : 10 ^ m ≤ 10 ^ 4 := Nat.pow_le_pow_right (by omega) h
  omega
theorem wq_bits_lt {those : Int32} {n l : Nat} (h : l < (wq_bits those n).length) : (wq_bits those n).getD l 0 < n := by
  have : (wq_bits those n).getD l 0 ∈ wq_bits those n := by
    simp only [List.getD_eq_getElem?_getD]
    rw [List.getElem?_eq_getElem h]
    exact List.getElem_mem h
  exact List.mem_range.mp (List.mem_filter.mp this).1
/-- hooks are sound -/
def wk_H (M : cb_M) (P h nb : Nat) : Prop := cb_gI M 3 P 2 = nI h ∧ h ≤ 6 ∧ cb_gI M 3 P 0 = nI nb ∧ nb ≤ 4 ∧ ∀ l, l < h → vp_in (cb_gI M 20 0 l) 4 ∧ vp_in (cb_gI M 21 0 l) 20
def wk_ways (M : cb_M) (P n h nb k : Nat) (those what : Int32) : Nat → Int32 × Int32 := wy_all what (fun w => wq_dis h w (wq_bits those n).length) (wy_wt M P n nb h (wq_bits those n)) (fun w => nI (wq_wr (wy_e h w (wq_bits those n)) (wq_bits those n).length)) (wy_ok M P n h k (wq_bits those n) those)
def sp_X1_waysRight : cb_Sp := fun _ r M K => match r with
  | [.inl those, .inl N, .inl what] => ∃ P n h nb k, (wk_W M P n ∧ N = nI k ∧ k < 2 ^ 31 ∧ wk_H M P h nb ∧ 1 ≤ (wq_bits those n).length ∧ (wq_bits those n).length ≤ 4) ∧ ∀ M', cb_fr fr_h M M' → K (some (cb_i (wy_res what (wk_ways M P n h nb k those what (h ^ (wq_bits those n).length))))) M'
  | _ => False
theorem fr_ch_h : ∀ t j, fr_ch t j = true → fr_h t j = true := by
  intro t j h
  unfold fr_ch at h
  unfold fr_h
  simp only [Bool.or_eq_true, Bool.and_eq_true, Nat.beq_eq, Nat.ble_eq] at *
  omega
theorem fr_ho_h : ∀ t j, fr_ho t j = true → fr_h t j = true := by
  intro t j h
  unfold fr_ho at h
  unfold fr_h
  simp only [Bool.or_eq_true, Bool.and_eq_true, Nat.beq_eq, Nat.ble_eq] at *
  omega
theorem fr_bp_h : ∀ t j, fr_bp t j = true → fr_h t j = true := by
  intro t j h
  unfold fr_bp at h
  unfold fr_h
  simp only [Bool.or_eq_true, Bool.and_eq_true, Nat.beq_eq, Nat.ble_eq] at *
  omega
def pt_X1_waysRight : cb_PT := cb_m 42 3 sp_X1_waysRight
theorem rc_X1_waysRight : cb_rc cb_tb RX1 pt_X1_waysRight := cb_m_rc rfl rfl
def md_X1_waysRight : cb_D := (RX1, cX1_waysRight, 9, (some .int), (0, 0, 6, 132), [
  (0, .aload_n 0, 1, 0, 0, 0, 0),
  (1, .iload_n 1, 1, 0, 1, 0, 0),
  (2, .invokevirtual 26, 3, 0, 0, 0, 0),
  (5, .ldc 30, 2, 1000000000, 0, 0, 1070),
  (7, .istore 4, 2, 0, 4, 0, 0),
  (9, .iconst (-1), 1, (-1), 0, 0, 0),
  (10, .istore 5, 2, 0, 5, 0, 0),
  (12, .aload_n 0, 1, 0, 0, 0, 0),
  (13, .invokevirtual 31, 3, 0, 1, 0, 0),
  (16, .istore 6, 2, 0, 6, 0, 0),
  (18, .iconst 0, 1, 0, 0, 0, 0),
  (19, .istore 7, 2, 0, 7, 0, 0),
  (21, .iload 7, 2, 0, 7, 0, 0),
  (23, .iload 6, 2, 0, 6, 0, 0),
  (25, .if_icmp .ge 77, 3, 0, 102, 0, 0),
  (28, .aload_n 0, 1, 0, 0, 0, 0),
  (29, .iload 7, 2, 0, 7, 0, 0),
  (31, .invokevirtual 35, 3, 0, 2, 0, 0),
  (34, .ifCond .ne 6, 3, 0, 40, 0, 0),
  (37, .goto 59, 3, 0, 96, 0, 0),
  (40, .aload_n 0, 1, 0, 0, 0, 0),
  (41, .invokevirtual 39, 3, 0, 3, 0, 0),
  (44, .aload_n 0, 1, 0, 0, 0, 0),
  (45, .invokevirtual 42, 3, 0, 4, 0, 0),
  (48, .istore 8, 2, 0, 8, 0, 0),
  (50, .iload 8, 2, 0, 8, 0, 0),
  (52, .iload 4, 2, 0, 4, 0, 0),
  (54, .if_icmp .lt 6, 3, 0, 60, 0, 0),
  (57, .goto 39, 3, 0, 96, 0, 0),
  (60, .aload_n 0, 1, 0, 0, 0, 0),
  (61, .iload_n 2, 1, 0, 2, 0, 0),
  (62, .invokevirtual 45, 3, 0, 5, 0, 0),
  (65, .iload_n 1, 1, 0, 1, 0, 0),
  (66, .aload_n 0, 1, 0, 0, 0, 0),
  (67, .getfield 22, 3, 0, 1, 0, 335),
  (70, .invokevirtual 48, 3, 0, 6, 0, 0),
  (73, .iconst (-1), 1, (-1), 0, 0, 0),
  (74, .ixor, 1, 0, 0, 0, 0),
  (75, .iand, 1, 0, 0, 0, 0),
  (76, .ifCond .ne 20, 3, 0, 96, 0, 0),
  (79, .aload_n 0, 1, 0, 0, 0, 0),
  (80, .invokevirtual 53, 3, 0, 7, 0, 0),
  (83, .istore 5, 2, 0, 5, 0, 0),
  (85, .iload 8, 2, 0, 8, 0, 0),
  (87, .istore 4, 2, 0, 4, 0, 0),
  (89, .iload_n 3, 1, 0, 3, 0, 0),
  (90, .ifCond .ne 6, 3, 0, 96, 0, 0),
  (93, .goto 9, 3, 0, 102, 0, 0),
  (96, .iinc 7 1, 3, 1, 7, 0, 0),
  (99, .goto (-78), 3, 0, 21, 0, 0),
  (102, .iload_n 3, 1, 0, 3, 0, 0),
  (103, .iconst 2, 1, 2, 0, 0, 0),
  (104, .if_icmp .ne 14, 3, 0, 118, 0, 0),
  (107, .iload 5, 2, 0, 5, 0, 0),
  (109, .iconst (-1), 1, (-1), 0, 0, 0),
  (110, .if_icmp .eq 8, 3, 0, 118, 0, 0),
  (113, .iload 4, 2, 0, 4, 0, 0),
  (115, .goto 5, 3, 0, 120, 0, 0),
  (118, .iload 5, 2, 0, 5, 0, 0),
  (120, .ireturn, 1, 0, 0, 0, 0)],
  [(0, 26, 2, 0, 0, pt_X1_choose), (0, 31, 1, 0, 0, pt_X1_countWays), (0, 35, 2, 0, 0, pt_X1_spreadHooks), (0, 39, 1, 0, 0, pt_X1_hangChosen), (0, 42, 1, 0, 0, pt_X1_mostWeight), (0, 45, 2, 0, 0, pt_X1_tryHung), (0, 48, 1, 0, 0, pt_X7_rightOnes), (0, 53, 1, 0, 0, pt_X1_writtenWay)], [])
set_option maxRecDepth 100000 in
theorem vd_X1_waysRight : md_X1_waysRight.cd.all (cb_vE md_X1_waysRight) = true := by decide +kernel
theorem wd_X1_waysRight : cb_wd yX1_waysRight md_X1_waysRight := ⟨cb_tw (i := 1064) (by decide +kernel), cb_tw (i := 9) (by decide +kernel), by decide, by decide⟩
theorem cs_X1_waysRight : ∀ X, cb_Bs md_X1_waysRight X → ∀ g ∈ md_X1_waysRight.ga, cb_CS cb_tb md_X1_waysRight X g := fun X B => List.forall_mem_cons.mpr ⟨cb_csV B ok_X1_choose wd_X1_choose (cb_tw (i := 1065) (by decide +kernel)) (cb_tw (i := 1067) (by decide +kernel)) (cb_tp (i := 32) (by decide +kernel)) rc_X1_choose ⟨by decide, by decide⟩ (by decide +kernel), List.forall_mem_cons.mpr ⟨cb_csV B ok_X1_countWays wd_X1_countWays (cb_tw (i := 1071) (by decide +kernel)) (cb_tw (i := 1073) (by decide +kernel)) (cb_tp (i := 33) (by decide +kernel)) rc_X1_countWays ⟨by decide, by decide⟩ (by decide +kernel), List.forall_mem_cons.mpr ⟨cb_csV B ok_X1_spreadHooks wd_X1_spreadHooks (cb_tw (i := 1075) (by decide +kernel)) (cb_tw (i := 1077) (by decide +kernel)) (cb_tp (i := 34) (by decide +kernel)) rc_X1_spreadHooks ⟨by decide, by decide⟩ (by decide +kernel), List.forall_mem_cons.mpr ⟨cb_csV B ok_X1_hangChosen wd_X1_hangChosen (cb_tw (i := 1079) (by decide +kernel)) (cb_tw (i := 1081) (by decide +kernel)) (cb_tp (i := 35) (by decide +kernel)) rc_X1_hangChosen ⟨by decide, by decide⟩ (by decide +kernel), List.forall_mem_cons.mpr ⟨cb_csV B ok_X1_mostWeight wd_X1_mostWeight (cb_tw (i := 1087) (by decide +kernel)) (cb_tw (i := 1089) (by decide +kernel)) (cb_tp (i := 36) (by decide +kernel)) rc_X1_mostWeight ⟨by decide, by decide⟩ (by decide +kernel), List.forall_mem_cons.mpr ⟨cb_csV B ok_X1_tryHung wd_X1_tryHung (cb_tw (i := 1092) (by decide +kernel)) (cb_tw (i := 1094) (by decide +kernel)) (cb_tp (i := 37) (by decide +kernel)) rc_X1_tryHung ⟨by decide, by decide⟩ (by decide +kernel), List.forall_mem_cons.mpr ⟨cb_csV B ok_X7_rightOnes wd_X7_rightOnes (cb_tw (i := 1100) (by decide +kernel)) (cb_tw (i := 465) (by decide +kernel)) (cb_tw (i := 466) (by decide +kernel)) rc_X7_rightOnes ⟨by decide, by decide⟩ (by decide +kernel), List.forall_mem_cons.mpr ⟨cb_csV B ok_X1_writtenWay wd_X1_writtenWay (cb_tw (i := 1101) (by decide +kernel)) (cb_tw (i := 1103) (by decide +kernel)) (cb_tp (i := 38) (by decide +kernel)) rc_X1_writtenWay ⟨by decide, by decide⟩ (by decide +kernel), fun _ h => nomatch h⟩⟩⟩⟩⟩⟩⟩⟩
theorem ok_X1_waysRight : cb_MOK cb_tb yX1_waysRight md_X1_waysRight pt_X1_waysRight := by
  refine cb_okm ⟨plainFor_of_name (by decide), rfl⟩ (by decide) cs_X1_waysRight (by decide) (fun X n0 f i r M hr ha h => ?_)
  have h0 := cb_a1 (T := 42) rfl ha
  subst h0
  match r, hr, h with
  | [.inl those, .inl N, .inl what], hr, h =>
    obtain ⟨P, n, hh, nb, k, ⟨hW, hN, hk, ⟨hhk, hh6, hnb, hnb4, hok⟩, hL1, hL4⟩, h⟩ := h
    obtain ⟨⟨hP, hP2, hn, hn8⟩, hB, hq, hwt, hpn⟩ := id hW
    have hbl : ∀ l, l < (wq_bits those n).length → (wq_bits those n).getD l 0 < n := fun l hl => wq_bits_lt hl
    have hH0 : wk_ways M P n hh nb k those what = wy_all what (fun w => wq_dis hh w (wq_bits those n).length) (wy_wt M P n nb hh (wq_bits those n)) (fun w => nI (wq_wr (wy_e hh w (wq_bits those n)) (wq_bits those n).length)) (wy_ok M P n hh k (wq_bits those n) those) := rfl
    generalize hLd : wq_bits those n = L at *
    generalize hHd : wk_ways M P n hh nb k those what = H at *
    have hnp : hh ^ L.length < 2 ^ 31 := by
      have h1 : hh ^ L.length ≤ 6 ^ L.length := Nat.pow_le_pow_left hh6 _
      have h2 : 6 ^ L.length ≤ 6 ^ 4 := Nat.pow_le_pow_right (by omega) hL4
      omega
    have fin : ∀ (st : Int32 × Int32) (M' : cb_M) (w8 v8 : Option cb_V), H (hh ^ L.length) = st → cb_fr fr_h M M' → cb_Gd cb_tb md_X1_waysRight X 102 [some (cb_r 42 0), some (cb_i (those)), some (cb_i (N)), some (cb_i (what)), some (cb_i (st.1)), some (cb_i (st.2)), some (cb_i (nI (hh ^ L.length))), w8, v8] [] (cb_aS n0, f) M' 0 0 := by
      intro st M' w8 v8 hst hF
      have hf := h M' hF
      rw [hst] at hf
      unfold wy_res at hf
      refine cb_run cb_tb_ok vd_X1_waysRight (cuts := []) 90 ?_
      refine cb_ifne (fun q => ?_) (fun q => And.intro (fun q2 => ?_) (fun q2 => ?_))
      · exact And.intro trivial (cb_eqK hf (if_neg (fun w => q w.1)).symm)
      · exact And.intro trivial (cb_eqK hf (if_neg (fun w => w.2 q2)).symm)
      · exact And.intro trivial (cb_eqK hf (if_pos ⟨q, q2⟩).symm)
    have loop : ∀ j, j ≤ hh ^ L.length → ∀ (x : Int32) (M' : cb_M) (v : Option cb_V), x = nI j → cb_fr fr_h M M' → wk_ch M' L → (∀ a, (∀ l, l < L.length → ¬ a = L.getD l 0) → cb_gI M' 29 0 a = cb_gI M 29 0 a ∧ cb_gI M' 30 0 a = cb_gI M 30 0 a) → (what = 0 → (H j).2 = -1) → cb_Gd cb_tb md_X1_waysRight X 21 [some (cb_r 42 0), some (cb_i (those)), some (cb_i (N)), some (cb_i (what)), some (cb_i ((H j).1)), some (cb_i ((H j).2)), some (cb_i (nI (hh ^ L.length))), some (cb_i (x)), v] [] (cb_aS n0, f) M' 0 0 := by
      refine cb_up (fun j => ∀ (x : Int32) (M' : cb_M) (v : Option cb_V), x = nI j → cb_fr fr_h M M' → wk_ch M' L → (∀ a, (∀ l, l < L.length → ¬ a = L.getD l 0) → cb_gI M' 29 0 a = cb_gI M 29 0 a ∧ cb_gI M' 30 0 a = cb_gI M 30 0 a) → (what = 0 → (H j).2 = -1) → cb_Gd cb_tb md_X1_waysRight X 21 [some (cb_r 42 0), some (cb_i (those)), some (cb_i (N)), some (cb_i (what)), some (cb_i ((H j).1)), some (cb_i ((H j).2)), some (cb_i (nI (hh ^ L.length))), some (cb_i (x)), v] [] (cb_aS n0, f) M' 0 0) ?_ ?_
      · intro x M' v hx hF hc hb h0
        refine cb_run cb_tb_ok vd_X1_waysRight (cuts := [21, 102]) 90 ?_
        exact cb_lout hx rfl (fin _ M' _ _ rfl hF)
      · intro j hj ih x M' v hx hF hc hb h0
        have h1 : 1 ≤ hh := by
          by_cases q : hh = 0
          · subst q
            rw [Nat.zero_pow (by omega)] at hj
            omega
          · omega
        have elt : ∀ t, wq_e hh j t < hh := fun t => Nat.mod_lt _ (by omega)
        have stp : H (j + 1) = wy_step what (wq_dis hh j L.length) (wy_wt M P n nb hh L j) (nI (wq_wr (wy_e hh j L) L.length)) (wy_ok M P n hh k L those j) (H j) := by rw [hH0]; rfl
        have nogo : ¬ (what = 0 ∧ ¬ (H j).2 = -1) := fun w => w.2 (h0 w.1)
        refine cb_run cb_tb_ok vd_X1_waysRight (cuts := [21, 102]) 90 ?_
        refine cb_lin hx rfl hj hnp (And.intro (cb_on rfl) ⟨P, L.length, hh, j, ⟨(hF.ref 25 0 0).trans hP, hP2, hc.1, hL4, (hF.1 3 P 2 rfl).trans hhk, h1, hh6, hx, by omega⟩, fun M2 hF2 hd2 => ?_⟩)
        have hF12 := hF.trans (hF2.mono fr_ho_h)
        have hc2 : wk_ch M2 L := ⟨(hF2.1 42 0 3 rfl).trans hc.1, fun l hl => (hF2.1 43 0 l rfl).trans (hc.2 l hl)⟩
        have hb2 : ∀ a, (∀ l, l < L.length → ¬ a = L.getD l 0) → cb_gI M2 29 0 a = cb_gI M 29 0 a ∧ cb_gI M2 30 0 a = cb_gI M 30 0 a := fun a w => ⟨(hF2.1 29 0 a rfl).trans (hb a w).1, (hF2.1 30 0 a rfl).trans (hb a w).2⟩
        refine And.intro (fun q => ?_) (fun q => ?_)
        · have q : ¬ cb_z (wq_dis hh j L.length) = 0 := q
          have qd : wq_dis hh j L.length = true := by
            cases e : wq_dis hh j L.length with
            | true => rfl
            | false => rw [e] at q; exact absurd rfl q
          have hd2 := hd2 qd
          refine And.intro (cb_on rfl) ⟨L, wy_e hh j L, ⟨(hF12.ref 25 0 1).trans hq, hc2, hL4, fun l hl => Nat.lt_of_lt_of_le (hbl l hl) hn8, fun l hl => ⟨hd2 l hl, Nat.lt_of_lt_of_le (elt _) hh6⟩⟩, fun M3 hF3 hb3 => ?_⟩
          have hF13 := hF12.trans (hF3.mono fr_bp_h)
          have hc3 : wk_ch M3 L := ⟨(hF3.1 42 0 3 rfl).trans hc2.1, fun l hl => (hF3.1 43 0 l rfl).trans (hc2.2 l hl)⟩
          have hbd : ∀ a, cb_gI M3 29 0 a = wy_bd M hh L j a ∧ cb_gI M3 30 0 a = wy_pl M hh L j a := fun a => by
            refine ⟨(hb3 a).1.trans ?_, (hb3 a).2.trans ?_⟩
            · unfold wy_bd
              rw [hF12.fn 20 0 (fun _ => rfl)]
              exact wh_f_ext (fun w => (hb2 a w).1)
            · unfold wy_pl
              rw [hF12.fn 21 0 (fun _ => rfl)]
              exact wh_f_ext (fun w => (hb2 a w).2)
          have hB3 : wk_B M3 n := fun a ha' => by
            rw [(hbd a).1, (hbd a).2]
            exact ⟨wh_f_all (p := fun v => vp_in v 4) (hB a ha').1 (fun l hl => (hok _ (elt _)).1), wh_f_all (p := fun v => vp_in v 20) (hB a ha').2 (fun l hl => (hok _ (elt _)).2)⟩
          have hW3 := wk_W_h hF13 hW hB3
          have hb3' : ∀ a, (∀ l, l < L.length → ¬ a = L.getD l 0) → cb_gI M3 29 0 a = cb_gI M 29 0 a ∧ cb_gI M3 30 0 a = cb_gI M 30 0 a := fun a w => ⟨(hbd a).1.trans (wh_f_out w), (hbd a).2.trans (wh_f_out w)⟩
          have ew : wq_mw (cb_gI M3 29 0) (cb_gI M3 8 P) n nb = wy_wt M P n nb hh L j := by
            unfold wy_wt
            rw [hF13.fn 8 P (fun _ => rfl)]
            exact wq_mw_cong (fun i _ => (hbd i).1) _
          refine And.intro (cb_on rfl) ⟨P, n, nb, ⟨hW3.1, (hF13.1 3 P 0 rfl).trans hnb, hnb4⟩, And.intro (fun q2 => ?_) (fun q2 => ?_)⟩
          · have q2 : wq_mw (cb_gI M3 29 0) (cb_gI M3 8 P) n nb < (H j).1 := q2
            rw [ew] at q2
            have hne : ¬ ((what = 0 ∧ ¬ (H j).2 = -1) ∨ wq_dis hh j L.length = false ∨ (H j).1 ≤ wy_wt M P n nb hh L j) := by
              rintro (w | w | w)
              · exact nogo w
              · rw [qd] at w; cases w
              · exact cb_lt_nle q2 w
            refine And.intro (cb_on rfl) ⟨P, n, k, ⟨hW3, hN, hk⟩, fun M4 hF4 hQ4 hu4 hs4 => And.intro (cb_on rfl) ⟨P, n, hQ4.1.1, ?_⟩⟩
            have hF14 := hF13.trans (hF4.mono fr_q_h)
            have hc4 : wk_ch M4 L := ⟨(hF4.1 42 0 3 rfl).trans hc3.1, fun l hl => (hF4.1 43 0 l rfl).trans (hc3.2 l hl)⟩
            have hb4 : ∀ a, (∀ l, l < L.length → ¬ a = L.getD l 0) → cb_gI M4 29 0 a = cb_gI M 29 0 a ∧ cb_gI M4 30 0 a = cb_gI M 30 0 a := fun a w => ⟨(hF4.1 29 0 a rfl).trans (hb3' a w).1, (hF4.1 30 0 a rfl).trans (hb3' a w).2⟩
            have er : (those &&& ((wm_rts (cb_gI M4 3 P 4) (cb_gI M4 28 0) n &&& cb_gI M4 25 0 9) ^^^ (-1)) = 0) ↔ wy_ok M P n hh k L those j = true := by
              rw [wq_r_s, hu4, hs4, hF14.1 3 P 4 rfl, wh_try_h hF13 (fun i _ => hbd i)]
              unfold wy_ok
              rw [decide_eq_true_iff]
              exact Iff.rfl
            refine cb_ifne (fun q3 => ?_) (fun q3 => ?_)
            · have e : H (j + 1) = H j := stp.trans ((if_neg hne).trans (if_neg (fun w => q3 (er.mpr w))))
              have := ih (x + 1) M4 (some (cb_i (wq_mw (cb_gI M3 29 0) (cb_gI M3 8 P) n nb))) (by rw [hx, nI_1]) hF14 hc4 hb4 (fun w => by rw [e]; exact h0 w)
              rw [e] at this
              exact this
            · have e : H (j + 1) = (wy_wt M P n nb hh L j, nI (wq_wr (wy_e hh j L) L.length)) := stp.trans ((if_neg hne).trans (if_pos (er.mp q3)))
              have hd4 : ∀ l, l < L.length → cb_gI M4 44 0 l = nI (wy_e hh j L l) := fun l hl => (hF4.1 44 0 l rfl).trans ((hF3.1 44 0 l rfl).trans (hd2 l hl))
              have hwl : wq_wr (wy_e hh j L) L.length < 10000 := wq_wr_lt hL4 (fun l hl => Nat.lt_of_lt_of_le (elt _) hh6)
              have hne1 : ¬ nI (wq_wr (wy_e hh j L) L.length) = -1 := fun w => by
                have := nI_pos (n := wq_wr (wy_e hh j L) L.length) (by omega)
                rw [w] at this
                exact this (by decide)
              refine And.intro (cb_on rfl) ⟨L.length, wy_e hh j L, ⟨hc4.1, hL4, hd4⟩, cb_ifne (fun q4 => ?_) (fun q4 => ?_)⟩
              · have := ih (x + 1) M4 (some (cb_i (wq_mw (cb_gI M3 29 0) (cb_gI M3 8 P) n nb))) (by rw [hx, nI_1]) hF14 hc4 hb4 (fun w => absurd w q4)
                rw [e, ← ew] at this
                exact this
              · have hs : H (hh ^ L.length) = (wq_mw (cb_gI M3 29 0) (cb_gI M3 8 P) n nb, nI (wq_wr (wy_e hh j L) L.length)) := by
                  have e9 : ¬ (H (j + 1)).2 = -1 := by rw [e]; exact hne1
                  have := wy_stop (what := what) (dis := fun w => wq_dis hh w L.length) (wt := wy_wt M P n nb hh L) (wr := fun w => nI (wq_wr (wy_e hh w L) L.length)) (ok := wy_ok M P n hh k L those) q4 (j := j + 1) (by rw [← hH0]; exact e9) (hh ^ L.length - (j + 1))
                  rw [show j + 1 + (hh ^ L.length - (j + 1)) = hh ^ L.length by omega, ← hH0] at this
                  rw [this, e, ew]
                exact fin _ M4 _ _ hs hF14
          · have q2 : ¬ wq_mw (cb_gI M3 29 0) (cb_gI M3 8 P) n nb < (H j).1 := q2
            rw [ew] at q2
            have e : H (j + 1) = H j := stp.trans (if_pos (Or.inr (Or.inr (Int32.not_lt.mp q2))))
            have := ih (x + 1) M3 (some (cb_i (wq_mw (cb_gI M3 29 0) (cb_gI M3 8 P) n nb))) (by rw [hx, nI_1]) hF13 hc3 hb3' (fun w => by rw [e]; exact h0 w)
            rw [e] at this
            exact this
        · have q : cb_z (wq_dis hh j L.length) = 0 := Classical.not_not.mp q
          have e : H (j + 1) = H j := stp.trans (if_pos (Or.inr (Or.inl (cb_z_eq0.mp q))))
          have := ih (x + 1) M2 v (by rw [hx, nI_1]) hF12 hc2 hb2 (fun w => by rw [e]; exact h0 w)
          rw [e] at this
          exact this
    refine cb_run cb_tb_ok vd_X1_waysRight (cuts := [21]) 90 ?_
    refine And.intro (cb_on rfl) ⟨n, ⟨hn, hn8, by rw [hLd]; exact hL4⟩, fun M2 hF2 hc2 => ?_⟩
    rw [hLd] at hc2
    have hF := hF2.mono fr_ch_h
    refine And.intro (cb_on rfl) ⟨P, L.length, hh, ⟨(hF2.ref 25 0 0).trans hP, hP2, hc2.1, hL4, (hF2.1 3 P 2 rfl).trans hhk⟩, ?_⟩
    have e0 : H 0 = (1000000000, -1) := by rw [hH0]; rfl
    have := loop 0 (Nat.zero_le _) 0 M2 none rfl hF hc2 (fun a _ => ⟨hF2.1 29 0 a rfl, hF2.1 30 0 a rfl⟩) (fun _ => by rw [e0])
    rw [e0] at this
    exact this
