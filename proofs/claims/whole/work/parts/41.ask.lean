/-! ===== better, hung ===== -/
def vq_bn (V : wV) (k a g : Nat) : Int32 := wm_bc (vq_rts V (wm_all (nI V.n)) (vq_ht V (wm_upd V.bd a (V.hb g)) (wm_upd V.pl a (V.hp g)) k))
def vq_better (V : wV) (k : Nat) : Int32 × Int32 := wb_out (vq_bn V k) V.h (wm_bc (vq_rts V (wm_all (nI V.n)) (vq_on V k)), -1) V.n
theorem wb_in_cong {f g : Nat → Nat → Int32} {a : Nat} {st : Int32 × Int32} : ∀ {h : Nat}, (∀ l, l < h → f a l = g a l) → wb_in f a st h = wb_in g a st h
  | 0, _ => rfl
  | h + 1, e => by rw [wb_in, wb_in, wb_in_cong (fun l hl => e l (by omega)), e h (by omega)]
theorem wb_out_cong {f g : Nat → Nat → Int32} {h : Nat} {st : Int32 × Int32} : ∀ {n : Nat}, (∀ a, a < n → ∀ l, l < h → f a l = g a l) → wb_out f h st n = wb_out g h st n
  | 0, _ => rfl
  | n + 1, e => by rw [wb_out, wb_out, wb_out_cong (fun a ha => e a (by omega)), wb_in_cong (e n (by omega))]
theorem wk_K_H {M M' : cb_M} {P n h nb m : Nat} (hH : wk_H M P h nb) (hK : wk_K M P n m M') : wk_H M' P h nb := by
  obtain ⟨h1, h2, h3, h4, h5⟩ := hH
  refine ⟨(hK.1.1 3 P 2 rfl).trans h1, h2, (hK.1.1 3 P 0 rfl).trans h3, h4, fun l hl => ?_⟩
  rw [hK.1.1 20 0 l rfl, hK.1.1 21 0 l rfl]
  exact h5 l hl
def sp_X9_better : cb_Sw := fun r M K => match r with
  | [.inl N, .inl what] => ∃ P n h nb, wa_I M P n h nb ∧ wg_r 1 100 N (K (.inr 1) M) fun k => wg_i 0 1 what (K (.inr 1) M) (∀ M', cb_fx fr_Z M M' → K (.inl (some (cb_i (wb_res what (vq_better (va M P n h nb) k))))) M')
  | _ => False
def pt_X9_better : cb_PT := cb_wm 2 sp_X9_better
theorem rc_X9_better : cb_rc cb_tb RX9 pt_X9_better := cb_wm_rc
def md_X9_better : cb_D := (RX9, cX9_better, 3, (some .int), (2, 12, 8, 160), [
  (0, .iload_n 1, 1, 0, 1, 0, 0),
  (1, .invokestatic 220, 3, 0, 0, 0, 0),
  (4, .iload_n 2, 1, 0, 2, 0, 0),
  (5, .iconst 0, 1, 0, 0, 0, 0),
  (6, .iconst 1, 1, 1, 0, 0, 0),
  (7, .invokestatic 101, 3, 0, 1, 0, 0),
  (10, .aload_n 0, 1, 0, 0, 0, 0),
  (11, .invokevirtual 162, 3, 0, 2, 0, 0),
  (14, .pop, 1, 0, 0, 0, 0),
  (15, .aload_n 0, 1, 0, 0, 0, 0),
  (16, .getfield 86, 3, 0, 9, 13, 371),
  (19, .iload_n 1, 1, 0, 1, 0, 0),
  (20, .iload_n 2, 1, 0, 2, 0, 0),
  (21, .invokevirtual 318, 3, 0, 3, 0, 0),
  (24, .ireturn, 1, 0, 0, 0, 0)],
  [(1, 220, 1, 1, 6, pt_X9_needDaysOn), (1, 101, 3, 1, 6, pt_X9_needWithin), (0, 162, 1, 0, 0, pt_X9_asTheyHang), (0, 318, 3, 0, 0, pt_X1_bestMove)], [])
set_option maxRecDepth 100000 in
theorem vd_X9_better : md_X9_better.cd.all (cb_vE md_X9_better) = true := by decide +kernel
theorem wd_X9_better : cb_wd yX9_better md_X9_better := ⟨cb_tw (i := 1255) (by decide +kernel), cb_tw (i := 1) (by decide +kernel), by decide, by decide⟩
theorem cs_X9_better : ∀ X, cb_Bs md_X9_better X → ∀ g ∈ md_X9_better.ga, cb_CS cb_tb md_X9_better X g := fun X B => List.forall_mem_cons.mpr ⟨cb_csS B ok_X9_needDaysOn wd_X9_needDaysOn (cb_tw (i := 937) (by decide +kernel)) (cb_tw (i := 938) (by decide +kernel)) ⟨by decide, by decide⟩ (by decide +kernel), List.forall_mem_cons.mpr ⟨cb_csS B ok_X9_needWithin wd_X9_needWithin (cb_tw (i := 548) (by decide +kernel)) (cb_tw (i := 549) (by decide +kernel)) ⟨by decide, by decide⟩ (by decide +kernel), List.forall_mem_cons.mpr ⟨cb_csV B ok_X9_asTheyHang wd_X9_asTheyHang (cb_tw (i := 420) (by decide +kernel)) (cb_tw (i := 422) (by decide +kernel)) (cb_tp (i := 1) (by decide +kernel)) rc_X9_asTheyHang ⟨by decide, by decide⟩ (by decide +kernel), List.forall_mem_cons.mpr ⟨cb_csV B ok_X1_bestMove wd_X1_bestMove (cb_tw (i := 1256) (by decide +kernel)) (cb_tw (i := 1257) (by decide +kernel)) (cb_tw (i := 1258) (by decide +kernel)) rc_X1_bestMove ⟨by decide, by decide⟩ (by decide +kernel), fun _ h => nomatch h⟩⟩⟩⟩
theorem ok_X9_better : cb_MOK cb_tb yX9_better md_X9_better pt_X9_better := by
  refine cb_okw0 ⟨plainFor_of_name (by decide), rfl⟩ (by decide) cs_X9_better (by decide) (fun X n0 f r M hr h => ?_)
  match r, hr, h with
  | [.inl N, .inl what], hr, h =>
    obtain ⟨P, n, hh, nb, hI, h⟩ := h
    obtain ⟨hP, hS, hH, hbn, hhb, -⟩ := id hI
    have hn8 := hS.2.2.1
    refine cb_run cb_tb_ok vd_X9_better (cuts := []) 90 ?_
    refine And.intro h.1 (fun k h1 h2 hN => And.intro (h.2 k h1 h2 hN).1 (fun w => ?_))
    have h := (h.2 k h1 h2 hN).2 w
    refine And.intro (cb_on rfl) ⟨P, n, ⟨hP, hS⟩, fun M1 m hK => And.intro (cb_on rfl) ⟨P, n, hh, nb, k, ⟨wk_K_Q hS hK, hN, by omega, wk_K_H hH hK, fun a ha => ?_⟩, fun M2 hF2 => And.intro trivial (cb_eqK (h M2 ((hK.1.mono fr_T_Z).trans (hF2.fx fr_h_Z))) ?_)⟩⟩
    · rw [hK.1.1 18 0 a rfl, hK.1.1 19 0 a rfl]
      have := hK.2.2.2.2.2.2.1 a (by omega)
      exact ⟨this.1, this.2.1⟩
    · have e : wk_mv M1 P n hh k = vq_better (va M P n hh nb) k := by
        unfold wk_mv vq_better
        rw [vq_on_k hI hK, hK.1.1 3 P 4 rfl, hK.2.2.2.2.2.2.2.1]
        refine wb_out_cong (fun a ha l hl => ?_)
        unfold wb_n vq_bn
        rw [hK.1.1 3 P 4 rfl, hK.1.1 20 0 l rfl, hK.1.1 21 0 l rfl]
        have hb2 : ∀ i, i < n → cb_gI M1 29 0 i = cb_gI M 18 0 i ∧ cb_gI M1 30 0 i = cb_gI M 19 0 i := fun i hi => ⟨(hK.2.2.2.2.2.2.1 i (by omega)).1, (hK.2.2.2.2.2.2.1 i (by omega)).2.1⟩
        rw [vq_ht_k hI hK (bd' := wm_upd (va M P n hh nb).bd a ((va M P n hh nb).hb l)) (pl' := wm_upd (va M P n hh nb).pl a ((va M P n hh nb).hp l)) (fun i hi => ?_) (fun i hi => ?_)]
        · rfl
        · unfold wm_upd
          by_cases q : i = a
          · rw [if_pos q]
            exact hhb l hl
          · rw [if_neg q, (hb2 i hi).1]
            exact hbn i hi
        · unfold wm_upd
          by_cases q : i = a
          · rw [if_pos q, if_pos q, if_pos q, if_pos q]
            exact ⟨wn_tr_lt hl, wn_tr_lt hl⟩
          · rw [if_neg q, if_neg q, if_neg q, if_neg q, (hb2 i hi).1, (hb2 i hi).2]
            exact ⟨wn_tr_lt hi, wn_tr_lt hi⟩
      rw [e]
def vy_bd (V : wV) (L : List Nat) (w : Nat) : wm_F := wh_f V.hb L (wy_e V.h w L) V.bd L.length
def vy_pl (V : wV) (L : List Nat) (w : Nat) : wm_F := wh_f V.hp L (wy_e V.h w L) V.pl L.length
def vy_wt (V : wV) (L : List Nat) (w : Nat) : Int32 := wq_mw (vy_bd V L w) V.wt V.n V.nb
def vy_ok (V : wV) (L : List Nat) (those : Int32) (k w : Nat) : Bool := decide (wm_wo those (vq_rts V (wm_all (nI V.n)) (vq_ht V (vy_bd V L w) (vy_pl V L w) k)) = 0)
def vq_ways (V : wV) (those what : Int32) (k : Nat) : Nat → Int32 × Int32 := wy_all what (fun w => wq_dis V.h w (wq_bits those V.n).length) (vy_wt V (wq_bits those V.n)) (fun w => nI (wq_wr (wy_e V.h w (wq_bits those V.n)) (wq_bits those V.n).length)) (vy_ok V (wq_bits those V.n) those k)
def vq_hung (V : wV) (those what : Int32) (k : Nat) : Int32 := wy_res what (vq_ways V those what k (V.h ^ (wq_bits those V.n).length))
theorem wy_all_cong {what : Int32} {dis : Nat → Bool} {wt wt' wr : Nat → Int32} {ok ok' : Nat → Bool} : ∀ {T : Nat}, (∀ w, w < T → wt w = wt' w ∧ ok w = ok' w) → wy_all what dis wt wr ok T = wy_all what dis wt' wr ok' T
  | 0, _ => rfl
  | T + 1, h => by rw [wy_all, wy_all, wy_all_cong (fun w hw => h w (by omega)), (h T (by omega)).1, (h T (by omega)).2]
theorem wh_f_cong {hk hk' : wm_F} {L : List Nat} {e : Nat → Nat} {f f' : wm_F} {a : Nat} (hf : f a = f' a) : ∀ {m : Nat}, (∀ l, l < m → hk (e l) = hk' (e l)) → wh_f hk L e f m a = wh_f hk' L e f' m a
  | 0, _ => hf
  | m + 1, h => by
    show (if a = L.getD m 0 then hk (e m) else wh_f hk L e f m a) = if a = L.getD m 0 then hk' (e m) else wh_f hk' L e f' m a
    rw [h m (by omega), wh_f_cong hf (fun l hl => h l (by omega))]
theorem wq_mw_wt {bd wt wt' : wm_F} {n : Nat} (h : ∀ i, i < n → wt i = wt' i) : ∀ b, wq_mw bd wt n b = wq_mw bd wt' n b
  | 0 => rfl
  | b + 1 => by rw [wq_mw, wq_mw, wq_mw_wt h b, wm_sum_cong (fun i hi => by rw [h i hi])]
theorem wq_bc_all : ∀ n, n ≤ 8 → ∀ c, c < 2 ^ n → wm_bc (nI c) = nI (wq_bits (nI c) n).length := by decide +kernel
theorem wm_all_val : ∀ n, n ≤ 8 → wm_all (nI n) = nI (2 ^ n - 1) := by decide +kernel
def sp_X9_hung : cb_Sw := fun r M K => match r with
  | [.inl those, .inl N, .inl what] => ∃ P n h nb, wa_I M P n h nb ∧ wg_r 1 100 N (K (.inr 1) M) fun k => wg_i 0 2 what (K (.inr 1) M) (wg_i 1 (wm_all (nI n)) those (K (.inr 1) M) (wg_i 1 4 (wm_bc those) (K (.inr 1) M) (∀ M', cb_fx fr_Z M M' → K (.inl (some (cb_i (vq_hung (va M P n h nb) those what k)))) M')))
  | _ => False
def pt_X9_hung : cb_PT := cb_wm 3 sp_X9_hung
theorem rc_X9_hung : cb_rc cb_tb RX9 pt_X9_hung := cb_wm_rc
def md_X9_hung : cb_D := (RX9, cX9_hung, 4, (some .int), (4, 24, 8, 160), [
  (0, .iload_n 2, 1, 0, 2, 0, 0),
  (1, .invokestatic 220, 3, 0, 0, 0, 0),
  (4, .iload_n 3, 1, 0, 3, 0, 0),
  (5, .iconst 0, 1, 0, 0, 0, 0),
  (6, .iconst 2, 1, 2, 0, 0, 0),
  (7, .invokestatic 101, 3, 0, 1, 0, 0),
  (10, .iload_n 1, 1, 0, 1, 0, 0),
  (11, .iconst 1, 1, 1, 0, 0, 0),
  (12, .aload_n 0, 1, 0, 0, 0, 0),
  (13, .getfield 30, 3, 0, 9, 4, 362),
  (16, .invokevirtual 269, 3, 0, 2, 0, 0),
  (19, .invokestatic 101, 3, 0, 1, 0, 0),
  (22, .iload_n 1, 1, 0, 1, 0, 0),
  (23, .invokestatic 272, 3, 0, 3, 0, 0),
  (26, .iconst 1, 1, 1, 0, 0, 0),
  (27, .iconst 4, 1, 4, 0, 0, 0),
  (28, .invokestatic 101, 3, 0, 1, 0, 0),
  (31, .aload_n 0, 1, 0, 0, 0, 0),
  (32, .invokevirtual 162, 3, 0, 4, 0, 0),
  (35, .pop, 1, 0, 0, 0, 0),
  (36, .aload_n 0, 1, 0, 0, 0, 0),
  (37, .getfield 86, 3, 0, 9, 13, 371),
  (40, .iload_n 1, 1, 0, 1, 0, 0),
  (41, .iload_n 2, 1, 0, 2, 0, 0),
  (42, .iload_n 3, 1, 0, 3, 0, 0),
  (43, .invokevirtual 275, 3, 0, 5, 0, 0),
  (46, .ireturn, 1, 0, 0, 0, 0)],
  [(1, 220, 1, 1, 6, pt_X9_needDaysOn), (1, 101, 3, 1, 6, pt_X9_needWithin), (0, 269, 1, 0, 0, pt_X4_allClocks), (1, 272, 1, 0, 0, pt_J6_bitCount_0f7a4), (0, 162, 1, 0, 0, pt_X9_asTheyHang), (0, 275, 4, 0, 0, pt_X1_waysRight)], [])
set_option maxRecDepth 100000 in
theorem vd_X9_hung : md_X9_hung.cd.all (cb_vE md_X9_hung) = true := by decide +kernel
theorem wd_X9_hung : cb_wd yX9_hung md_X9_hung := ⟨cb_tw (i := 1058) (by decide +kernel), cb_tw (i := 1) (by decide +kernel), by decide, by decide⟩
theorem cs_X9_hung : ∀ X, cb_Bs md_X9_hung X → ∀ g ∈ md_X9_hung.ga, cb_CS cb_tb md_X9_hung X g := fun X B => List.forall_mem_cons.mpr ⟨cb_csS B ok_X9_needDaysOn wd_X9_needDaysOn (cb_tw (i := 937) (by decide +kernel)) (cb_tw (i := 938) (by decide +kernel)) ⟨by decide, by decide⟩ (by decide +kernel), List.forall_mem_cons.mpr ⟨cb_csS B ok_X9_needWithin wd_X9_needWithin (cb_tw (i := 548) (by decide +kernel)) (cb_tw (i := 549) (by decide +kernel)) ⟨by decide, by decide⟩ (by decide +kernel), List.forall_mem_cons.mpr ⟨cb_csV B ok_X4_allClocks wd_X4_allClocks (cb_tw (i := 1059) (by decide +kernel)) (cb_tw (i := 432) (by decide +kernel)) (cb_tw (i := 433) (by decide +kernel)) rc_X4_allClocks ⟨by decide, by decide⟩ (by decide +kernel), List.forall_mem_cons.mpr ⟨cb_csS B ok_J6_bitCount_0f7a4 wd_J6_bitCount_0f7a4 (cb_tw (i := 1060) (by decide +kernel)) (cb_tw (i := 1037) (by decide +kernel)) ⟨by decide, by decide⟩ (by decide +kernel), List.forall_mem_cons.mpr ⟨cb_csV B ok_X9_asTheyHang wd_X9_asTheyHang (cb_tw (i := 420) (by decide +kernel)) (cb_tw (i := 422) (by decide +kernel)) (cb_tp (i := 1) (by decide +kernel)) rc_X9_asTheyHang ⟨by decide, by decide⟩ (by decide +kernel), List.forall_mem_cons.mpr ⟨cb_csV B ok_X1_waysRight wd_X1_waysRight (cb_tw (i := 1061) (by decide +kernel)) (cb_tw (i := 1062) (by decide +kernel)) (cb_tw (i := 1063) (by decide +kernel)) rc_X1_waysRight ⟨by decide, by decide⟩ (by decide +kernel), fun _ h => nomatch h⟩⟩⟩⟩⟩⟩
theorem ok_X9_hung : cb_MOK cb_tb yX9_hung md_X9_hung pt_X9_hung := by
  refine cb_okw0 ⟨plainFor_of_name (by decide), rfl⟩ (by decide) cs_X9_hung (by decide) (fun X n0 f r M hr h => ?_)
  match r, hr, h with
  | [.inl those, .inl N, .inl what], hr, h =>
    obtain ⟨P, n, hh, nb, hI, h⟩ := h
    obtain ⟨hP, hS, hH, hbn, hhb, -⟩ := id hI
    have hn8 := hS.2.2.1
    refine cb_run cb_tb_ok vd_X9_hung (cuts := []) 90 ?_
    refine And.intro h.1 (fun k h1 h2 hN => And.intro (h.2 k h1 h2 hN).1 (fun w1 => ?_))
    have h := (h.2 k h1 h2 hN).2 w1
    refine Exists.intro (some P) (And.intro hP (And.intro (cb_on (cb_aP hS.1 rfl)) ?_))
    have ea : wm_all (cb_gI M 3 P 1) = wm_all (nI n) := by rw [hS.2.1]
    have hg : wg_i 1 (wm_all (cb_gI M 3 P 1)) those (X.K (.inr 1) (cb_aS n0, none) M) (wg_i 1 4 (wm_bc those) (X.K (.inr 1) (cb_aS n0, none) M) (∀ M', cb_fx fr_Z M M' → X.K (.inl (some (cb_i (vq_hung (va M P n hh nb) those what k)))) (cb_aS n0, f) M')) := by
      rw [ea]
      exact h
    refine And.intro hg.1 (fun w2 => And.intro trivial (And.intro (hg.2 w2).1 (fun w3 => ?_)))
    have h := (hg.2 w2).2 w3
    have hpw : 1 ≤ 2 ^ n := Nat.one_le_two_pow
    have hp8 : 2 ^ n ≤ 2 ^ 8 := Nat.pow_le_pow_right (by omega) hn8
    have w2' : ¬ (those < nI 1 ∨ nI (2 ^ n - 1) < those) := by
      rw [← wm_all_val n hn8, ← ea]
      exact w2
    have hc : ∃ c, 1 ≤ c ∧ c < 2 ^ n ∧ those = nI c := by
      by_cases q : n = 0
      · subst q
        exfalso
        exact w2' (by
          by_cases z : those < nI 1
          · exact Or.inl z
          · exact Or.inr (Int32.lt_of_lt_of_le (show nI (2 ^ 0 - 1) < nI 1 by decide) (Int32.not_lt.mp z)))
      · have : 2 ≤ 2 ^ n := by
          have := Nat.pow_le_pow_right (n := 2) (by omega) (show 1 ≤ n by omega)
          omega
        obtain ⟨c, c1, c2, c3⟩ := wg_r_yes (lo := 1) (hi := 2 ^ n - 1) (by omega) w2' (by omega)
        exact ⟨c, c1, by omega, c3⟩
    obtain ⟨c, c1, c2, rfl⟩ := hc
    have hbc := wq_bc_all n hn8 c c2
    have hll : (wq_bits (nI c) n).length ≤ 8 := by
      unfold wq_bits
      have := List.length_filter_le (cb_bit (nI c)) (List.range n)
      rw [List.length_range] at this
      omega
    have w3' : ¬ (nI (wq_bits (nI c) n).length < nI 1 ∨ nI 4 < nI (wq_bits (nI c) n).length) := by
      rw [← hbc]
      exact w3
    have hL1 : 1 ≤ (wq_bits (nI c) n).length := Nat.not_lt.mp (fun w => w3' (Or.inl (nI_lt w (by decide))))
    have hL4 : (wq_bits (nI c) n).length ≤ 4 := Nat.not_lt.mp (fun w => w3' (Or.inr (nI_lt w (by omega))))
    refine And.intro (cb_on rfl) ⟨P, n, ⟨hP, hS⟩, fun M1 m hK => And.intro (cb_on rfl) ⟨P, n, hh, nb, k, ⟨(wk_K_Q hS hK).1, hN, by omega, wk_K_H hH hK, hL1, hL4⟩, fun M2 hF2 => And.intro trivial (cb_eqK (h M2 ((hK.1.mono fr_T_Z).trans (hF2.fx fr_h_Z))) ?_)⟩⟩
    unfold vq_hung
    have e : wk_ways M1 P n hh nb k (nI c) what (hh ^ (wq_bits (nI c) n).length) = vq_ways (va M P n hh nb) (nI c) what k (hh ^ (wq_bits (nI c) n).length) := by
      unfold wk_ways vq_ways
      refine wy_all_cong (fun w hw => ?_)
      have h1 : 1 ≤ hh := by
        by_cases q : hh = 0
        · subst q
          rw [Nat.zero_pow (by omega)] at hw
          omega
        · omega
      have elt : ∀ t, wq_e hh w t < hh := fun t => Nat.mod_lt _ (by omega)
      have hb2 : ∀ i, i < n → cb_gI M1 29 0 i = cb_gI M 18 0 i ∧ cb_gI M1 30 0 i = cb_gI M 19 0 i := fun i hi => ⟨(hK.2.2.2.2.2.2.1 i (by omega)).1, (hK.2.2.2.2.2.2.1 i (by omega)).2.1⟩
      have ebd : ∀ i, i < n → vy_bd (va M P n hh nb) (wq_bits (nI c) n) w i = wy_bd M1 hh (wq_bits (nI c) n) w i := fun i hi => by
        unfold vy_bd wy_bd
        refine wh_f_cong ?_ (fun l _ => ?_)
        · rw [(hb2 i hi).1]
          exact wn_tr_lt hi
        · rw [hK.1.fn 20 0 (fun _ => rfl)]
          exact wn_tr_lt (elt _)
      have epl : ∀ i, i < n → vy_pl (va M P n hh nb) (wq_bits (nI c) n) w i = wy_pl M1 hh (wq_bits (nI c) n) w i := fun i hi => by
        unfold vy_pl wy_pl
        refine wh_f_cong ?_ (fun l _ => ?_)
        · rw [(hb2 i hi).2]
          exact wn_tr_lt hi
        · rw [hK.1.fn 21 0 (fun _ => rfl)]
          exact wn_tr_lt (elt _)
      constructor
      · unfold wy_wt vy_wt
        rw [hK.1.fn 8 P (fun _ => rfl)]
        show _ = wq_mw (vy_bd (va M P n hh nb) (wq_bits (nI c) n) w) (wn_tr n (cb_gI M 8 P)) n nb
        rw [wq_mw_cong (bd' := vy_bd (va M P n hh nb) (wq_bits (nI c) n) w) (fun i hi => (ebd i hi).symm)]
        exact wq_mw_wt (fun i hi => (wn_tr_lt hi).symm) _
      · unfold wy_ok vy_ok
        rw [hK.1.1 3 P 4 rfl]
        rw [vq_ht_k hI hK (bd' := vy_bd (va M P n hh nb) (wq_bits (nI c) n) w) (pl' := vy_pl (va M P n hh nb) (wq_bits (nI c) n) w) (fun i hi => ?_) (fun i hi => ⟨ebd i hi, epl i hi⟩)]
        · rfl
        · unfold wy_bd
          refine wh_f_all (p := fun v => vp_in v nb) ?_ (fun l _ => ?_)
          · rw [(hb2 i hi).1]
            exact hbn i hi
          · rw [hK.1.1 20 0 _ rfl]
            exact hhb _ (elt _)
    rw [e]
    rfl
