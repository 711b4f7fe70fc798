/-! ===== the wall as a whole, as a value ===== -/
/-- clocks, hooks, boards; kind, weight, key, rate, thick, damp, board, place, hooks' boards and places, the book; who hears more; the day, phases, how far off; right within, who is sound -/
abbrev wV : Type := Nat × Nat × Nat × wm_F × wm_F × wm_F × wm_F × wm_F × wm_F × wm_F × wm_F × wm_F × wm_F × wm_F × (Nat → Nat → Int32) × wm_S × Int32 × Int32
abbrev wV.n (V : wV) : Nat := V.1
abbrev wV.h (V : wV) : Nat := V.2.1
abbrev wV.nb (V : wV) : Nat := V.2.2.1
abbrev wV.kd (V : wV) : wm_F := V.2.2.2.1
abbrev wV.wt (V : wV) : wm_F := V.2.2.2.2.1
abbrev wV.ky (V : wV) : wm_F := V.2.2.2.2.2.1
abbrev wV.rt (V : wV) : wm_F := V.2.2.2.2.2.2.1
abbrev wV.th (V : wV) : wm_F := V.2.2.2.2.2.2.2.1
abbrev wV.dp (V : wV) : wm_F := V.2.2.2.2.2.2.2.2.1
abbrev wV.bd (V : wV) : wm_F := V.2.2.2.2.2.2.2.2.2.1
abbrev wV.pl (V : wV) : wm_F := V.2.2.2.2.2.2.2.2.2.2.1
abbrev wV.hb (V : wV) : wm_F := V.2.2.2.2.2.2.2.2.2.2.2.1
abbrev wV.hp (V : wV) : wm_F := V.2.2.2.2.2.2.2.2.2.2.2.2.1
abbrev wV.bk (V : wV) : wm_F := V.2.2.2.2.2.2.2.2.2.2.2.2.2.1
abbrev wV.hr (V : wV) : Nat → Nat → Int32 := V.2.2.2.2.2.2.2.2.2.2.2.2.2.2.1
abbrev wV.s (V : wV) : wm_S := V.2.2.2.2.2.2.2.2.2.2.2.2.2.2.2.1
abbrev wV.w (V : wV) : Int32 := V.2.2.2.2.2.2.2.2.2.2.2.2.2.2.2.2.1
abbrev wV.so (V : wV) : Int32 := V.2.2.2.2.2.2.2.2.2.2.2.2.2.2.2.2.2
/-- the wall that the class's memory holds -/
def va (M : cb_M) (P n h nb : Nat) : wV := (n, h, nb, wn_tr n (cb_gI M 9 P), wn_tr n (cb_gI M 8 P), wn_tr n (cb_gI M 11 P), wn_tr n (cb_gI M 7 P), wn_tr nb (cb_gI M 4 P), wn_tr 400 (cb_gI M 15 P), wn_tr n (cb_gI M 18 0), wn_tr n (cb_gI M 19 0), wn_tr h (cb_gI M 20 0), wn_tr h (cb_gI M 21 0), wn_tr n (cb_gI M 22 0), (fun i j => if i < n ∧ j < n then cb_gI M 14 P (i * 8 + j) else 0), wb_s M P n, cb_gI M 3 P 4, cb_gI M 3 P 3)
def vh (V : wV) (bd pl : wm_F) : wm_C := (0, V.kd, bd, pl, V.wt, V.th, V.ky, V.rt, V.hr)
def vcc (V : wV) (bd pl : wm_F) : wn_C := (V.n, V.kd, wn_tr V.n bd, V.wt, V.ky, V.rt, fun i j => if i < V.n ∧ j < V.n then wm_hear (vh V bd pl) i j else 0)
def vc (V : wV) : wn_C := vcc V V.bd V.pl
theorem wn_tr_tr (n : Nat) (f : wm_F) : wn_tr n (wn_tr n f) = wn_tr n f := wn_tr_ext fun i hi => wn_tr_lt hi
theorem wm_dmp_tr (dp : wm_F) (day : Int32) : wm_dmp (wn_tr 400 dp) day = wm_dmp dp day := by
  unfold wm_dmp
  by_cases h : 0 ≤ day ∧ day < 400
  · rw [if_pos h, if_pos h]
    obtain ⟨j, hj, -, e⟩ := cb_idx (cb_inI (n := 400) h.1 h.2 (by decide)) (by decide)
    rw [e, wn_tr_lt hj]
  · rw [if_neg h, if_neg h]
theorem wn_days_tr {c : wn_C} {u : wm_U} {dp : wm_F} {s : wm_S} : ∀ k, wn_days c u (wn_tr 400 dp) s k = wn_days c u dp s k
  | 0 => rfl
  | k + 1 => by rw [wn_days, wn_days, wn_days_tr k, wm_dmp_tr]
theorem wn_win_tr {c : wn_C} {u : wm_U} {dp : wm_F} {s : wm_S} {seed : Int32} : ∀ k, wn_win c u (wn_tr 400 dp) s seed k = wn_win c u dp s seed k
  | 0 => rfl
  | k + 1 => by rw [wn_win, wn_win, wn_win_tr k, wm_dmp_tr]
/-- the class's memory is sound -/
def wa_I (M : cb_M) (P n h nb : Nat) : Prop := cb_gR M 0 0 4 = some P ∧ wk_S M P n ∧ wk_H M P h nb ∧ (∀ i, i < n → vp_in (cb_gI M 18 0 i) nb) ∧ (∀ l, l < h → vp_in (cb_gI M 20 0 l) nb) ∧ (∃ so, so < 256 ∧ cb_gI M 3 P 3 = nI so) ∧ ∃ d, d ≤ 400 ∧ cb_gI M 16 0 0 = nI d
def fr_Z (t _j : Nat) : Bool := Nat.ble 25 t && Nat.ble t 44
theorem fr_T_Z : ∀ t j, fr_T t j = true → fr_Z t j = true := by
  intro t j h
  unfold fr_T at h
  unfold fr_Z
  simp only [Bool.and_eq_true, Nat.ble_eq] at *
  omega
theorem fr_z_Z : ∀ t j, fr_z t j = true → fr_Z t j = true := by
  intro t j h
  unfold fr_z fr_q fr_t fr_k at h
  unfold fr_Z
  simp only [Bool.or_eq_true, Bool.and_eq_true, Nat.beq_eq, Nat.ble_eq] at *
  omega
theorem fr_h_Z : ∀ t j, fr_h t j = true → fr_Z t j = true := by
  intro t j h
  unfold fr_h fr_q fr_t fr_k at h
  unfold fr_Z
  simp only [Bool.or_eq_true, Bool.and_eq_true, Nat.beq_eq, Nat.ble_eq] at *
  omega
theorem fr_y_Z : ∀ t j, fr_y t j = true → fr_Z t j = true := by
  intro t j h
  unfold fr_y fr_10 fr_q fr_t fr_k at h
  unfold fr_Z
  simp only [Bool.or_eq_true, Bool.and_eq_true, Nat.beq_eq, Nat.ble_eq] at *
  omega
theorem fr_r_Z (i : Nat) : ∀ t j, fr_r i t j = true → fr_Z t j = true := by
  intro t j h
  unfold fr_r fr_t at h
  unfold fr_Z
  simp only [Bool.or_eq_true, Bool.and_eq_true, Nat.beq_eq, Nat.ble_eq] at *
  omega
theorem fr_l_Z : ∀ t j, fr_l t j = true → fr_Z t j = true := by
  intro t j h
  unfold fr_l at h
  unfold fr_Z
  simp only [Bool.or_eq_true, Bool.and_eq_true, Nat.beq_eq, Nat.ble_eq] at *
  omega
theorem fr_t_Z : ∀ t j, fr_t t j = true → fr_Z t j = true := fun t j h => fr_T_Z t j (fr_t_T t j h)
theorem fr_q_Z : ∀ t j, fr_q t j = true → fr_Z t j = true := fun t j h => fr_z_Z t j (fr_q_z t j h)
theorem wk_K_Q {M M' : cb_M} {P n m : Nat} (hS : wk_S M P n) (h : wk_K M P n m M') : wk_Q M' P n := by
  obtain ⟨hF, hR, hp, hq, hB, -, -, -, -⟩ := h
  exact ⟨⟨hR.1, hB, hq, hR.2.2.2.2, (hF.1 3 P 1 rfl).trans hS.2.1⟩, hp, m, hR⟩
theorem va_hear {M : cb_M} {P n h nb i j : Nat} {bd pl bd' pl' : wm_F} (hi : i < n) (hj : j < n) (hb : vp_in (bd i) nb) (hnb : nb ≤ 4) (e : ∀ a, a < n → bd' a = bd a ∧ pl' a = pl a) (rt : wm_F) (ky : wm_F) : wm_hear (0, cb_gI M 9 P, bd, pl, cb_gI M 8 P, cb_gI M 4 P, ky, rt, fun i j => cb_gI M 14 P (i * 8 + j)) i j = wm_hear (vh (va M P n h nb) bd' pl') i j := by
  obtain ⟨b, hb1, -, hb2⟩ := cb_idx hb (by omega)
  have q1 : (vh (va M P n h nb) bd' pl').kd i = cb_gI M 9 P i := wn_tr_lt hi
  have q2 : (vh (va M P n h nb) bd' pl').kd j = cb_gI M 9 P j := wn_tr_lt hj
  have q3 : (vh (va M P n h nb) bd' pl').wt j = cb_gI M 8 P j := wn_tr_lt hj
  have q4 : (vh (va M P n h nb) bd' pl').th (bd i).toNatClampNeg = cb_gI M 4 P (bd i).toNatClampNeg := wn_tr_lt (by rw [hb2]; exact hb1)
  have q5 : (vh (va M P n h nb) bd' pl').hr i j = cb_gI M 14 P (i * 8 + j) := if_pos ⟨hi, hj⟩
  unfold wm_hear
  rw [show (vh (va M P n h nb) bd' pl').bd i = bd i from (e i hi).1, show (vh (va M P n h nb) bd' pl').bd j = bd j from (e j hj).1, show (vh (va M P n h nb) bd' pl').pl i = pl i from (e i hi).2, show (vh (va M P n h nb) bd' pl').pl j = pl j from (e j hj).2, q1, q2, q3, q4, q5]
theorem va_c {M : cb_M} {P n h nb : Nat} (hI : wa_I M P n h nb) : wc_c M P n = vc (va M P n h nb) := by
  obtain ⟨-, hS, hH, hb, -⟩ := hI
  unfold wc_c vc vcc
  rw [show wn_tr (va M P n h nb).n (va M P n h nb).bd = wn_tr n (cb_gI M 18 0) from wn_tr_tr _ _]
  have e : (fun i j => if i < n ∧ j < n then wm_hear (wc_h M P) i j else 0) = fun i j => if i < (va M P n h nb).n ∧ j < (va M P n h nb).n then wm_hear (vh (va M P n h nb) (va M P n h nb).bd (va M P n h nb).pl) i j else 0 := by
    funext i j
    show (if i < n ∧ j < n then _ else (0 : Int32)) = if i < n ∧ j < n then _ else 0
    by_cases q : i < n ∧ j < n
    · rw [if_pos q, if_pos q]
      exact va_hear q.1 q.2 (hb i q.1) hH.2.2.2.1 (fun a ha => ⟨wn_tr_lt ha, wn_tr_lt ha⟩) _ _
    · rw [if_neg q, if_neg q]
  rw [e]
  rfl
/-- the trial's days, from the wall -/
def vq_on (V : wV) (k : Nat) : wm_S := wn_days (vc V) (wu_all V.n) V.dp V.s k
def vq_tr (V : wV) (those : Int32) (k : Nat) : wm_S := wq_tr (vc V) V.dp V.s those 0 k
def vq_rt (V : wV) (i : Nat) (r : Int32) (k : Nat) : wm_S := wn_days (wn_rt (vc V) i r) (wu_all V.n) V.dp V.s k
def vq_al (V : wV) (i k : Nat) : Int32 := wq_al V.ky V.rt V.dp i V.s.1 (V.s.2.2 i) k
def vq_ht (V : wV) (bd pl : wm_F) (k : Nat) : wm_S := wq_tr (vcc V bd pl) V.dp V.s (wm_all (nI V.n)) 0 k
section Env
variable {M M' : cb_M} {P n h nb m : Nat}
theorem vq_on_k (hI : wa_I M P n h nb) (hK : wk_K M P n m M') (k : Nat) : wk_on M' P n k = vq_on (va M P n h nb) k := by
  obtain ⟨ec, eu⟩ := wk_K_c hK
  unfold wk_on vq_on
  rw [ec, eu, va_c hI, hK.2.2.2.2.2.1, hK.1.fn 15 P (fun _ => rfl)]
  exact (wn_days_tr k).symm
theorem wb_s_k (hK : wk_K M P n m M') : wb_s M' P n = wb_s M P n := by
  unfold wb_s
  rw [hK.1.1 16 0 0 rfl, hK.1.fn 10 P (fun _ => rfl), hK.1.fn 17 0 (fun _ => rfl)]
theorem vq_tr_k (hI : wa_I M P n h nb) (hK : wk_K M P n m M') (those : Int32) (k : Nat) : wk_try M' P n those k = vq_tr (va M P n h nb) those k := by
  obtain ⟨ec, eu⟩ := wk_K_c hK
  unfold wk_try vq_tr wq_tr
  rw [ec, va_c hI, wb_s_k hK, hK.1.fn 15 P (fun _ => rfl), hK.2.2.2.2.2.2.2.2]
  exact (wn_days_tr k).symm
theorem vq_rt_k (hI : wa_I M P n h nb) (hK : wk_K M P n m M') (i : Nat) (r : Int32) (k : Nat) : wk_rt M' P n i r k = vq_rt (va M P n h nb) i r k := by
  obtain ⟨ec, eu⟩ := wk_K_c hK
  unfold wk_rt vq_rt
  rw [ec, eu, va_c hI, wb_s_k hK, hK.1.fn 15 P (fun _ => rfl)]
  exact (wn_days_tr k).symm
theorem wq_al_cong {ky ky' rt rt' dp dp' : wm_F} {i : Nat} {day off : Int32} (h1 : ky i = ky' i) (h2 : rt i = rt' i) (h3 : ∀ d, wm_dmp dp d = wm_dmp dp' d) : ∀ k, wq_al ky rt dp i day off k = wq_al ky' rt' dp' i day off k
  | 0 => rfl
  | k + 1 => by
    rw [wq_al, wq_al, wq_al_cong h1 h2 h3 k]
    unfold wn_gone
    rw [h1, h2, h3]
theorem vq_al_k (hK : wk_K M P n m M') {i : Nat} (hi : i < n) (k : Nat) : wk_al M' P i k = vq_al (va M P n h nb) i k := by
  unfold wk_al vq_al
  rw [hK.1.fn 11 P (fun _ => rfl), hK.1.fn 7 P (fun _ => rfl), hK.1.fn 15 P (fun _ => rfl), hK.1.1 16 0 0 rfl, hK.1.fn 17 0 (fun _ => rfl)]
  rw [show (va M P n h nb).s.2.2 i = cb_gI M 17 0 i from wn_tr_lt hi]
  exact wq_al_cong (wn_tr_lt hi).symm (wn_tr_lt hi).symm (fun d => (wm_dmp_tr _ d).symm) k
theorem vq_ht_k (hI : wa_I M P n h nb) (hK : wk_K M P n m M') {bd pl bd' pl' : wm_F} (hb : ∀ i, i < n → vp_in (bd i) nb) (e : ∀ a, a < n → bd' a = bd a ∧ pl' a = pl a) (k : Nat) : wh_try M' P n bd pl k = vq_ht (va M P n h nb) bd' pl' k := by
  unfold wh_try vq_ht wq_tr
  have ec : wh_c M' P n bd pl = vcc (va M P n h nb) bd' pl' := by
    unfold wh_c vcc
    rw [hK.1.fn 9 P (fun _ => rfl), hK.1.fn 8 P (fun _ => rfl), hK.1.fn 11 P (fun _ => rfl), wn_tr_ext (f := cb_gI M' 26 0) (g := cb_gI M 7 P) (fun i hi => (hK.2.2.2.2.2.2.1 i (by have := hI.2.1.2.2.1; omega)).2.2)]
    have e1 : wn_tr n bd = wn_tr (va M P n h nb).n bd' := wn_tr_ext (fun i hi => (e i hi).1.symm)
    have e2 : (fun i j => if i < n ∧ j < n then wm_hear (wh_h M' P bd pl) i j else 0) = fun i j => if i < (va M P n h nb).n ∧ j < (va M P n h nb).n then wm_hear (vh (va M P n h nb) bd' pl') i j else 0 := by
      funext i j
      show (if i < n ∧ j < n then _ else (0 : Int32)) = if i < n ∧ j < n then _ else 0
      by_cases q : i < n ∧ j < n
      · rw [if_pos q, if_pos q]
        unfold wh_h
        rw [hK.1.fn 9 P (fun _ => rfl), hK.1.fn 8 P (fun _ => rfl), hK.1.fn 4 P (fun _ => rfl), hK.1.fn 14 P (fun _ => rfl)]
        exact va_hear q.1 q.2 (hb i q.1) hI.2.2.1.2.2.2.1 e _ _
      · rw [if_neg q, if_neg q]
    rw [e1, e2]
    rfl
  rw [ec, wb_s_k hK, hK.1.fn 15 P (fun _ => rfl), hK.2.2.2.2.2.2.2.2]
  exact (wn_days_tr k).symm
end Env
