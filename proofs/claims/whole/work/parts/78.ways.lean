/-! ===== ways to hang: one after the other, and one within the other ===== -/
def mf {S : Type} (step : Nat → S → S) : Nat → S → S
  | 0, s => s
  | T + 1, s => step T (mf step T s)
theorem mf_add {S : Type} {step : Nat → S → S} {a : Nat} {s : S} : ∀ b, mf step (a + b) s = mf (fun w => step (a + w)) b (mf step a s)
  | 0 => rfl
  | b + 1 => by rw [← Nat.add_assoc, mf, mf, mf_add b]
theorem mf_mul {S : Type} {step : Nat → S → S} {B : Nat} {s : S} : ∀ h, mf step (h * B) s = mf (fun g s => mf (fun w => step (g * B + w)) B s) h s
  | 0 => by rw [Nat.zero_mul]; rfl
  | h + 1 => by rw [Nat.succ_mul, mf_add, mf_mul h, mf]
theorem mf_cong {S : Type} {step step' : Nat → S → S} {s : S} : ∀ {T : Nat}, (∀ w, w < T → ∀ s, step w s = step' w s) → mf step T s = mf step' T s
  | 0, _ => rfl
  | T + 1, h => by rw [mf, mf, mf_cong (fun w hw => h w (by omega)), h T (by omega)]
theorem mf_skip {S : Type} {step : Nat → S → S} {s : S} : ∀ {T : Nat}, (∀ w, w < T → ∀ s, step w s = s) → mf step T s = s
  | 0, _ => rfl
  | T + 1, h => by rw [mf, h T (by omega), mf_skip (fun w hw => h w (by omega))]
abbrev mt_S : Type := Int32 × Int32 × Int32
def mt_leaf (dg : Int32) (ok : Bool) (wt : Int32) (s : mt_S) : mt_S := if ok = true then (if s.1 = -1 then dg else s.1, if s.2.1 = -1 ∨ wt < s.2.2 then (dg, wt) else s.2) else s
def mt_ok (V : wV) (those : Int32) (k : Nat) (bd pl : wm_F) : Bool := decide (wm_wo those (vq_rts V (wm_all (nI V.n)) (vq_ht V bd pl k)) = 0)
def mt_dfs (V : wV) (those : Int32) (k : Nat) : List Nat → Int32 → Nat → wm_F → wm_F → wm_F → wm_F → mt_S → mt_S
  | [], _, dg, bd, pl, _, _, s => mt_leaf (nI dg) (mt_ok V those k bd pl) (wq_mw bd V.wt V.n V.nb) s
  | i :: L, us, dg, bd, pl, hb, hp, s => mf (fun g s => if cb_bit us g = true then s else mt_dfs V those k L (us ||| wm_b1 g) (10 * dg + g + 1) (wm_upd bd i (hb g)) (wm_upd pl i (hp g)) (wm_upd hb g (bd i)) (wm_upd hp g (pl i)) s) V.h s
def mt_e (h m w : Nat) : Nat → Nat := fun l => wq_e h w (m - 1 - l)
def mt_kd (h : Nat) (us : Int32) (m w : Nat) : Bool := wq_dis h w m && (List.range m).all fun t => !cb_bit us (wq_e h w t)
def mt_wr (dg : Nat) (e : Nat → Nat) : Nat → Nat
  | 0 => dg
  | l + 1 => mt_wr dg e l * 10 + e l + 1
theorem wq_e_top {h m g w : Nat} (hg : g < h) (hw : w < h ^ m) : wq_e h (g * h ^ m + w) m = g := by
  unfold wq_e
  rw [Nat.add_comm, Nat.add_mul_div_right _ _ (by omega), Nat.div_eq_of_lt hw, Nat.zero_add, Nat.mod_eq_of_lt hg]
theorem wq_e_low {h m g w t : Nat} (hg : g < h) (ht : t < m) : wq_e h (g * h ^ m + w) t = wq_e h w t := by
  unfold wq_e
  have e : h ^ m = h ^ (m - t - 1) * h * h ^ t := by
    rw [← Nat.pow_succ, ← Nat.pow_add]
    congr 1
    omega
  rw [e, Nat.add_comm, ← Nat.mul_assoc, Nat.add_mul_div_right _ _ (Nat.pow_pos (by omega)), ← Nat.mul_assoc, Nat.add_mul_mod_self_right]
theorem mt_e_0 {h m g w : Nat} (hg : g < h) (hw : w < h ^ m) : mt_e h (m + 1) (g * h ^ m + w) 0 = g := wq_e_top hg hw
theorem mt_e_s {h m g w l : Nat} (hg : g < h) (hl : l < m) : mt_e h (m + 1) (g * h ^ m + w) (l + 1) = mt_e h m w l := by
  unfold mt_e
  rw [show m + 1 - 1 - (l + 1) = m - 1 - l by omega]
  exact wq_e_low hg (by omega)
theorem mt_wr_s {dg g : Nat} {e e' : Nat → Nat} (h0 : e' 0 = g) : ∀ {m : Nat}, (∀ l, l < m → e' (l + 1) = e l) → mt_wr dg e' (m + 1) = mt_wr (10 * dg + g + 1) e m
  | 0, _ => by
    show dg * 10 + e' 0 + 1 = 10 * dg + g + 1
    omega
  | m + 1, h => by
    rw [mt_wr, mt_wr_s h0 (fun l hl => h l (by omega)), h m (by omega)]
    rfl
theorem wh_f_s {hk f : wm_F} {i g : Nat} {L : List Nat} {e e' : Nat → Nat} (h0 : e' 0 = g) : ∀ {m : Nat} (a : Nat), (∀ l, l < m → e' (l + 1) = e l) → wh_f hk (i :: L) e' f (m + 1) a = wh_f hk L e (wm_upd f i (hk g)) m a
  | 0, a, _ => by
    show (if a = i then hk (e' 0) else f a) = if a = i then hk g else f a
    rw [h0]
  | m + 1, a, h => by
    show (if a = (i :: L).getD (m + 1) 0 then hk (e' (m + 1)) else wh_f hk (i :: L) e' f (m + 1) a) = if a = L.getD m 0 then hk (e m) else wh_f hk L e (wm_upd f i (hk g)) m a
    rw [wh_f_s h0 a (fun l hl => h l (by omega)), h m (by omega)]
    rfl
theorem wm_b1_bit {g x : Nat} (hg : g < 32) : cb_bit (wm_b1 g) x = decide (x = g) := cb_bit_one hg
theorem mt_kd_s {h m g w : Nat} {us : Int32} (hg : g < h) (hh : h ≤ 6) (hw : w < h ^ m) : mt_kd h us (m + 1) (g * h ^ m + w) = (!cb_bit us g && mt_kd h (us ||| wm_b1 g) m w) := by
  have low : ∀ t, t < m → wq_e h (g * h ^ m + w) t = wq_e h w t := fun t ht => wq_e_low hg ht
  have top := wq_e_top hg hw
  have dis : wq_dis h (g * h ^ m + w) (m + 1) = (wq_dis h w m && (List.range m).all fun t => decide (¬ wq_e h w t = g)) := by
    unfold wq_dis
    rw [cb_all_succ, top]
    congr 1
    · refine cb_all_cong (fun t ht => cb_all_cong (fun t' ht' => ?_))
      have ht := List.mem_range.mp ht
      have ht' := List.mem_range.mp ht'
      rw [low t ht, low t' (by omega)]
    · exact cb_all_cong (fun t ht => by rw [low t (List.mem_range.mp ht)])
  unfold mt_kd
  rw [dis, cb_all_succ, top]
  have e2 : (List.range m).all (fun t => !cb_bit us (wq_e h (g * h ^ m + w) t)) = (List.range m).all (fun t => !cb_bit us (wq_e h w t)) := cb_all_cong (fun t ht => by rw [low t (List.mem_range.mp ht)])
  rw [e2]
  have e3 : (List.range m).all (fun t => !cb_bit (us ||| wm_b1 g) (wq_e h w t)) = ((List.range m).all (fun t => decide (¬ wq_e h w t = g)) && (List.range m).all (fun t => !cb_bit us (wq_e h w t))) := by
    rw [Bool.eq_iff_iff, Bool.and_eq_true, List.all_eq_true, List.all_eq_true, List.all_eq_true]
    constructor
    · intro z
      refine ⟨fun t ht => ?_, fun t ht => ?_⟩
      · have := z t ht
        rw [cb_bit_or, wm_b1_bit (by omega)] at this
        simp at this
        exact decide_eq_true this.2
      · have := z t ht
        rw [cb_bit_or, wm_b1_bit (by omega)] at this
        simp at this
        rw [this.1]
        rfl
    · rintro ⟨z1, z2⟩ t ht
      have q1 := of_decide_eq_true (z1 t ht)
      have q2 := z2 t ht
      rw [cb_bit_or, wm_b1_bit (by omega), decide_eq_false q1, Bool.or_false]
      exact q2
  rw [e3]
  cases wq_dis h w m <;> cases (List.range m).all (fun t => decide (¬ wq_e h w t = g)) <;> cases (List.range m).all (fun t => !cb_bit us (wq_e h w t)) <;> cases cb_bit us g <;> rfl
theorem mt_ok_cong {V : wV} {those : Int32} {k : Nat} {bd pl bd' pl' : wm_F} (e : ∀ i, i < V.n → bd i = bd' i ∧ pl i = pl' i) : mt_ok V those k bd pl = mt_ok V those k bd' pl' := by
  unfold mt_ok vq_ht
  rw [vcc_cong e]
def mt_st (V : wV) (those : Int32) (k : Nat) (L : List Nat) (us : Int32) (dg : Nat) (bd pl hb hp : wm_F) (w : Nat) (s : mt_S) : mt_S := if mt_kd V.h us L.length w = true then mt_leaf (nI (mt_wr dg (mt_e V.h L.length w) L.length)) (mt_ok V those k (wh_f hb L (mt_e V.h L.length w) bd L.length) (wh_f hp L (mt_e V.h L.length w) pl L.length)) (wq_mw (wh_f hb L (mt_e V.h L.length w) bd L.length) V.wt V.n V.nb) s else s
theorem mt_dfs_mf {V : wV} {those : Int32} {k : Nat} (hh : V.h ≤ 6) : ∀ (L : List Nat) (us : Int32) (dg : Nat) (bd pl hb hp : wm_F) (s : mt_S), mt_dfs V those k L us dg bd pl hb hp s = mf (mt_st V those k L us dg bd pl hb hp) (V.h ^ L.length) s
  | [], us, dg, bd, pl, hb, hp, s => rfl
  | i :: L, us, dg, bd, pl, hb, hp, s => by
    rw [mt_dfs, List.length_cons, Nat.pow_succ', mf_mul]
    refine mf_cong (fun g hg s => ?_)
    by_cases q : cb_bit us g = true
    · rw [if_pos q]
      refine (mf_skip (fun w hw s => ?_)).symm
      unfold mt_st
      rw [List.length_cons, mt_kd_s hg hh hw, q]
      exact if_neg (by simp)
    · rw [if_neg q, mt_dfs_mf hh L]
      refine mf_cong (fun w hw s => ?_)
      unfold mt_st
      rw [List.length_cons, mt_kd_s hg hh hw]
      have q' : cb_bit us g = false := by simpa using q
      rw [q', Bool.not_false, Bool.true_and]
      by_cases z : mt_kd V.h (us ||| wm_b1 g) L.length w = true
      · rw [if_pos z, if_pos z]
        have e0 := mt_e_0 (m := L.length) hg hw
        have es : ∀ l, l < L.length → mt_e V.h (L.length + 1) (g * V.h ^ L.length + w) (l + 1) = mt_e V.h L.length w l := fun l hl => mt_e_s hg hl
        have ne : ∀ l, l < L.length → ¬ mt_e V.h L.length w l = g := fun l hl w0 => by
          unfold mt_kd at z
          rw [Bool.and_eq_true] at z
          have := List.all_eq_true.mp z.2 (L.length - 1 - l) (List.mem_range.mpr (by omega))
          rw [show wq_e V.h w (L.length - 1 - l) = g from w0, cb_bit_or, wm_b1_bit (by omega), decide_eq_true rfl, Bool.or_true] at this
          cases this
        have eb : ∀ a, wh_f (wm_upd hb g (bd i)) L (mt_e V.h L.length w) (wm_upd bd i (hb g)) L.length a = wh_f hb (i :: L) (mt_e V.h (L.length + 1) (g * V.h ^ L.length + w)) bd (L.length + 1) a := fun a => by
          rw [wh_f_s e0 a es]
          exact wh_f_cong rfl (fun l hl => if_neg (ne l hl))
        have ep : ∀ a, wh_f (wm_upd hp g (pl i)) L (mt_e V.h L.length w) (wm_upd pl i (hp g)) L.length a = wh_f hp (i :: L) (mt_e V.h (L.length + 1) (g * V.h ^ L.length + w)) pl (L.length + 1) a := fun a => by
          rw [wh_f_s e0 a es]
          exact wh_f_cong rfl (fun l hl => if_neg (ne l hl))
        rw [mt_wr_s e0 es, mt_ok_cong (fun a _ => ⟨eb a, ep a⟩), wq_mw_cong (fun a _ => eb a)]
      · rw [if_neg z, if_neg z]
/-! the class's way through them -/
theorem mt_wy {what : Int32} {dis ok : Nat → Bool} {wt wr : Nat → Int32} : ∀ T, (∀ w, w < T → ¬ wr w = -1) → (∀ w, w < T → ¬ 1000000000 ≤ wt w) → ∃ s : mt_S, s = mf (fun w s => if dis w = true then mt_leaf (wr w) (ok w) (wt w) s else s) T (-1, -1, -1) ∧ (s.2.1 = -1 → s.2.2 = -1) ∧ (what = 0 → (wy_all what dis wt wr ok T).2 = s.1 ∧ (s.1 = -1 → (wy_all what dis wt wr ok T).1 = 1000000000)) ∧ (¬ what = 0 → (wy_all what dis wt wr ok T).2 = s.2.1 ∧ (s.2.1 = -1 → (wy_all what dis wt wr ok T).1 = 1000000000) ∧ (¬ s.2.1 = -1 → (wy_all what dis wt wr ok T).1 = s.2.2))
  | 0, _, _ => ⟨_, rfl, fun _ => rfl, fun _ => ⟨rfl, fun _ => rfl⟩, fun _ => ⟨rfl, fun _ => rfl, fun q => absurd rfl q⟩⟩
  | T + 1, hwr', hwt' => by
    obtain ⟨s, hs, h0, h1, h2⟩ := mt_wy (what := what) (dis := dis) (ok := ok) T (fun w hw => hwr' w (by omega)) (fun w hw => hwt' w (by omega))
    have hwrT := hwr' T (by omega)
    have hwtT := hwt' T (by omega)
    refine ⟨_, rfl, ?_⟩
    rw [mf, ← hs, wy_all]
    generalize wy_all what dis wt wr ok T = c at *
    obtain ⟨c1, c2⟩ := c
    have h1 : what = 0 → c2 = s.1 ∧ (s.1 = -1 → c1 = 1000000000) := h1
    have h2 : ¬ what = 0 → c2 = s.2.1 ∧ (s.2.1 = -1 → c1 = 1000000000) ∧ (¬ s.2.1 = -1 → c1 = s.2.2) := h2
    unfold wy_step
    cases hd : dis T with
    | false =>
      rw [if_neg (by decide)]
      refine ⟨h0, fun q => ?_, fun q => ?_⟩
      · rw [if_pos (Or.inr (Or.inl rfl))]
        exact h1 q
      · rw [if_pos (Or.inr (Or.inl rfl))]
        exact h2 q
    | true =>
      rw [if_pos rfl]
      unfold mt_leaf
      cases hk : ok T with
      | false =>
        rw [if_neg (by decide)]
        refine ⟨h0, fun q => ?_, fun q => ?_⟩
        · have : (if (what = 0 ∧ ¬ c2 = -1) ∨ true = false ∨ c1 ≤ wt T then (c1, c2) else if false = true then (wt T, wr T) else (c1, c2)) = (c1, c2) := by split <;> rfl
          rw [this]
          exact h1 q
        · have : (if (what = 0 ∧ ¬ c2 = -1) ∨ true = false ∨ c1 ≤ wt T then (c1, c2) else if false = true then (wt T, wr T) else (c1, c2)) = (c1, c2) := by split <;> rfl
          rw [this]
          exact h2 q
      | true =>
        rw [if_pos rfl, if_pos rfl]
        refine ⟨fun q => ?_, fun q => ?_, fun q => ?_⟩
        · simp only [] at q ⊢
          by_cases z : s.2.1 = -1 ∨ wt T < s.2.2
          · rw [if_pos z] at q
            exact absurd q hwrT
          · rw [if_neg z] at q ⊢
            exact h0 q
        · obtain ⟨a1, a2⟩ := h1 q
          simp only []
          by_cases z : s.1 = -1
          · have e1 := a2 z
            rw [if_pos z, if_neg (fun w => w.elim (fun w => w.2 (a1.trans z)) (fun w => w.elim (fun w => by cases w) (fun w => hwtT (by rw [← e1]; exact w))))]
            exact ⟨rfl, fun w => absurd w hwrT⟩
          · rw [if_neg z, if_pos (Or.inl ⟨q, fun w => z (a1.symm.trans w)⟩)]
            exact ⟨a1, fun w => absurd w z⟩
        · obtain ⟨a1, a2, a3⟩ := h2 q
          simp only []
          by_cases z : s.2.1 = -1
          · have e1 := a2 z
            rw [if_pos (Or.inl z), if_neg (fun w => w.elim (fun w => q w.1) (fun w => w.elim (fun w => by cases w) (fun w => hwtT (by rw [← e1]; exact w))))]
            exact ⟨rfl, fun w => absurd w hwrT, fun _ => rfl⟩
          · have e1 := a3 z
            by_cases z2 : wt T < s.2.2
            · rw [if_pos (Or.inr z2), if_neg (fun w => w.elim (fun w => q w.1) (fun w => w.elim (fun w => by cases w) (fun w => absurd w (Int32.not_le.mpr (by rw [e1]; exact z2)))))]
              exact ⟨rfl, fun w => absurd w hwrT, fun _ => rfl⟩
            · rw [if_neg (show ¬ (s.2.1 = -1 ∨ wt T < s.2.2) from fun w => w.elim z z2), if_pos (show (what = 0 ∧ ¬ c2 = -1) ∨ true = false ∨ c1 ≤ wt T from Or.inr (Or.inr (by rw [e1]; exact Int32.not_lt.mp z2)))]
              exact ⟨a1, fun w => absurd w z, fun _ => e1⟩
def mt_pick (what : Int32) (s : mt_S) : Int32 := if what = 0 then s.1 else if what = 1 then s.2.1 else s.2.2
theorem mt_wr_0 {e : Nat → Nat} : ∀ m, mt_wr 0 e m = wq_wr e m
  | 0 => rfl
  | m + 1 => by rw [mt_wr, wq_wr, mt_wr_0 m]
theorem wq_wr_l8 {e : Nat → Nat} : ∀ {m : Nat}, (∀ l, l < m → e l ≤ 8) → wq_wr e m < 10 ^ m
  | 0, _ => Nat.one_pos
  | m + 1, h => by
    have := wq_wr_l8 (e := e) (m := m) (fun l hl => h l (by omega))
    have := h m (by omega)
    rw [wq_wr, Nat.pow_succ]
    omega
theorem wm_sum_20 {f : Nat → Int32} : ∀ {n : Nat}, n ≤ 8 → (∀ i, i < n → ∃ c, c ≤ 20 ∧ f i = nI c) → ∃ c, c ≤ 20 * n ∧ wm_sum f n = nI c
  | 0, _, _ => ⟨0, Nat.le_refl _, rfl⟩
  | n + 1, hn, h => by
    obtain ⟨c, hc, e⟩ := wm_sum_20 (f := f) (n := n) (by omega) (fun i hi => h i (by omega))
    obtain ⟨d, hd, e2⟩ := h n (by omega)
    exact ⟨c + d, by omega, by rw [wm_sum, e, e2, nI_add]⟩
theorem wq_mw_lt {bd wt : wm_F} {n : Nat} (hn : n ≤ 8) (h : ∀ i, i < n → ∃ c, c ≤ 20 ∧ wt i = nI c) : ∀ b, ∃ c, c ≤ 160 ∧ wq_mw bd wt n b = nI c
  | 0 => ⟨0, by decide, rfl⟩
  | b + 1 => by
    obtain ⟨c, hc, e⟩ := wq_mw_lt (bd := bd) hn h b
    obtain ⟨d, hd, e2⟩ := wm_sum_20 (f := fun i => if bd i = nI b then wt i else 0) hn (fun i hi => by
      by_cases q : bd i = nI b
      · simp only [if_pos q]
        exact h i hi
      · simp only [if_neg q]
        exact ⟨0, by decide, rfl⟩)
    rw [wq_mw, e, e2]
    unfold wm_max
    split
    · exact ⟨d, by omega, rfl⟩
    · exact ⟨c, hc, rfl⟩
/-- the two ways come to one -/
theorem mt_hung {V : wV} {those what : Int32} {k : Nat} (hn : V.n ≤ 8) (hh : V.h ≤ 6) (hm : (wq_bits those V.n).length ≤ 4) (hw : ∀ i, i < V.n → ∃ c, c ≤ 20 ∧ V.wt i = nI c) (h3 : what = 0 ∨ what = 1 ∨ what = 2) : vq_hung V those what k = mt_pick what (mt_dfs V those k (wq_bits those V.n) 0 0 V.bd V.pl V.hb V.hp (-1, -1, -1)) := by
  have hL : ∀ w, mt_st V those k (wq_bits those V.n) 0 0 V.bd V.pl V.hb V.hp w = fun s => if wq_dis V.h w (wq_bits those V.n).length = true then mt_leaf (nI (wq_wr (wy_e V.h w (wq_bits those V.n)) (wq_bits those V.n).length)) (vy_ok V (wq_bits those V.n) those k w) (vy_wt V (wq_bits those V.n) w) s else s := by
    intro w
    funext s
    unfold mt_st
    have e1 : mt_kd V.h 0 (wq_bits those V.n).length w = wq_dis V.h w (wq_bits those V.n).length := by
      unfold mt_kd
      have : (List.range (wq_bits those V.n).length).all (fun t => !cb_bit 0 (wq_e V.h w t)) = true := List.all_eq_true.mpr (fun t _ => by rw [cb_bit_zero]; rfl)
      rw [this, Bool.and_true]
    rw [e1, mt_wr_0]
    rfl
  rw [mt_dfs_mf hh, show mt_st V those k (wq_bits those V.n) 0 0 V.bd V.pl V.hb V.hp = _ from funext hL]
  unfold vq_hung vq_ways
  have hA : ∀ w, w < V.h ^ (wq_bits those V.n).length → ¬ nI (wq_wr (wy_e V.h w (wq_bits those V.n)) (wq_bits those V.n).length) = -1 := by
    intro w hw0 z
    have := wq_wr_l8 (e := wy_e V.h w (wq_bits those V.n)) (m := (wq_bits those V.n).length) (fun l hl => by
      have hp : 0 < V.h := by
        apply Classical.byContradiction
        intro q
        rw [show V.h = 0 by omega, Nat.zero_pow (by omega)] at hw0
        omega
      have : wy_e V.h w (wq_bits those V.n) l < V.h := Nat.mod_lt _ hp
      omega)
    have h4 : (10 : Nat) ^ (wq_bits those V.n).length ≤ 10 ^ 4 := Nat.pow_le_pow_right (by decide) hm
    have p := nI_pos (n := wq_wr (wy_e V.h w (wq_bits those V.n)) (wq_bits those V.n).length) (by omega)
    have z : nI (wq_wr (wy_e V.h w (wq_bits those V.n)) (wq_bits those V.n).length) = -1 := z
    rw [z] at p
    exact p (by decide)
  have hB : ∀ w, w < V.h ^ (wq_bits those V.n).length → ¬ 1000000000 ≤ vy_wt V (wq_bits those V.n) w := by
    intro w hw0 z
    obtain ⟨c, hc, e⟩ := wq_mw_lt (bd := vy_bd V (wq_bits those V.n) w) hn hw V.nb
    have z : 1000000000 ≤ wq_mw (vy_bd V (wq_bits those V.n) w) V.wt V.n V.nb := z
    rw [e] at z
    exact nI_ge (a := c) (b := 1000000000) (by omega) (by decide) z
  obtain ⟨s, hs, g0, g1, g2⟩ := mt_wy (what := what) (dis := fun w => wq_dis V.h w (wq_bits those V.n).length) (ok := vy_ok V (wq_bits those V.n) those k) (wt := vy_wt V (wq_bits those V.n)) (wr := fun w => nI (wq_wr (wy_e V.h w (wq_bits those V.n)) (wq_bits those V.n).length)) (V.h ^ (wq_bits those V.n).length) hA hB
  rw [← hs]
  unfold wy_res mt_pick
  rcases h3 with rfl | rfl | rfl
  · rw [if_neg (fun w => absurd w.1 (by decide)), if_pos rfl]
    exact (g1 rfl).1
  · rw [if_neg (fun w => absurd w.1 (by decide))]
    refine Eq.trans ?_ (show s.2.1 = (if (1 : Int32) = 0 then s.1 else if (1 : Int32) = 1 then s.2.1 else s.2.2) by rw [if_neg (by decide), if_pos rfl])
    exact (g2 (by decide)).1
  · obtain ⟨a1, a2, a3⟩ := g2 (by decide)
    refine Eq.trans ?_ (show s.2.2 = (if (2 : Int32) = 0 then s.1 else if (2 : Int32) = 1 then s.2.1 else s.2.2) by rw [if_neg (by decide), if_neg (by decide)])
    by_cases q : s.2.1 = -1
    · rw [if_neg (fun w => w.2 (a1.trans q)), a1, q, g0 q]
    · rw [if_pos ⟨rfl, fun w => q (a1.symm.trans w)⟩]
      exact a3 q
