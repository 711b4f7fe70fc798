/-! ===== the days, of clocks below n alone ===== -/
def wn_tr (n : Nat) (f : wm_F) : wm_F := fun i => if i < n then f i else 0
theorem wn_tr_lt {n : Nat} {f : wm_F} {i : Nat} (h : i < n) : wn_tr n f i = f i := if_pos h
theorem wn_tr_ge {n : Nat} {f : wm_F} {i : Nat} (h : ¬ i < n) : wn_tr n f i = 0 := if_neg h
theorem wn_tr_ext {n : Nat} {f g : wm_F} (h : ∀ i, i < n → f i = g i) : wn_tr n f = wn_tr n g := funext fun i => by
  unfold wn_tr
  by_cases q : i < n
  · rw [if_pos q, if_pos q, h i q]
  · rw [if_neg q, if_neg q]
/-- how many; kind, board, weight, key, rate; who hears whom -/
abbrev wn_C : Type := Nat × wm_F × wm_F × wm_F × wm_F × wm_F × (Nat → Nat → Int32)
abbrev wn_C.n (c : wn_C) : Nat := c.1
abbrev wn_C.kd (c : wn_C) : wm_F := c.2.1
abbrev wn_C.bd (c : wn_C) : wm_F := c.2.2.1
abbrev wn_C.wt (c : wn_C) : wm_F := c.2.2.2.1
abbrev wn_C.ky (c : wn_C) : wm_F := c.2.2.2.2.1
abbrev wn_C.rt (c : wn_C) : wm_F := c.2.2.2.2.2.1
abbrev wn_C.he (c : wn_C) : Nat → Nat → Int32 := c.2.2.2.2.2.2
def wn_run (c : wn_C) (u : wm_U) (day : Int32) (i : Nat) : Bool := u.1 i && (u.2 || decide (c.ky i ≤ 8 ∨ cb_rem day (c.ky i) < 8))
def wn_stp (c : wn_C) (u : wm_U) (day : Int32) (ph : wm_F) (i : Nat) : Bool := (List.range c.n).any fun j => decide (j ≠ i) && (decide (c.kd j = 3) && (decide (c.bd j = c.bd i) && (wn_run c u day j && decide (ph j < 50))))
def wn_go (c : wn_C) (u : wm_U) (day : Int32) (ph : wm_F) (i : Nat) : Bool := wn_run c u day i && !wn_stp c u day ph i
def wn_T (ph : wm_F) (i j : Nat) : Int32 := wm_ten (wm_ap (ph i) (ph j))
def wn_drv (c : wn_C) (u : wm_U) (day : Int32) (ph : wm_F) (i : Nat) : Int32 := wm_sum (fun j => if ¬ j = i ∧ wn_go c u day ph j = true then c.he i j * wn_T ph i j else 0) c.n
def wn_cut (x w : Int32) : Int32 := wm_max (-200) (wm_min 200 (x / (100 * w)))
def wn_pul (c : wn_C) (u : wm_U) (day : Int32) (ph : wm_F) (i : Nat) : Int32 := wn_cut (wn_drv c u day ph i) (c.wt i)
def wn_by (c : wn_C) (u : wm_U) (damp day : Int32) (ph : wm_F) (i : Nat) : Int32 := c.rt i - damp + wn_pul c u day ph i
def wn_day (c : wn_C) (u : wm_U) (damp : Int32) (s : wm_S) : wm_S :=
  (s.1 + 1, fun i => if i < c.n ∧ wn_go c u s.1 s.2.1 i = true then wm_fmod (s.2.1 i + wn_by c u damp s.1 s.2.1 i) 1000 else s.2.1 i,
    fun i => if i < c.n ∧ wn_go c u s.1 s.2.1 i = true then s.2.2 i + wn_by c u damp s.1 s.2.1 i else s.2.2 i)
theorem cb_any_cong {l : List Nat} {f g : Nat → Bool} (h : ∀ j ∈ l, f j = g j) : l.any f = l.any g := by
  induction l with
  | nil => rfl
  | cons a l ih => rw [List.any_cons, List.any_cons, h a List.mem_cons_self, ih (fun j hj => h j (List.mem_cons_of_mem _ hj))]
/-- what the trial is of, of those below n alone -/
def wt_c (M : cb_M) (P n : Nat) : wn_C := (n, wn_tr n (cb_gI M 9 P), wn_tr n (cb_gI M 29 0), wn_tr n (cb_gI M 8 P), wn_tr n (cb_gI M 11 P), wn_tr n (cb_gI M 26 0), fun i j => if i < n ∧ j < n then wm_hear (wk_c M P n) i j else 0)
def wt_u (M : cb_M) (n : Nat) : wm_U := (fun i => decide (i < n) && cb_bit (cb_gI M 25 0 9) i, decide (¬ cb_gI M 25 0 10 = 0))
def wt_s (M : cb_M) (n : Nat) : wm_S := (cb_gI M 25 0 3, wn_tr n (cb_gI M 27 0), wn_tr n (cb_gI M 28 0))
theorem wt_run {M : cb_M} {P n i : Nat} (hi : i < n) (day : Int32) : wm_run (wk_c M P n) (wk_u M) day i = wn_run (wt_c M P n) (wt_u M n) day i := by
  unfold wm_run wn_run wk_u wt_u
  have e : (wt_c M P n).ky i = (wk_c M P n).ky i := wn_tr_lt hi
  simp only [e, hi, decide_true, Bool.true_and]
theorem wt_stp {M : cb_M} {P n i : Nat} (hi : i < n) (day : Int32) (ph : wm_F) : wm_stp (wk_c M P n) (wk_u M) day ph i = wn_stp (wt_c M P n) (wt_u M n) day (wn_tr n ph) i := by
  unfold wm_stp wn_stp
  refine cb_any_cong (fun j hj => ?_)
  have hj : j < n := List.mem_range.mp hj
  have e1 : (wt_c M P n).kd j = (wk_c M P n).kd j := wn_tr_lt hj
  have e2 : (wt_c M P n).bd j = (wk_c M P n).bd j := wn_tr_lt hj
  have e3 : (wt_c M P n).bd i = (wk_c M P n).bd i := wn_tr_lt hi
  rw [e1, e2, e3, wn_tr_lt hj, wt_run hj]
theorem wt_go {M : cb_M} {P n i : Nat} (hn : n ≤ 8) (hi : i < n) (hb : wk_bm M n) : cb_bit (wk_go M P n) i = wn_go (wt_c M P n) (wt_u M n) (wt_s M n).1 (wt_s M n).2.1 i := by
  rw [wk_go_bit hn hi hb]
  unfold wm_go wn_go
  rw [wt_run hi, wt_stp hi]
  rfl
theorem wt_go_up {M : cb_M} {P n i : Nat} {day : Int32} {ph : wm_F} (h : wn_go (wt_c M P n) (wt_u M n) day ph i = true) : cb_bit (cb_gI M 25 0 9) i = true := by
  unfold wn_go wn_run wt_u at h
  simp only [Bool.and_eq_true] at h
  exact h.1.1.2
/-! sums -/
theorem wm_sum_add (f g : Nat → Int32) : ∀ n, wm_sum (fun i => f i + g i) n = wm_sum f n + wm_sum g n
  | 0 => by simp [wm_sum]
  | n + 1 => by
    rw [wm_sum, wm_sum_add f g n, wm_sum, wm_sum]
    ac_rfl
theorem wm_sum_zero : ∀ n, wm_sum (fun _ => 0) n = 0
  | 0 => rfl
  | n + 1 => by rw [wm_sum, wm_sum_zero n]; rfl
theorem wm_sum_pick {v : Int32} {i : Nat} : ∀ {n : Nat}, wm_sum (fun a => if i = a then v else 0) n = if i < n then v else 0
  | 0 => rfl
  | n + 1 => by
    rw [wm_sum, wm_sum_pick]
    by_cases h : i = n
    · subst h
      simp
    · by_cases h2 : i < n
      · have : i < n + 1 := by omega
        simp [h, h2, this]
      · have : ¬ i < n + 1 := by omega
        simp [h, h2, this]
theorem wm_sum_if {p : Prop} [Decidable p] {f : Nat → Int32} (n : Nat) : wm_sum (fun b => if p then f b else 0) n = if p then wm_sum f n else 0 := by
  by_cases h : p
  · simp only [h, if_true]
  · simp only [h, if_false]
    exact wm_sum_zero n
def wm_ad (d : Int32) : Int32 := if d < -500 then d + 1000 else if 500 ≤ d then d - 1000 else d
theorem wm_ap_ad (p q : Int32) : wm_ap p q = wm_ad (q - p) := rfl
set_option maxRecDepth 100000 in
theorem wm_anti_all : ∀ k : Nat, k < 1999 → wm_ten (wm_ad (nI k - 999)) = -wm_ten (wm_ad (-(nI k - 999))) := by decide +kernel
/-- a phase -/
def wm_ph (x : Int32) : Prop := 0 ≤ x ∧ x < 1000
theorem wm_ph_nI {x : Int32} (h : wm_ph x) : ∃ k, k < 1000 ∧ x = nI k := by
  obtain ⟨j, hj, e, -⟩ := cb_idx (cb_inI (n := 1000) h.1 h.2 (by decide)) (by decide)
  exact ⟨j, hj, e⟩
theorem wm_diff {p q : Int32} (hp : wm_ph p) (hq : wm_ph q) : ∃ k, k < 1999 ∧ q - p = nI k - 999 := by
  obtain ⟨a, ha, rfl⟩ := wm_ph_nI hp
  obtain ⟨b, hb, rfl⟩ := wm_ph_nI hq
  refine ⟨b + 999 - a, by omega, ?_⟩
  have e : nI (b + 999 - a) + nI a = nI b + nI 999 := by rw [nI_add, nI_add]; congr 1; omega
  have e2 : nI 999 = 999 := rfl
  rw [e2] at e
  have : nI (b + 999 - a) = nI b + 999 - nI a := by rw [← e, Int32.add_sub_cancel]
  rw [this, Int32.sub_eq_add_neg, Int32.sub_eq_add_neg, Int32.sub_eq_add_neg]
  have z : (999 : Int32) + -999 = 0 := by decide
  have : nI b + 999 + -nI a + -999 = nI b + -nI a + (999 + -999) := by ac_rfl
  rw [this, z, Int32.add_zero]
theorem wn_T_anti {ph : wm_F} {i j : Nat} (hi : wm_ph (ph i)) (hj : wm_ph (ph j)) : wn_T ph i j = -wn_T ph j i := by
  unfold wn_T
  rw [wm_ap_ad, wm_ap_ad]
  obtain ⟨k, hk, e⟩ := wm_diff hi hj
  rw [← Int32.neg_sub (a := ph j) (b := ph i), e]
  exact wm_anti_all k hk
/-! the pairs -/
def wk_pw (M : cb_M) (m : Nat) : Prop := ∀ p, p < m → vp_in (cb_gI M 33 0 p) 8 ∧ vp_in (cb_gI M 34 0 p) 8
def wk_g (M : cb_M) (g : Nat → Nat → Int32 → Int32 → Int32) (p : Nat) : Int32 := g (cb_gI M 33 0 p).toNatClampNeg (cb_gI M 34 0 p).toNatClampNeg (cb_gI M 35 0 p) (cb_gI M 36 0 p)
def wk_up (M : cb_M) (i : Nat) : Bool := cb_bit (cb_gI M 25 0 9) i
def wk_h (M : cb_M) (P n : Nat) (a b : Nat) : Int32 := wm_hear (wk_c M P n) a b
def wk_pg (up : Nat → Bool) (he : Nat → Nat → Int32) (g : Nat → Nat → Int32 → Int32 → Int32) (a b : Nat) : Int32 := if a < b ∧ up a = true ∧ up b = true ∧ ¬ (he b a = 0 ∧ he a b = 0) then g a b (he a b) (he b a) else 0
def wk_pr (M : cb_M) (P n m : Nat) : Prop := ∀ g : Nat → Nat → Int32 → Int32 → Int32, wm_sum (wk_g M g) m = wm_sum (fun a => wm_sum (wk_pg (wk_up M) (wk_h M P n) g a) n) n
def wk_D (R : Int32) (ph : wm_F) (i : Nat) : Nat → Nat → Int32 → Int32 → Int32 := fun a b x y => if cb_bit R a = true ∧ cb_bit R b = true then (if i = a then x * wn_T ph a b else 0) + (if i = b then -(y * wn_T ph a b) else 0) else 0
theorem wk_drv {M : cb_M} {P n m i : Nat} (hn : n ≤ 8) (hb : wk_bm M n) (hpr : wk_pr M P n m) (hph : ∀ i, i < n → wm_ph (cb_gI M 27 0 i)) (hi : i < n) (hg : cb_bit (wk_go M P n) i = true) : wm_sum (wk_g M (wk_D (wk_go M P n) (cb_gI M 27 0) i)) m = wn_drv (wt_c M P n) (wt_u M n) (wt_s M n).1 (wt_s M n).2.1 i := by
  rw [hpr]
  let go : Nat → Bool := fun j => cb_bit (wk_go M P n) j
  let F : Nat → Int32 := fun b => if i < b ∧ go b = true then wk_h M P n i b * wn_T (cb_gI M 27 0) i b else 0
  let Gf : Nat → Int32 := fun a => if a < i ∧ go a = true then wk_h M P n i a * wn_T (cb_gI M 27 0) i a else 0
  have up : ∀ j, j < n → go j = true → wk_up M j = true := fun j hj q => wt_go_up (P := P) (n := n) ((wt_go hn hj hb).symm.trans q)
  have h1 : ∀ a, a < n → ∀ b, b < n → wk_pg (wk_up M) (wk_h M P n) (wk_D (wk_go M P n) (cb_gI M 27 0) i) a b = (if i = a then F b else 0) + (if i = b then Gf a else 0) := by
    intro a ha b hb'
    unfold wk_pg wk_D
    by_cases ea : i = a
    · subst ea
      by_cases eb : i = b
      · subst eb
        simp [F, Gf]
      · simp only [if_true, eb, if_false, Int32.add_zero, F]
        by_cases q : i < b ∧ go b = true
        · rw [if_pos q]
          by_cases z : wk_h M P n b i = 0 ∧ wk_h M P n i b = 0
          · rw [if_neg (fun w => w.2.2.2 z), z.2, Int32.zero_mul]
          · rw [if_pos ⟨q.1, up _ hi hg, up _ hb' q.2, z⟩, if_pos ⟨hg, q.2⟩]
        · rw [if_neg q]
          by_cases w : i < b ∧ wk_up M i = true ∧ wk_up M b = true ∧ ¬ (wk_h M P n b i = 0 ∧ wk_h M P n i b = 0)
          · rw [if_pos w, if_neg (fun v => q ⟨w.1, v.2⟩)]
          · rw [if_neg w]
    · by_cases eb : i = b
      · subst eb
        simp only [if_true, ea, if_false, Int32.zero_add, Gf]
        by_cases q : a < i ∧ go a = true
        · rw [if_pos q]
          by_cases z : wk_h M P n i a = 0 ∧ wk_h M P n a i = 0
          · rw [if_neg (fun w => w.2.2.2 z), z.1, Int32.zero_mul]
          · rw [if_pos ⟨q.1, up _ ha q.2, up _ hi hg, z⟩, if_pos ⟨q.2, hg⟩, wn_T_anti (hph a ha) (hph i hi), Int32.mul_neg, Int32.neg_neg]
        · rw [if_neg q]
          by_cases w : a < i ∧ wk_up M a = true ∧ wk_up M i = true ∧ ¬ (wk_h M P n i a = 0 ∧ wk_h M P n a i = 0)
          · rw [if_pos w, if_neg (fun v => q ⟨w.1, v.1⟩)]
          · rw [if_neg w]
      · simp [ea, eb]
  have h2 : wm_sum (fun a => wm_sum (wk_pg (wk_up M) (wk_h M P n) (wk_D (wk_go M P n) (cb_gI M 27 0) i) a) n) n = wm_sum F n + wm_sum Gf n := by
    have e1 : wm_sum (fun a => wm_sum (wk_pg (wk_up M) (wk_h M P n) (wk_D (wk_go M P n) (cb_gI M 27 0) i) a) n) n = wm_sum (fun a => (if i = a then wm_sum F n else 0) + Gf a) n := by
      refine wm_sum_cong (fun a ha => ?_)
      rw [wm_sum_cong (g := fun b => (if i = a then F b else 0) + (if i = b then Gf a else 0)) (fun b hb' => h1 a ha b hb'), wm_sum_add, wm_sum_if, wm_sum_pick, if_pos hi]
    rw [e1, wm_sum_add, wm_sum_pick, if_pos hi]
  rw [h2, ← wm_sum_add]
  unfold wn_drv
  refine wm_sum_cong (fun j hj => ?_)
  have ej := wt_go (P := P) hn hj hb
  rw [← ej]
  have hi' := hi
  have e1 : (wt_c M P n).he i j = wk_h M P n i j := if_pos ⟨hi, hj⟩
  have e2 : wn_T (wt_s M n).2.1 i j = wn_T (cb_gI M 27 0) i j := by
    unfold wn_T
    rw [show (wt_s M n).2.1 i = cb_gI M 27 0 i from wn_tr_lt hi, show (wt_s M n).2.1 j = cb_gI M 27 0 j from wn_tr_lt hj]
  rw [e1, e2]
  show F j + Gf j = if ¬ j = i ∧ go j = true then _ else 0
  rcases Nat.lt_trichotomy i j with q | q | q
  · have a1 : ¬ j < i := by omega
    have a2 : ¬ j = i := by omega
    simp [F, Gf, q, a1, a2]
  · subst q
    simp [F, Gf]
  · have a1 : ¬ i < j := by omega
    have a2 : ¬ j = i := by omega
    simp [F, Gf, q, a1, a2]
