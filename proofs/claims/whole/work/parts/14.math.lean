/-! ===== numbers and bits ===== -/
def cb_bit (x : Int32) (i : Nat) : Bool := x.toBitVec.getLsbD i
theorem cb_ush_nat (x : Int32) {i : Nat} (h : i < 32) : (cb_ush x (nI i)).toBitVec.toNat = x.toBitVec.toNat / 2 ^ i := by
  refine pk_ushr x (nI i) i ?_
  have : ∀ i : Nat, i < 32 → (((nI i).toUInt32 &&& Int32.toUInt32 31).toBitVec % 32).toNat = i := by decide +kernel
  exact this i h
theorem cb_and1 (x : Int32) : x &&& 1 = if cb_bit x 0 then 1 else 0 := by
  apply Int32.toBitVec_inj.mp
  rw [Int32.toBitVec_and]
  apply BitVec.eq_of_getLsbD_eq
  intro i hi
  unfold cb_bit
  cases hx : x.toBitVec.getLsbD 0 <;> simp <;> (cases i with
    | zero => simpa using hx
    | succ i => simp)
theorem cb_bitOf (x : Int32) {i : Nat} (h : i < 32) : cb_ush x (nI i) &&& 1 = if cb_bit x i then 1 else 0 := by
  rw [cb_and1]
  have : cb_bit (cb_ush x (nI i)) 0 = cb_bit x i := by
    unfold cb_bit
    rw [← BitVec.testBit_toNat, ← BitVec.testBit_toNat, cb_ush_nat x h]
    simp [Nat.testBit_eq_decide_div_mod_eq]
  rw [this]
theorem cb_bit_or (x y : Int32) (i : Nat) : cb_bit (x ||| y) i = (cb_bit x i || cb_bit y i) := by
  unfold cb_bit
  rw [Int32.toBitVec_or, BitVec.getLsbD_or]
theorem cb_bit_and (x y : Int32) (i : Nat) : cb_bit (x &&& y) i = (cb_bit x i && cb_bit y i) := by
  unfold cb_bit
  rw [Int32.toBitVec_and, BitVec.getLsbD_and]
theorem cb_bit_not (x : Int32) {i : Nat} (h : i < 32) : cb_bit (x ^^^ (-1)) i = !cb_bit x i := by
  unfold cb_bit
  rw [Int32.toBitVec_xor, BitVec.getLsbD_xor]
  have : (-1 : Int32).toBitVec = BitVec.allOnes 32 := by decide
  rw [this, BitVec.getLsbD_allOnes, decide_eq_true h, Bool.xor_true]
theorem cb_bit_zero (i : Nat) : cb_bit 0 i = false := by
  unfold cb_bit
  simp
theorem cb_bit_one {i j : Nat} (hi : i < 32) : cb_bit ((1 : Int32) <<< (nI i &&& 31)) j = decide (j = i) := by
  have h : ∀ i : Nat, i < 32 → ((1 : Int32) <<< (nI i &&& 31)).toBitVec = (1#32) <<< i := by decide +kernel
  unfold cb_bit
  rw [h i hi, BitVec.getLsbD_shiftLeft]
  by_cases e : j = i
  · subst e; simp [hi]
  · by_cases h2 : j < i
    · simp [h2, e]
    · have : j - i ≠ 0 := by omega
      simp [e, h2, BitVec.getLsbD_one, this]
theorem cb_bit_ext {x y : Int32} (h : ∀ i, i < 32 → cb_bit x i = cb_bit y i) : x = y := by
  apply Int32.toBitVec_inj.mp
  exact BitVec.eq_of_getLsbD_eq h
/-- the mask of those below n -/
def wm_mask (p : Nat → Bool) : Nat → Int32
  | 0 => 0
  | n + 1 => wm_mask p n ||| (if p n then (1 : Int32) <<< (nI n &&& 31) else 0)
theorem wm_mask_bit (p : Nat → Bool) : ∀ (n : Nat), n ≤ 32 → ∀ j, cb_bit (wm_mask p n) j = (decide (j < n) && p j)
  | 0, _, j => by rw [wm_mask, cb_bit_zero]; simp
  | n + 1, h, j => by
    rw [wm_mask, cb_bit_or, wm_mask_bit p n (by omega) j]
    by_cases hp : p n = true
    · rw [if_pos hp, cb_bit_one (by omega)]
      by_cases e : j = n
      · subst e; simp [hp]
      · have : (j < n + 1) = (j < n) := propext ⟨fun q => by omega, fun q => by omega⟩
        simp [e, this]
    · rw [if_neg hp, cb_bit_zero]
      by_cases e : j = n
      · subst e; simp [hp]
      · have : (j < n + 1) = (j < n) := propext ⟨fun q => by omega, fun q => by omega⟩
        simp [e, this]
def wm_sum (f : Nat → Int32) : Nat → Int32
  | 0 => 0
  | n + 1 => wm_sum f n + f n
theorem wm_sum_cong {f g : Nat → Int32} : ∀ {n : Nat}, (∀ j, j < n → f j = g j) → wm_sum f n = wm_sum g n
  | 0, _ => rfl
  | n + 1, h => by rw [wm_sum, wm_sum, wm_sum_cong (fun j hj => h j (by omega)), h n (by omega)]
def cb_z (b : Bool) : Int32 := if b then 1 else 0
theorem cb_z_eq0 {b : Bool} : cb_z b = 0 ↔ b = false := by cases b <;> decide
theorem cb_z_01 (b : Bool) : cb_z b = 0 ∨ cb_z b = 1 := by cases b <;> decide
theorem cb_up {n : Nat} (P : Nat → Prop) (hend : P n) (hstep : ∀ j, j < n → P (j + 1) → P j) : ∀ j, j ≤ n → P j := by
  intro j hj
  have : ∀ k j, j + k = n → P j := by
    intro k
    induction k with
    | zero => intro j h; rw [show j = n by omega]; exact hend
    | succ k ih => intro j h; exact hstep j (by omega) (ih (j + 1) (by omega))
  exact this (n - j) j (by omega)
/-! ===== the wall ===== -/
abbrev wm_F : Type := Nat → Int32
def wm_ap (p q : Int32) : Int32 := if q - p < -500 then q - p + 1000 else if 500 ≤ q - p then q - p - 1000 else q - p
def wm_ten (x : Int32) : Int32 := if 250 < x then x - 500 else if x < -250 then x + 500 else x
def wm_beat (x : Int32) : Int32 := if -20 ≤ x ∧ x ≤ 20 then 2 else if x ≤ -480 ∨ 480 ≤ x then 1 else 0
def wm_abs (x : Int32) : Int32 := if 0 ≤ x then x else -x
def wm_min (x y : Int32) : Int32 := if y < x then y else x
def wm_max (x y : Int32) : Int32 := if x < y then y else x
def wm_fmod (x y : Int32) : Int32 := if ¬ 0 ≤ (x ^^^ y) ∧ ¬ cb_rem x y = 0 then cb_rem x y + y else cb_rem x y
/-- how many; kind, board, place, weight, thick, key, rate; who hears whom more -/
abbrev wm_C : Type := Nat × wm_F × wm_F × wm_F × wm_F × wm_F × wm_F × wm_F × (Nat → Nat → Int32)
abbrev wm_C.n (c : wm_C) : Nat := c.1
abbrev wm_C.kd (c : wm_C) : wm_F := c.2.1
abbrev wm_C.bd (c : wm_C) : wm_F := c.2.2.1
abbrev wm_C.pl (c : wm_C) : wm_F := c.2.2.2.1
abbrev wm_C.wt (c : wm_C) : wm_F := c.2.2.2.2.1
abbrev wm_C.th (c : wm_C) : wm_F := c.2.2.2.2.2.1
abbrev wm_C.ky (c : wm_C) : wm_F := c.2.2.2.2.2.2.1
abbrev wm_C.rt (c : wm_C) : wm_F := c.2.2.2.2.2.2.2.1
abbrev wm_C.hr (c : wm_C) : Nat → Nat → Int32 := c.2.2.2.2.2.2.2.2
def wm_hear (c : wm_C) (i j : Nat) : Int32 := if c.kd i = 2 ∨ c.kd i = 1 ∨ c.kd j = 2 then 0 else if ¬ c.bd i = c.bd j then c.hr i j else (if c.kd j = 4 then 2 * c.wt j else c.wt j) * (10 - c.th (c.bd i).toNatClampNeg) / (1 + wm_abs (c.pl i - c.pl j)) + c.hr i j
/-- who hangs; whether all are always wound -/
abbrev wm_U : Type := (Nat → Bool) × Bool
def wm_run (c : wm_C) (u : wm_U) (day : Int32) (i : Nat) : Bool := u.1 i && (u.2 || decide (c.ky i ≤ 8 ∨ cb_rem day (c.ky i) < 8))
def wm_stp (c : wm_C) (u : wm_U) (day : Int32) (ph : wm_F) (i : Nat) : Bool := (List.range c.n).any fun j => decide (j ≠ i) && (decide (c.kd j = 3) && (decide (c.bd j = c.bd i) && (wm_run c u day j && decide (ph j < 50))))
def wm_go (c : wm_C) (u : wm_U) (day : Int32) (ph : wm_F) (i : Nat) : Bool := wm_run c u day i && !wm_stp c u day ph i
def wm_drv (c : wm_C) (u : wm_U) (day : Int32) (ph : wm_F) (i : Nat) : Int32 := wm_sum (fun j => if ¬ j = i ∧ wm_go c u day ph j = true then wm_hear c i j * wm_ten (wm_ap (ph i) (ph j)) else 0) c.n
def wm_pul (c : wm_C) (u : wm_U) (day : Int32) (ph : wm_F) (i : Nat) : Int32 := wm_max (-200) (wm_min 200 (wm_drv c u day ph i / (100 * c.wt i)))
def wm_by (c : wm_C) (u : wm_U) (damp day : Int32) (ph : wm_F) (i : Nat) : Int32 := c.rt i - damp + wm_pul c u day ph i
/-- the day, the phases, how far off -/
abbrev wm_S : Type := Int32 × wm_F × wm_F
def wm_day (c : wm_C) (u : wm_U) (damp : Int32) (s : wm_S) : wm_S :=
  (s.1 + 1, fun i => if i < c.n ∧ wm_go c u s.1 s.2.1 i = true then wm_fmod (s.2.1 i + wm_by c u damp s.1 s.2.1 i) 1000 else s.2.1 i,
    fun i => if i < c.n ∧ wm_go c u s.1 s.2.1 i = true then s.2.2 i + wm_by c u damp s.1 s.2.1 i else s.2.2 i)
