/-! ===== remainders ===== -/
theorem cb_tmod_gt (a : Int) {b : Int} (h : 0 < b) : -b < a.tmod b := by
  have := Int.tmod_lt_of_pos (-a) h
  rw [Int.neg_tmod] at this
  omega
theorem cb_rem_int (x : Int32) {y : Int32} (h0 : 0 < y.toInt) : (cb_rem x y).toInt = x.toInt.tmod y.toInt := by
  unfold cb_rem
  have hx1 := x.le_toInt
  have hx2 := x.toInt_lt
  have hy2 := y.toInt_lt
  have hd : (x / y).toInt = x.toInt.tdiv y.toInt := by
    rw [Int32.toInt_div]
    have a1 : -(2 ^ 31 : Int) ≤ x.toInt.tdiv y.toInt ∧ x.toInt.tdiv y.toInt ≤ 2 ^ 31 - 1 := by
      have hle : (x.toInt.tdiv y.toInt).natAbs ≤ x.toInt.natAbs := Int.natAbs_tdiv_le_natAbs _ _
      by_cases hx : 0 ≤ x.toInt
      · have := Int.tdiv_nonneg hx (by omega : (0 : Int) ≤ y.toInt)
        omega
      · have : x.toInt.tdiv y.toInt ≤ 0 := by
          have := Int.tdiv_nonneg (a := -x.toInt) (b := y.toInt) (by omega) (by omega)
          rw [Int.neg_tdiv] at this
          omega
        omega
    rw [Int.bmod_eq_of_le] <;> omega
  rw [Int32.toInt_sub, Int32.toInt_mul, hd]
  have e : x.toInt.tmod y.toInt = x.toInt - x.toInt.tdiv y.toInt * y.toInt := by
    have := Int.tmod_add_mul_tdiv x.toInt y.toInt
    rw [Int.mul_comm] at this
    omega
  have b1 : (x.toInt.tmod y.toInt).natAbs < y.toInt.natAbs := by
    have := Int.tmod_lt_of_pos x.toInt h0
    have := cb_tmod_gt x.toInt h0 
    omega
  rw [Int.sub_bmod_bmod, ← e, Int.bmod_eq_of_le] <;> omega
theorem cb_xor_neg (x : Int32) {y : Int32} (hy : 0 ≤ y) : (¬ 0 ≤ (x ^^^ y)) ↔ x < 0 := by
  have k : ∀ z : Int32, z < 0 ↔ z.toBitVec.msb = true := by
    intro z
    rw [BitVec.msb_eq_toInt]
    simp only [decide_eq_true_eq]
    exact Int32.lt_iff_toInt_lt
  rw [Int32.not_le, k, k, Int32.toBitVec_xor, BitVec.msb_xor]
  have : y.toBitVec.msb = false := by
    cases q : y.toBitVec.msb with
    | false => rfl
    | true => exact absurd ((k y).mpr q) (Int32.not_lt.mpr hy)
  rw [this, Bool.xor_false]
theorem wm_fmod_int (x : Int32) : (wm_fmod x 1000).toInt = x.toInt % 1000 := by
  have hr := cb_rem_int x (y := 1000) (by decide)
  have h1000 : (1000 : Int32).toInt = 1000 := by decide
  have h0 : (0 : Int32).toInt = 0 := by decide
  rw [h1000] at hr
  unfold wm_fmod
  have hxn := cb_xor_neg x (y := 1000) (by decide)
  have hz : cb_rem x 1000 = 0 ↔ x.toInt.tmod 1000 = 0 := by
    rw [← hr, ← Int32.toInt_inj, h0]
  have hx := Int32.lt_iff_toInt_lt (x := x) (y := 0)
  rw [h0] at hx
  have e : x.toInt < 0 → x.toInt.tmod 1000 = -((-x.toInt) % 1000) := by
    intro q
    have := Int.neg_tmod (-x.toInt) 1000
    rw [Int.neg_neg] at this
    rw [this, Int.tmod_eq_emod_of_nonneg (by omega)]
  have e2 : 0 ≤ x.toInt → x.toInt.tmod 1000 = x.toInt % 1000 := fun q => Int.tmod_eq_emod_of_nonneg q
  split
  · rename_i q
    rw [hz, hxn, hx] at q
    have := e q.1
    rw [Int32.toInt_add, hr, h1000, Int.bmod_eq_of_le] <;> omega
  · rename_i q
    rw [hz, hxn, hx] at q
    rw [hr]
    by_cases w : x.toInt < 0
    · have := e w
      omega
    · exact e2 (by omega)
theorem wm_fmod_ph (x : Int32) : wm_ph (wm_fmod x 1000) := by
  have h := wm_fmod_int x
  have h1000 : (1000 : Int32).toInt = 1000 := by decide
  have h0 : (0 : Int32).toInt = 0 := by decide
  refine ⟨Int32.le_iff_toInt_le.mpr ?_, Int32.lt_iff_toInt_lt.mpr ?_⟩
  · rw [h, h0]; omega
  · rw [h, h1000]; omega
def wm_rnd (x : Int32) : Int32 := cb_rem (cb_rem x 1000 + 1000) 1000
theorem wm_rnd_eq (x : Int32) : wm_rnd x = wm_fmod x 1000 := by
  apply Int32.toInt_inj.mp
  have h1000 : (1000 : Int32).toInt = 1000 := by decide
  have hr := cb_rem_int x (y := 1000) (by decide)
  have hr2 := cb_rem_int (cb_rem x 1000 + 1000) (y := 1000) (by decide)
  rw [h1000] at hr hr2
  have b1 := Int.tmod_lt_of_pos x.toInt (b := 1000) (by decide)
  have b2 := cb_tmod_gt x.toInt (b := 1000) (by decide)
  unfold wm_rnd
  rw [hr2, Int32.toInt_add, hr, h1000, wm_fmod_int, Int.bmod_eq_of_le (by omega) (by omega), Int.tmod_eq_emod_of_nonneg (by omega)]
  by_cases w : x.toInt < 0
  · have := Int.neg_tmod (-x.toInt) 1000
    rw [Int.neg_neg] at this
    rw [this, Int.tmod_eq_emod_of_nonneg (by omega)]
    omega
  · rw [Int.tmod_eq_emod_of_nonneg (by omega)]
    omega
