/-! ===== fault, count, hung, book, hang: of both ===== -/
theorem re_hi {M M' : cb_M} (h : ∀ t i j, 46 ≤ t → cb_gI M' t i j = cb_gI M t i j) (n hh nb : Nat) : (mi_I M n hh nb → mi_I M' n hh nb) ∧ mv M' n hh nb = mv M n hh nb := by
  have fn : ∀ t i, 46 ≤ t → cb_gI M' t i = cb_gI M t i := fun t i w => funext fun j => h t i j w
  constructor
  · intro hI
    unfold mi_I mk_G at *
    rw [h 49 0 1 (by omega), h 49 0 2 (by omega), h 49 0 0 (by omega), h 49 0 4 (by omega), h 46 0 33 (by omega), h 46 0 41 (by omega), h 46 0 44 (by omega), h 46 0 45 (by omega), fn 64 0 (by omega), fn 65 0 (by omega), fn 67 0 (by omega), fn 55 0 (by omega), fn 69 0 (by omega), fn 72 0 (by omega), fn 73 0 (by omega)]
    exact hI
  · have e : ∀ i j, cb_gI M' 63 i j = cb_gI M 63 i j := fun i j => h 63 i j (by omega)
    unfold mv mk_b
    rw [h 49 0 3 (by omega), h 49 0 4 (by omega), h 46 0 33 (by omega), fn 68 0 (by omega), fn 67 0 (by omega), fn 55 0 (by omega), fn 66 0 (by omega), fn 51 0 (by omega), fn 53 0 (by omega), fn 64 0 (by omega), fn 65 0 (by omega), fn 72 0 (by omega), fn 73 0 (by omega), fn 71 0 (by omega), fn 69 0 (by omega), fn 70 0 (by omega)]
    simp only [e]
theorem re_fault {M : cb_M} {m : Nat} (hR : re_R M m) : sp_X9_fault [] M (re_post re_c0 sp_X10_fault [] m) := by
  have e : cb_gI M 46 0 3 = cb_gI M 0 0 3 := by
    obtain ⟨P, Q, A, c, t, -, -, -, -, -, -, -, -, e, -⟩ := hR
    exact e.symm
  intro Z
  exact re_tR hR e
theorem re_count {M : cb_M} {m : Nat} (hR : re_R M m) (x : Int32) : sp_X9_count [cb_i x] M (re_post re_c0 sp_X10_count [cb_i x] m) := by
  have e : cb_gI M 46 0 34 = cb_gI M 0 0 8 ∧ cb_gI M 46 0 1 = cb_gI M 0 0 1 := by
    obtain ⟨P, Q, A, c, t, -, -, -, -, -, ⟨⟨-, -, -, e1⟩, e2⟩, -, ⟨⟨e3, e4, -⟩, -⟩, -⟩ := hR
    exact ⟨e2.trans e1.symm, e4.trans e3.symm⟩
  intro Z
  exact re_tR hR (by rw [← e.1, ← e.2]; rfl)
theorem mi_in_mk {x lo hi : Int32} (h : ¬ (x < lo ∨ hi < x)) : mi_in x lo hi = true := decide_eq_true ⟨fun w => h (Or.inl w), fun w => h (Or.inr w)⟩
theorem wm_bc_1 : ∀ c, c < 256 → 1 ≤ c → ¬ wm_bc (nI c) < 1 := by decide +kernel
theorem re_hung {M : cb_M} {m : Nat} (hR : re_R M m) (those N what : Int32) : sp_X9_hung [cb_i those, cb_i N, cb_i what] M (re_post re_cI sp_X10_hung [cb_i those, cb_i N, cb_i what] m) := by
  obtain ⟨P, n, h, nb, hA, hM, hv, hO, hwt, hn, hh⟩ := re_get hR
  refine Exists.intro P (Exists.intro n (Exists.intro h (Exists.intro nb (And.intro hA ?_))))
  refine And.intro (fun w => ⟨_, rfl, n, h, nb, ⟨hM, hwt⟩, fun _ => re_tT hR rfl, fun _ _ k k1 k2 e _ => ?_⟩) (fun k k1 k2 ke => ?_)
  · exact absurd w (by
      rw [e]
      rintro (w | w)
      · have := (nI_ltI (by omega) (by omega)).mp w
        omega
      · have := (nI_ltI (by omega) (by omega)).mp w
        omega)
  refine And.intro (fun w => ⟨_, rfl, n, h, nb, ⟨hM, hwt⟩, fun _ => re_tT hR rfl, fun _ _ _ _ _ _ e => absurd w (mi_in_t e)⟩) (fun hw => ?_)
  refine And.intro (fun w => ⟨_, rfl, n, h, nb, ⟨hM, hwt⟩, fun _ => re_tT hR rfl, fun e _ _ _ _ _ _ => absurd w (mi_in_t e)⟩) (fun ht => ?_)
  have hb : mi_ones those = wm_bc those ∧ ¬ wm_bc those < 1 := by
    have ev := wm_all_val n hn
    have hp8 : 2 ^ n ≤ 2 ^ 8 := Nat.pow_le_pow_right (by omega) hn
    have hp1 : 1 ≤ 2 ^ n := Nat.one_le_two_pow
    have qn := ht
    rw [ev] at qn
    obtain ⟨c, c1, c2, ce⟩ := wg_r_yes (lo := 1) (hi := 2 ^ n) (x := those) (by omega) (fun w => qn (w.imp id (fun w => Int32.lt_of_le_of_lt (nI_le (by omega) (by omega)) w))) (by omega)
    have c3 : c ≤ 2 ^ n - 1 := by
      apply Classical.byContradiction
      intro w
      exact qn (Or.inr (by rw [ce]; exact nI_lt (by omega) (by omega)))
    rw [ce]
    exact ⟨mi_ones_bc c (by omega), wm_bc_1 c (by omega) c1⟩
  refine And.intro (fun w => ⟨_, rfl, n, h, nb, ⟨hM, hwt⟩, fun _ => re_tT hR rfl, fun _ e _ _ _ _ _ => ?_⟩) (fun hq => ?_)
  · rw [hb.1] at e
    exact absurd w (fun w => w.elim hb.2 e)
  intro M1 hF Z
  have hv1 : mv (re_lz M1 Z) n h nb = va M P n h nb := (mv_Z hF n h nb).trans hv.symm
  refine ⟨n, h, nb, ⟨mi_I_Z hF hM, fun i hi => by rw [show cb_gI (re_lz M1 Z) 67 0 i = cb_gI M 67 0 i from hF.1 67 0 i rfl]; exact hwt i hi⟩, fun w => ?_, fun _ _ k' k1' k2' e _ => ?_⟩
  · exfalso
    rcases w with w | w | w | w
    · rw [mi_in_mk ht] at w
      cases w
    · rw [hb.1] at w
      exact hq (Or.inr w)
    · have := mi_in_f w
      rw [ke] at this
      rcases this with w | w
      · have := (nI_ltI (a := k) (b := 1) (by omega) (by omega)).mp w
        omega
      · have := (nI_ltI (a := 100) (b := k) (by omega) (by omega)).mp w
        omega
    · rw [mi_in_mk hw] at w
      cases w
  · have := re_nI (ke.symm.trans e) (by omega) (by omega)
    subst this
    exact re_tR (re_Z hF hR) (by rw [hv1])
