/-! ===== the questions, of both ===== -/
def re_cI (x : Nat) : Option Int32 := if x = 0 then none else some 1
def re_cN (x : Nat) : Option Int32 := if x = 0 then some 1 else none
def re_c0 (_ : Nat) : Option Int32 := none
def re_c2 (x : Nat) : Option Int32 := if x = 0 then some 1 else some 2
/-- other longs -/
abbrev re_lz (M : cb_M) (Z : Nat → Nat → Nat → Int64) : cb_M := (M.1, M.2.1, Z)
theorem re_R.lz {M : cb_M} {m : Nat} {Z : Nat → Nat → Nat → Int64} (h : re_R M m) : re_R (re_lz M Z) m := re_keep (fun _ _ _ _ => rfl) (fun _ _ _ _ => rfl) h
theorem re_fr {S : Nat → Nat → Bool} {M M' : cb_M} {Z : Nat → Nat → Nat → Int64} (h : cb_fr S (re_lz M Z) M') : M'.2.2 = Z := by
  have := h.2
  rw [this]
theorem re_R.un {M : cb_M} {m : Nat} {Z : Nat → Nat → Nat → Int64} (h : re_R (re_lz M Z) m) : re_R M m := re_keep (fun _ _ _ _ => rfl) (fun _ _ _ _ => rfl) h
theorem re_R.lzE {M M2 : cb_M} {m : Nat} (h : re_R M m) (e : M2 = re_lz M M2.2.2) : re_R M2 m := by
  rw [e]
  exact h.lz
theorem re_frZ {S : Nat → Nat → Bool} {M M' : cb_M} {Z : Nat → Nat → Nat → Int64} (h : cb_fr S (re_lz M Z) M') : M'.2.2 = Z ∧ cb_fr S M (re_lz M' M.2.2) := by
  have e : M'.2 = (M.2.1, Z) := h.2
  refine ⟨by rw [e], h.1, ?_⟩
  show (M'.2.1, M.2.2) = M.2
  rw [e]
def re_post (cx : Nat → Option Int32) (spr : cb_Sp) (r : List cb_V) (m : Nat) : cb_Out → cb_M → Prop := fun o M1 => match o with
  | .inl (some (.inl v)) => ∀ Z, spr 0 r (re_lz M1 Z) (fun w M2 => w = some (cb_i v) ∧ cb_gI M2 46 0 0 = 0 ∧ M2.2.2 = Z ∧ re_R M2 m)
  | .inr x => ∃ c, cx x = some c ∧ spr 0 r M1 (fun w M2 => (∃ u, w = some (cb_i u)) ∧ cb_gI M2 46 0 0 = c ∧ re_R M2 m)
  | _ => False
theorem re_tT {M : cb_M} {m : Nat} (hR : re_R M m) {c c' : Int32} (hc : c = c') : mT c M (fun w M2 => (∃ u, w = some (cb_i u)) ∧ cb_gI M2 46 0 0 = c' ∧ re_R M2 m) := fun _ hF e => ⟨⟨0, rfl⟩, e.trans hc, re_X hF hR⟩
theorem re_tR {M : cb_M} {m : Nat} {Z : Nat → Nat → Nat → Int64} (hR : re_R M m) {v v' : Int32} (hv : v = v') : mR v (re_lz M Z) (fun w M2 => w = some (cb_i v') ∧ cb_gI M2 46 0 0 = 0 ∧ M2.2.2 = Z ∧ re_R M2 m) := fun _ hF e => ⟨by rw [hv], e, re_fr hF, re_X hF hR.lz⟩
theorem wg_no_nI {n i : Nat} (hn : n ≤ 8) (hi : i < n) : ¬ wg_no (nI i) n := fun w => by
  rcases w with w | w
  · exact (nI_pos (n := i) (by omega)) w
  · have := (nI_leI (by omega) (by omega)).mp w
    omega
theorem re_nI {i j : Nat} (h : nI i = nI j) (hi : i < 1000) (hj : j < 1000) : i = j := by
  have h1 := (nI_leI (a := i) (b := j) (by omega) (by omega)).mp (by rw [h]; exact Int32.le_refl _)
  have h2 := (nI_leI (a := j) (b := i) (by omega) (by omega)).mp (by rw [h]; exact Int32.le_refl _)
  omega
theorem wg_cN {n : Nat} {x : Int32} {X : Prop} {C : Nat → Prop} (hn : n ≤ 8) (w : wg_no x n) (hX : X) : wg_c n x X C := ⟨fun _ => hX, fun i hi e => absurd (e ▸ w) (wg_no_nI hn hi)⟩
theorem wg_cY {n i : Nat} {x : Int32} {X : Prop} {C : Nat → Prop} (hn : n ≤ 8) (hi : i < n) (e : x = nI i) (hC : C i) : wg_c n x X C := ⟨fun w => absurd (e ▸ w) (wg_no_nI hn hi), fun j hj e' => by
  have := re_nI (e.symm.trans e') (by omega) (by omega)
  subst this
  exact hC⟩
theorem wg_rN {lo hi : Nat} {x : Int32} {X : Prop} {C : Nat → Prop} (hh : hi < 1000) (w : x < nI lo ∨ nI hi < x) (hX : X) : wg_r lo hi x X C := ⟨fun _ => hX, fun k h1 h2 e => by
  subst e
  rcases w with w | w
  · have := (nI_ltI (by omega) (by omega)).mp w
    omega
  · have := (nI_ltI (by omega) (by omega)).mp w
    omega⟩
theorem wg_rY {lo hi k : Nat} {x : Int32} {X : Prop} {C : Nat → Prop} (hh : hi < 1000) (h1 : lo ≤ k) (h2 : k ≤ hi) (e : x = nI k) (hC : C k) : wg_r lo hi x X C := ⟨fun w => by
  subst e
  rcases w with w | w
  · have := (nI_ltI (by omega) (by omega)).mp w
    omega
  · have := (nI_ltI (by omega) (by omega)).mp w
    omega, fun j h3 h4 e' => by
  have := re_nI (e.symm.trans e') (by omega) (by omega)
  subst this
  exact hC⟩
theorem wg_iN {lo hi x : Int32} {X C : Prop} (w : x < lo ∨ hi < x) (hX : X) : wg_i lo hi x X C := ⟨fun _ => hX, fun h => absurd w h⟩
theorem wg_iY {lo hi x : Int32} {X C : Prop} (w : ¬ (x < lo ∨ hi < x)) (hC : C) : wg_i lo hi x X C := ⟨fun h => absurd h w, fun _ => hC⟩
theorem re_lo {t j : Nat} (h : ¬ (25 ≤ t ∧ t ≤ 44)) : fr_Z t j = false := by
  cases e : fr_Z t j with
  | false => rfl
  | true =>
    unfold fr_Z at e
    simp only [Bool.and_eq_true, Nat.ble_eq] at e
    exact absurd e h
theorem mi_I_Z {M M' : cb_M} (h : cb_fx fr_Z M M') {n hh nb : Nat} (hI : mi_I M n hh nb) : mi_I M' n hh nb := by
  unfold mi_I mk_G at *
  rw [h.1 49 0 1 rfl, h.1 49 0 2 rfl, h.1 49 0 0 rfl, h.1 49 0 4 rfl, h.1 46 0 33 rfl, h.1 46 0 41 rfl, h.1 46 0 44 rfl, h.1 46 0 45 rfl, h.fn 64 0 (fun _ => rfl), h.fn 65 0 (fun _ => rfl), h.fn 67 0 (fun _ => rfl), h.fn 55 0 (fun _ => rfl), h.fn 69 0 (fun _ => rfl), h.fn 72 0 (fun _ => rfl), h.fn 73 0 (fun _ => rfl)]
  exact hI
theorem mv_Z {M M' : cb_M} (h : cb_fx fr_Z M M') (n hh nb : Nat) : mv M' n hh nb = mv M n hh nb := by
  have e : ∀ i j, cb_gI M' 63 i j = cb_gI M 63 i j := fun i j => h.1 63 i j rfl
  unfold mv mk_b
  rw [h.1 49 0 3 rfl, h.1 49 0 4 rfl, h.1 46 0 33 rfl, h.fn 68 0 (fun _ => rfl), h.fn 67 0 (fun _ => rfl), h.fn 55 0 (fun _ => rfl), h.fn 66 0 (fun _ => rfl), h.fn 51 0 (fun _ => rfl), h.fn 53 0 (fun _ => rfl), h.fn 64 0 (fun _ => rfl), h.fn 65 0 (fun _ => rfl), h.fn 72 0 (fun _ => rfl), h.fn 73 0 (fun _ => rfl), h.fn 71 0 (fun _ => rfl), h.fn 69 0 (fun _ => rfl), h.fn 70 0 (fun _ => rfl)]
  simp only [e]
theorem re_told {M : cb_M} {m : Nat} (hR : re_R M m) (x : Int32) : sp_X9_told [cb_i x] M (re_post re_cI sp_X10_told [cb_i x] m) := by
  obtain ⟨P, n, h, nb, hA, hM, hv, hO, hwt, hn, hh⟩ := re_get hR
  refine Exists.intro P (Exists.intro n (Exists.intro h (Exists.intro nb (And.intro hA ?_))))
  refine And.intro (fun w => Exists.intro _ (And.intro rfl (Exists.intro n (Exists.intro h (Exists.intro nb (And.intro hM (wg_rN (by decide) w (re_tT hR rfl)))))))) (fun k0 ka0 kb0 ke0 => ?_)
  intro Z
  have hv1 : mv (re_lz M Z) n h nb = va M P n h nb := hv.symm
  exact Exists.intro n (Exists.intro h (Exists.intro nb (And.intro hM (wg_rY (by decide) ka0 kb0 ke0 (re_tR hR (by rw [hv1]))))))
theorem re_clock {M : cb_M} {m : Nat} (hR : re_R M m) (x y : Int32) : sp_X9_clock [cb_i x, cb_i y] M (re_post re_c2 sp_X10_clock [cb_i x, cb_i y] m) := by
  obtain ⟨P, n, h, nb, hA, hM, hv, hO, hwt, hn, hh⟩ := re_get hR
  refine Exists.intro P (Exists.intro n (Exists.intro h (Exists.intro nb (And.intro hA ?_))))
  refine And.intro (fun w => Exists.intro _ (And.intro rfl (Exists.intro n (Exists.intro h (Exists.intro nb (And.intro hM (wg_cN hn w (re_tT hR rfl)))))))) (fun i0 hi0 ei0 => ?_)
  refine And.intro (fun w => Exists.intro _ (And.intro rfl (Exists.intro n (Exists.intro h (Exists.intro nb (And.intro hM (wg_cY hn hi0 ei0 (wg_rN (by decide) w (re_tT hR rfl))))))))) (fun k1 ka1 kb1 ke1 => ?_)
  intro M1 hF Z
  have hv1 : mv (re_lz M1 Z) n h nb = va M P n h nb := (mv_Z hF n h nb).trans hv.symm
  exact Exists.intro n (Exists.intro h (Exists.intro nb (And.intro (mi_I_Z hF hM) (wg_cY hn hi0 ei0 (wg_rY (by decide) ka1 kb1 ke1 (re_tR (re_Z hF hR) (by rw [hv1])))))))
theorem re_hearing {M : cb_M} {m : Nat} (hR : re_R M m) (x y : Int32) : sp_X9_hearing [cb_i x, cb_i y] M (re_post re_c2 sp_X10_hearing [cb_i x, cb_i y] m) := by
  obtain ⟨P, n, h, nb, hA, hM, hv, hO, hwt, hn, hh⟩ := re_get hR
  refine Exists.intro P (Exists.intro n (Exists.intro h (Exists.intro nb (And.intro hA ?_))))
  refine And.intro (fun w => Exists.intro _ (And.intro rfl (Exists.intro n (Exists.intro h (Exists.intro nb (And.intro hM (wg_cN hn w (re_tT hR rfl)))))))) (fun i0 hi0 ei0 => ?_)
  refine And.intro (fun w => Exists.intro _ (And.intro rfl (Exists.intro n (Exists.intro h (Exists.intro nb (And.intro hM (wg_cY hn hi0 ei0 (wg_cN hn w (re_tT hR rfl))))))))) (fun j0 hj0 ej0 => ?_)
  refine And.intro (fun w => Exists.intro _ (And.intro rfl (Exists.intro n (Exists.intro h (Exists.intro nb (And.intro hM (wg_cY hn hi0 ei0 (wg_cY hn hj0 ej0 (And.intro (fun _ => re_tT hR rfl) (fun e => absurd w e)))))))))) (fun hij => ?_)
  intro M1 hF Z
  have hv1 : mv (re_lz M1 Z) n h nb = va M P n h nb := (mv_Z hF n h nb).trans hv.symm
  exact Exists.intro n (Exists.intro h (Exists.intro nb (And.intro (mi_I_Z hF hM) (wg_cY hn hi0 ei0 (wg_cY hn hj0 ej0 (And.intro (fun e => absurd e hij) (fun _ => re_tR (re_Z hF hR) (by rw [hv1]))))))))
theorem re_apart {M : cb_M} {m : Nat} (hR : re_R M m) (x y : Int32) : sp_X9_apart [cb_i x, cb_i y] M (re_post re_c2 sp_X10_apart [cb_i x, cb_i y] m) := by
  obtain ⟨P, n, h, nb, hA, hM, hv, hO, hwt, hn, hh⟩ := re_get hR
  refine Exists.intro P (Exists.intro n (Exists.intro h (Exists.intro nb (And.intro hA ?_))))
  refine And.intro (fun w => Exists.intro _ (And.intro rfl (Exists.intro n (Exists.intro h (Exists.intro nb (And.intro hM (wg_cN hn w (re_tT hR rfl)))))))) (fun i0 hi0 ei0 => ?_)
  refine And.intro (fun w => Exists.intro _ (And.intro rfl (Exists.intro n (Exists.intro h (Exists.intro nb (And.intro hM (wg_cY hn hi0 ei0 (wg_cN hn w (re_tT hR rfl))))))))) (fun j0 hj0 ej0 => ?_)
  refine And.intro (fun w => Exists.intro _ (And.intro rfl (Exists.intro n (Exists.intro h (Exists.intro nb (And.intro hM (wg_cY hn hi0 ei0 (wg_cY hn hj0 ej0 (And.intro (fun _ => re_tT hR rfl) (fun e => absurd w e)))))))))) (fun hij => ?_)
  intro M1 hF Z
  have hv1 : mv (re_lz M1 Z) n h nb = va M P n h nb := (mv_Z hF n h nb).trans hv.symm
  exact Exists.intro n (Exists.intro h (Exists.intro nb (And.intro (mi_I_Z hF hM) (wg_cY hn hi0 ei0 (wg_cY hn hj0 ej0 (And.intro (fun e => absurd e hij) (fun _ => re_tR (re_Z hF hR) (by rw [hv1]))))))))
theorem re_pull {M : cb_M} {m : Nat} (hR : re_R M m) (x : Int32) : sp_X9_pull [cb_i x] M (re_post re_cN sp_X10_pull [cb_i x] m) := by
  obtain ⟨P, n, h, nb, hA, hM, hv, hO, hwt, hn, hh⟩ := re_get hR
  refine Exists.intro P (Exists.intro n (Exists.intro h (Exists.intro nb (And.intro hA ?_))))
  refine And.intro (fun w => Exists.intro _ (And.intro rfl (Exists.intro n (Exists.intro h (Exists.intro nb (And.intro hM (wg_cN hn w (re_tT hR rfl)))))))) (fun i0 hi0 ei0 => ?_)
  intro M1 hF Z
  have hv1 : mv (re_lz M1 Z) n h nb = va M P n h nb := (mv_Z hF n h nb).trans hv.symm
  exact Exists.intro n (Exists.intro h (Exists.intro nb (And.intro (mi_I_Z hF hM) (wg_cY hn hi0 ei0 (re_tR (re_Z hF hR) (by rw [hv1]))))))
theorem re_step {M : cb_M} {m : Nat} (hR : re_R M m) (x y : Int32) : sp_X9_step [cb_i x, cb_i y] M (re_post re_c2 sp_X10_step [cb_i x, cb_i y] m) := by
  obtain ⟨P, n, h, nb, hA, hM, hv, hO, hwt, hn, hh⟩ := re_get hR
  refine Exists.intro P (Exists.intro n (Exists.intro h (Exists.intro nb (And.intro hA ?_))))
  refine And.intro (fun w => Exists.intro _ (And.intro rfl (Exists.intro n (Exists.intro h (Exists.intro nb (And.intro hM (wg_cN hn w (re_tT hR rfl)))))))) (fun i0 hi0 ei0 => ?_)
  refine And.intro (fun w => Exists.intro _ (And.intro rfl (Exists.intro n (Exists.intro h (Exists.intro nb (And.intro hM (wg_cY hn hi0 ei0 (wg_cN hn w (re_tT hR rfl))))))))) (fun j0 hj0 ej0 => ?_)
  refine And.intro (fun w => Exists.intro _ (And.intro rfl (Exists.intro n (Exists.intro h (Exists.intro nb (And.intro hM (wg_cY hn hi0 ei0 (wg_cY hn hj0 ej0 (And.intro (fun _ => re_tT hR rfl) (fun e => absurd w e)))))))))) (fun hij => ?_)
  intro M1 hF Z
  have hv1 : mv (re_lz M1 Z) n h nb = va M P n h nb := (mv_Z hF n h nb).trans hv.symm
  exact Exists.intro n (Exists.intro h (Exists.intro nb (And.intro (mi_I_Z hF hM) (wg_cY hn hi0 ei0 (wg_cY hn hj0 ej0 (And.intro (fun e => absurd e hij) (fun _ => re_tR (re_Z hF hR) (by rw [hv1]))))))))
theorem re_right {M : cb_M} {m : Nat} (hR : re_R M m) : sp_X9_right [] M (re_post re_c0 sp_X10_right [] m) := by
  obtain ⟨P, n, h, nb, hA, hM, hv, hO, hwt, hn, hh⟩ := re_get hR
  refine Exists.intro P (Exists.intro n (Exists.intro h (Exists.intro nb (And.intro hA ?_))))
  intro M1 hF Z
  have hv1 : mv (re_lz M1 Z) n h nb = va M P n h nb := (mv_Z hF n h nb).trans hv.symm
  exact Exists.intro n (Exists.intro h (Exists.intro nb (And.intro (mi_I_Z hF hM) (re_tR (re_Z hF hR) (by rw [hv1])))))
theorem re_groups {M : cb_M} {m : Nat} (hR : re_R M m) : sp_X9_groups [] M (re_post re_c0 sp_X10_groups [] m) := by
  obtain ⟨P, n, h, nb, hA, hM, hv, hO, hwt, hn, hh⟩ := re_get hR
  refine Exists.intro P (Exists.intro n (Exists.intro h (Exists.intro nb (And.intro hA ?_))))
  intro M1 hF Z
  have hv1 : mv (re_lz M1 Z) n h nb = va M P n h nb := (mv_Z hF n h nb).trans hv.symm
  exact Exists.intro n (Exists.intro h (Exists.intro nb (And.intro (mi_I_Z hF hM) (re_tR (re_Z hF hR) (by rw [hv1])))))
theorem re_bound {M : cb_M} {m : Nat} (hR : re_R M m) : sp_X9_bound [] M (re_post re_c0 sp_X10_bound [] m) := by
  obtain ⟨P, n, h, nb, hA, hM, hv, hO, hwt, hn, hh⟩ := re_get hR
  refine Exists.intro P (Exists.intro n (Exists.intro h (Exists.intro nb (And.intro hA ?_))))
  intro M1 hF Z
  have hv1 : mv (re_lz M1 Z) n h nb = va M P n h nb := (mv_Z hF n h nb).trans hv.symm
  exact Exists.intro n (Exists.intro h (Exists.intro nb (And.intro (mi_I_Z hF hM) (re_tR (re_Z hF hR) (by rw [hv1])))))
theorem re_off {M : cb_M} {m : Nat} (hR : re_R M m) (x N : Int32) : sp_X9_off [cb_i x, cb_i N] M (re_post re_c2 sp_X10_off [cb_i x, cb_i N] m) := by
  obtain ⟨P, n, h, nb, hA, hM, hv, hO, hwt, hn, hh⟩ := re_get hR
  refine Exists.intro P (Exists.intro n (Exists.intro h (Exists.intro nb (And.intro hA ?_))))
  refine And.intro (fun w => Exists.intro _ (And.intro rfl (Exists.intro n (Exists.intro h (Exists.intro nb (And.intro hM (wg_cN hn w (re_tT hR rfl)))))))) (fun i0 hi0 ei0 => ?_)
  refine And.intro (fun w => Exists.intro _ (And.intro rfl (Exists.intro n (Exists.intro h (Exists.intro nb (And.intro hM (wg_cY hn hi0 ei0 (wg_rN (by decide) w (re_tT hR rfl))))))))) (fun k1 ka1 kb1 ke1 => ?_)
  intro M1 hF Z
  have hv1 : mv (re_lz M1 Z) n h nb = va M P n h nb := (mv_Z hF n h nb).trans hv.symm
  exact Exists.intro n (Exists.intro h (Exists.intro nb (And.intro (mi_I_Z hF hM) (wg_cY hn hi0 ei0 (wg_rY (by decide) ka1 kb1 ke1 (re_tR (re_Z hF hR) (by rw [hv1])))))))
theorem re_hook {M : cb_M} {m : Nat} (hR : re_R M m) (x y : Int32) : sp_X9_hook [cb_i x, cb_i y] M (re_post re_c2 sp_X10_hook [cb_i x, cb_i y] m) := by
  obtain ⟨P, n, h, nb, hA, hM, hv, hO, hwt, hn, hh⟩ := re_get hR
  refine Exists.intro P (Exists.intro n (Exists.intro h (Exists.intro nb (And.intro hA ?_))))
  refine And.intro (fun w => Exists.intro _ (And.intro rfl (Exists.intro n (Exists.intro h (Exists.intro nb (And.intro hM (wg_cN (show h ≤ 8 by omega) w (re_tT hR rfl)))))))) (fun i0 hi0 ei0 => ?_)
  refine And.intro (fun w => Exists.intro _ (And.intro rfl (Exists.intro n (Exists.intro h (Exists.intro nb (And.intro hM (wg_cY (show h ≤ 8 by omega) hi0 ei0 (wg_rN (by decide) w (re_tT hR rfl))))))))) (fun k1 ka1 kb1 ke1 => ?_)
  intro Z
  have hv1 : mv (re_lz M Z) n h nb = va M P n h nb := hv.symm
  exact Exists.intro n (Exists.intro h (Exists.intro nb (And.intro hM (wg_cY (show h ≤ 8 by omega) hi0 ei0 (wg_rY (by decide) ka1 kb1 ke1 (re_tR hR (by rw [hv1])))))))
theorem re_standing {M : cb_M} {m : Nat} (hR : re_R M m) (N : Int32) : sp_X9_standing [cb_i N] M (re_post re_cI sp_X10_standing [cb_i N] m) := by
  obtain ⟨P, n, h, nb, hA, hM, hv, hO, hwt, hn, hh⟩ := re_get hR
  refine Exists.intro P (Exists.intro n (Exists.intro h (Exists.intro nb (And.intro hA ?_))))
  refine And.intro (fun w => Exists.intro _ (And.intro rfl (Exists.intro n (Exists.intro h (Exists.intro nb (And.intro hM (wg_rN (by decide) w (re_tT hR rfl)))))))) (fun k0 ka0 kb0 ke0 => ?_)
  intro M1 hF Z
  have hv1 : mv (re_lz M1 Z) n h nb = va M P n h nb := (mv_Z hF n h nb).trans hv.symm
  exact Exists.intro n (Exists.intro h (Exists.intro nb (And.intro (mi_I_Z hF hM) (wg_rY (by decide) ka0 kb0 ke0 (re_tR (re_Z hF hR) (by rw [hv1]))))))
theorem re_pushed {M : cb_M} {m : Nat} (hR : re_R M m) (q N : Int32) : sp_X9_pushed [cb_i q, cb_i N] M (re_post re_cI sp_X10_pushed [cb_i q, cb_i N] m) := by
  obtain ⟨P, n, h, nb, hA, hM, hv, hO, hwt, hn, hh⟩ := re_get hR
  refine Exists.intro P (Exists.intro n (Exists.intro h (Exists.intro nb (And.intro hA ?_))))
  refine And.intro (fun w => Exists.intro _ (And.intro rfl (Exists.intro n (Exists.intro h (Exists.intro nb (And.intro hM (wg_iN w (re_tT hR rfl)))))))) (fun w0 => ?_)
  refine And.intro (fun w => Exists.intro _ (And.intro rfl (Exists.intro n (Exists.intro h (Exists.intro nb (And.intro hM (wg_iY w0 (wg_rN (by decide) w (re_tT hR rfl))))))))) (fun k1 ka1 kb1 ke1 => ?_)
  intro M1 hF Z
  have hv1 : mv (re_lz M1 Z) n h nb = va M P n h nb := (mv_Z hF n h nb).trans hv.symm
  exact Exists.intro n (Exists.intro h (Exists.intro nb (And.intro (mi_I_Z hF hM) (wg_iY w0 (wg_rY (by decide) ka1 kb1 ke1 (re_tR (re_Z hF hR) (by rw [hv1])))))))
theorem re_beginnings {M : cb_M} {m : Nat} (hR : re_R M m) (x y N q : Int32) : sp_X9_beginnings [cb_i x, cb_i y, cb_i N, cb_i q] M (re_post re_c2 sp_X10_beginnings [cb_i x, cb_i y, cb_i N, cb_i q] m) := by
  obtain ⟨P, n, h, nb, hA, hM, hv, hO, hwt, hn, hh⟩ := re_get hR
  refine Exists.intro P (Exists.intro n (Exists.intro h (Exists.intro nb (And.intro hA ?_))))
  refine And.intro (fun w => Exists.intro _ (And.intro rfl (Exists.intro n (Exists.intro h (Exists.intro nb (And.intro hM (wg_cN hn w (re_tT hR rfl)))))))) (fun i0 hi0 ei0 => ?_)
  refine And.intro (fun w => Exists.intro _ (And.intro rfl (Exists.intro n (Exists.intro h (Exists.intro nb (And.intro hM (wg_cY hn hi0 ei0 (wg_cN hn w (re_tT hR rfl))))))))) (fun j0 hj0 ej0 => ?_)
  refine And.intro (fun w => Exists.intro _ (And.intro rfl (Exists.intro n (Exists.intro h (Exists.intro nb (And.intro hM (wg_cY hn hi0 ei0 (wg_cY hn hj0 ej0 (And.intro (fun _ => re_tT hR rfl) (fun e => absurd w e)))))))))) (fun hij => ?_)
  refine And.intro (fun w => Exists.intro _ (And.intro rfl (Exists.intro n (Exists.intro h (Exists.intro nb (And.intro hM (wg_cY hn hi0 ei0 (wg_cY hn hj0 ej0 (And.intro (fun e => absurd e hij) (fun _ => wg_rN (by decide) w (re_tT hR rfl))))))))))) (fun k1 ka1 kb1 ke1 => ?_)
  refine And.intro (fun w => Exists.intro _ (And.intro rfl (Exists.intro n (Exists.intro h (Exists.intro nb (And.intro hM (wg_cY hn hi0 ei0 (wg_cY hn hj0 ej0 (And.intro (fun e => absurd e hij) (fun _ => wg_rY (by decide) ka1 kb1 ke1 (wg_iN w (re_tT hR rfl)))))))))))) (fun w2 => ?_)
  intro M1 hF Z
  have hv1 : mv (re_lz M1 Z) n h nb = va M P n h nb := (mv_Z hF n h nb).trans hv.symm
  exact Exists.intro n (Exists.intro h (Exists.intro nb (And.intro (mi_I_Z hF hM) (wg_cY hn hi0 ei0 (wg_cY hn hj0 ej0 (And.intro (fun e => absurd e hij) (fun _ => wg_rY (by decide) ka1 kb1 ke1 (wg_iY w2 (re_tR (re_Z hF hR) (by rw [hv1]))))))))))
theorem re_away {M : cb_M} {m : Nat} (hR : re_R M m) (x N : Int32) : sp_X9_away [cb_i x, cb_i N] M (re_post re_c2 sp_X10_away [cb_i x, cb_i N] m) := by
  obtain ⟨P, n, h, nb, hA, hM, hv, hO, hwt, hn, hh⟩ := re_get hR
  refine Exists.intro P (Exists.intro n (Exists.intro h (Exists.intro nb (And.intro hA ?_))))
  refine And.intro (fun w => Exists.intro _ (And.intro rfl (Exists.intro n (Exists.intro h (Exists.intro nb (And.intro hM (wg_cN hn w (re_tT hR rfl)))))))) (fun i0 hi0 ei0 => ?_)
  refine And.intro (fun w => Exists.intro _ (And.intro rfl (Exists.intro n (Exists.intro h (Exists.intro nb (And.intro hM (wg_cY hn hi0 ei0 (wg_rN (by decide) w (re_tT hR rfl))))))))) (fun k1 ka1 kb1 ke1 => ?_)
  intro M1 hF Z
  have hv1 : mv (re_lz M1 Z) n h nb = va M P n h nb := (mv_Z hF n h nb).trans hv.symm
  exact Exists.intro n (Exists.intro h (Exists.intro nb (And.intro (mi_I_Z hF hM) (wg_cY hn hi0 ei0 (wg_rY (by decide) ka1 kb1 ke1 (re_tR (re_Z hF hR) (by rw [hv1])))))))
theorem re_hold {M : cb_M} {m : Nat} (hR : re_R M m) (N : Int32) : sp_X9_hold [cb_i N] M (re_post re_cI sp_X10_hold [cb_i N] m) := by
  obtain ⟨P, n, h, nb, hA, hM, hv, hO, hwt, hn, hh⟩ := re_get hR
  refine Exists.intro P (Exists.intro n (Exists.intro h (Exists.intro nb (And.intro hA ?_))))
  refine And.intro (fun w => Exists.intro _ (And.intro rfl (Exists.intro n (Exists.intro h (Exists.intro nb (And.intro hM (wg_rN (by decide) w (re_tT hR rfl)))))))) (fun k0 ka0 kb0 ke0 => ?_)
  intro M1 hF Z
  have hv1 : mv (re_lz M1 Z) n h nb = va M P n h nb := (mv_Z hF n h nb).trans hv.symm
  exact Exists.intro n (Exists.intro h (Exists.intro nb (And.intro (mi_I_Z hF hM) (wg_rY (by decide) ka0 kb0 ke0 (re_tR (re_Z hF hR) (by rw [hv1]))))))
theorem re_own {M : cb_M} {m : Nat} (hR : re_R M m) (x o d N q : Int32) : sp_X9_own [cb_i x, cb_i o, cb_i d, cb_i N, cb_i q] M (re_post re_c2 sp_X10_own [cb_i x, cb_i o, cb_i d, cb_i N, cb_i q] m) := by
  obtain ⟨P, n, h, nb, hA, hM, hv, hO, hwt, hn, hh⟩ := re_get hR
  refine Exists.intro P (Exists.intro n (Exists.intro h (Exists.intro nb (And.intro hA ?_))))
  refine And.intro (fun w => Exists.intro _ (And.intro rfl (Exists.intro n (Exists.intro h (Exists.intro nb (And.intro ⟨hM, hO⟩ (wg_cN hn w (re_tT hR rfl)))))))) (fun i0 hi0 ei0 => ?_)
  refine And.intro (fun w => Exists.intro _ (And.intro rfl (Exists.intro n (Exists.intro h (Exists.intro nb (And.intro ⟨hM, hO⟩ (wg_cY hn hi0 ei0 (wg_iN w (re_tT hR rfl))))))))) (fun w1 => ?_)
  refine And.intro (fun w => Exists.intro _ (And.intro rfl (Exists.intro n (Exists.intro h (Exists.intro nb (And.intro ⟨hM, hO⟩ (wg_cY hn hi0 ei0 (wg_iY w1 (wg_iN w (re_tT hR rfl)))))))))) (fun w2 => ?_)
  refine And.intro (fun w => Exists.intro _ (And.intro rfl (Exists.intro n (Exists.intro h (Exists.intro nb (And.intro ⟨hM, hO⟩ (wg_cY hn hi0 ei0 (wg_iY w1 (wg_iY w2 (wg_rN (by decide) w (re_tT hR rfl))))))))))) (fun k3 ka3 kb3 ke3 => ?_)
  refine And.intro (fun w => Exists.intro _ (And.intro rfl (Exists.intro n (Exists.intro h (Exists.intro nb (And.intro ⟨hM, hO⟩ (wg_cY hn hi0 ei0 (wg_iY w1 (wg_iY w2 (wg_rY (by decide) ka3 kb3 ke3 (wg_iN w (re_tT hR rfl)))))))))))) (fun w4 => ?_)
  intro M1 hF Z
  have hv1 : mv (re_lz M1 Z) n h nb = va M P n h nb := (mv_Z hF n h nb).trans hv.symm
  have hO1 : wO (mv (re_lz M1 Z) n h nb) := by
    rw [hv1, hv]
    exact hO
  exact Exists.intro n (Exists.intro h (Exists.intro nb (And.intro ⟨mi_I_Z hF hM, hO1⟩ (wg_cY hn hi0 ei0 (wg_iY w1 (wg_iY w2 (wg_rY (by decide) ka3 kb3 ke3 (wg_iY w4 (re_tR (re_Z hF hR) (by rw [hv1]))))))))))
theorem re_look {M : cb_M} {m : Nat} (hR : re_R M m) (x N q : Int32) : sp_X9_look [cb_i x, cb_i N, cb_i q] M (re_post re_c2 sp_X10_look [cb_i x, cb_i N, cb_i q] m) := by
  obtain ⟨P, n, h, nb, hA, hM, hv, hO, hwt, hn, hh⟩ := re_get hR
  refine Exists.intro P (Exists.intro n (Exists.intro h (Exists.intro nb (And.intro hA ?_))))
  refine And.intro (fun w => Exists.intro _ (And.intro rfl (Exists.intro n (Exists.intro h (Exists.intro nb (And.intro hM (wg_cN hn w (re_tT hR rfl)))))))) (fun i0 hi0 ei0 => ?_)
  refine And.intro (fun w => Exists.intro _ (And.intro rfl (Exists.intro n (Exists.intro h (Exists.intro nb (And.intro hM (wg_cY hn hi0 ei0 (wg_rN (by decide) w (re_tT hR rfl))))))))) (fun k1 ka1 kb1 ke1 => ?_)
  refine And.intro (fun w => Exists.intro _ (And.intro rfl (Exists.intro n (Exists.intro h (Exists.intro nb (And.intro hM (wg_cY hn hi0 ei0 (wg_rY (by decide) ka1 kb1 ke1 (wg_iN w (re_tT hR rfl)))))))))) (fun w2 => ?_)
  intro M1 hF Z
  have hv1 : mv (re_lz M1 Z) n h nb = va M P n h nb := (mv_Z hF n h nb).trans hv.symm
  exact Exists.intro n (Exists.intro h (Exists.intro nb (And.intro (mi_I_Z hF hM) (wg_cY hn hi0 ei0 (wg_rY (by decide) ka1 kb1 ke1 (wg_iY w2 (re_tR (re_Z hF hR) (by rw [hv1]))))))))
theorem re_infected {M : cb_M} {m : Nat} (hR : re_R M m) (N : Int32) : sp_X9_infected [cb_i N] M (re_post re_cI sp_X10_infected [cb_i N] m) := by
  obtain ⟨P, n, h, nb, hA, hM, hv, hO, hwt, hn, hh⟩ := re_get hR
  refine Exists.intro P (Exists.intro n (Exists.intro h (Exists.intro nb (And.intro hA ?_))))
  refine And.intro (fun w => Exists.intro _ (And.intro rfl (Exists.intro n (Exists.intro h (Exists.intro nb (And.intro hM (wg_rN (by decide) w (re_tT hR rfl)))))))) (fun k0 ka0 kb0 ke0 => ?_)
  intro M1 hF Z
  have hv1 : mv (re_lz M1 Z) n h nb = va M P n h nb := (mv_Z hF n h nb).trans hv.symm
  exact Exists.intro n (Exists.intro h (Exists.intro nb (And.intro (mi_I_Z hF hM) (wg_rY (by decide) ka0 kb0 ke0 (re_tR (re_Z hF hR) (by rw [hv1]))))))
theorem re_fraud {M : cb_M} {m : Nat} (hR : re_R M m) (x N : Int32) : sp_X9_fraud [cb_i x, cb_i N] M (re_post re_c2 sp_X10_fraud [cb_i x, cb_i N] m) := by
  obtain ⟨P, n, h, nb, hA, hM, hv, hO, hwt, hn, hh⟩ := re_get hR
  refine Exists.intro P (Exists.intro n (Exists.intro h (Exists.intro nb (And.intro hA ?_))))
  refine And.intro (fun w => Exists.intro _ (And.intro rfl (Exists.intro n (Exists.intro h (Exists.intro nb (And.intro hM (wg_cN hn w (re_tT hR rfl)))))))) (fun i0 hi0 ei0 => ?_)
  refine And.intro (fun w => Exists.intro _ (And.intro rfl (Exists.intro n (Exists.intro h (Exists.intro nb (And.intro hM (wg_cY hn hi0 ei0 (wg_rN (by decide) w (re_tT hR rfl))))))))) (fun k1 ka1 kb1 ke1 => ?_)
  intro M1 hF Z
  have hv1 : mv (re_lz M1 Z) n h nb = va M P n h nb := (mv_Z hF n h nb).trans hv.symm
  exact Exists.intro n (Exists.intro h (Exists.intro nb (And.intro (mi_I_Z hF hM) (wg_cY hn hi0 ei0 (wg_rY (by decide) ka1 kb1 ke1 (re_tR (re_Z hF hR) (by rw [hv1])))))))
theorem re_stays {M : cb_M} {m : Nat} (hR : re_R M m) (x y q : Int32) : sp_X9_stays [cb_i x, cb_i y, cb_i q] M (re_post re_c2 sp_X10_stays [cb_i x, cb_i y, cb_i q] m) := by
  obtain ⟨P, n, h, nb, hA, hM, hv, hO, hwt, hn, hh⟩ := re_get hR
  refine Exists.intro P (Exists.intro n (Exists.intro h (Exists.intro nb (And.intro hA ?_))))
  refine And.intro (fun w => Exists.intro _ (And.intro rfl (Exists.intro n (Exists.intro h (Exists.intro nb (And.intro hM (wg_cN hn w (re_tT hR rfl)))))))) (fun i0 hi0 ei0 => ?_)
  refine And.intro (fun w => Exists.intro _ (And.intro rfl (Exists.intro n (Exists.intro h (Exists.intro nb (And.intro hM (wg_cY hn hi0 ei0 (wg_cN hn w (re_tT hR rfl))))))))) (fun j0 hj0 ej0 => ?_)
  refine And.intro (fun w => Exists.intro _ (And.intro rfl (Exists.intro n (Exists.intro h (Exists.intro nb (And.intro hM (wg_cY hn hi0 ei0 (wg_cY hn hj0 ej0 (And.intro (fun _ => re_tT hR rfl) (fun e => absurd w e)))))))))) (fun hij => ?_)
  refine And.intro (fun w => Exists.intro _ (And.intro rfl (Exists.intro n (Exists.intro h (Exists.intro nb (And.intro hM (wg_cY hn hi0 ei0 (wg_cY hn hj0 ej0 (And.intro (fun e => absurd e hij) (fun _ => wg_iN w (re_tT hR rfl))))))))))) (fun w1 => ?_)
  intro M1 hF Z
  have hv1 : mv (re_lz M1 Z) n h nb = va M P n h nb := (mv_Z hF n h nb).trans hv.symm
  exact Exists.intro n (Exists.intro h (Exists.intro nb (And.intro (mi_I_Z hF hM) (wg_cY hn hi0 ei0 (wg_cY hn hj0 ej0 (And.intro (fun e => absurd e hij) (fun _ => wg_iY w1 (re_tR (re_Z hF hR) (by rw [hv1])))))))))
theorem re_drawn {M : cb_M} {m : Nat} (hR : re_R M m) (x y d N : Int32) : sp_X9_drawn [cb_i x, cb_i y, cb_i d, cb_i N] M (re_post re_c2 sp_X10_drawn [cb_i x, cb_i y, cb_i d, cb_i N] m) := by
  obtain ⟨P, n, h, nb, hA, hM, hv, hO, hwt, hn, hh⟩ := re_get hR
  refine Exists.intro P (Exists.intro n (Exists.intro h (Exists.intro nb (And.intro hA ?_))))
  refine And.intro (fun w => Exists.intro _ (And.intro rfl (Exists.intro n (Exists.intro h (Exists.intro nb (And.intro hM (wg_cN hn w (re_tT hR rfl)))))))) (fun i0 hi0 ei0 => ?_)
  refine And.intro (fun w => Exists.intro _ (And.intro rfl (Exists.intro n (Exists.intro h (Exists.intro nb (And.intro hM (wg_cY hn hi0 ei0 (wg_cN hn w (re_tT hR rfl))))))))) (fun j0 hj0 ej0 => ?_)
  refine And.intro (fun w => Exists.intro _ (And.intro rfl (Exists.intro n (Exists.intro h (Exists.intro nb (And.intro hM (wg_cY hn hi0 ei0 (wg_cY hn hj0 ej0 (And.intro (fun _ => re_tT hR rfl) (fun e => absurd w e)))))))))) (fun hij => ?_)
  refine And.intro (fun w => Exists.intro _ (And.intro rfl (Exists.intro n (Exists.intro h (Exists.intro nb (And.intro hM (wg_cY hn hi0 ei0 (wg_cY hn hj0 ej0 (And.intro (fun e => absurd e hij) (fun _ => wg_iN w (re_tT hR rfl))))))))))) (fun w1 => ?_)
  refine And.intro (fun w => Exists.intro _ (And.intro rfl (Exists.intro n (Exists.intro h (Exists.intro nb (And.intro hM (wg_cY hn hi0 ei0 (wg_cY hn hj0 ej0 (And.intro (fun e => absurd e hij) (fun _ => wg_iY w1 (wg_rN (by decide) w (re_tT hR rfl)))))))))))) (fun k2 ka2 kb2 ke2 => ?_)
  intro M1 hF Z
  have hv1 : mv (re_lz M1 Z) n h nb = va M P n h nb := (mv_Z hF n h nb).trans hv.symm
  exact Exists.intro n (Exists.intro h (Exists.intro nb (And.intro (mi_I_Z hF hM) (wg_cY hn hi0 ei0 (wg_cY hn hj0 ej0 (And.intro (fun e => absurd e hij) (fun _ => wg_iY w1 (wg_rY (by decide) ka2 kb2 ke2 (re_tR (re_Z hF hR) (by rw [hv1]))))))))))
theorem re_comes {M : cb_M} {m : Nat} (hR : re_R M m) (x y N q : Int32) : sp_X9_comes [cb_i x, cb_i y, cb_i N, cb_i q] M (re_post re_c2 sp_X10_comes [cb_i x, cb_i y, cb_i N, cb_i q] m) := by
  obtain ⟨P, n, h, nb, hA, hM, hv, hO, hwt, hn, hh⟩ := re_get hR
  refine Exists.intro P (Exists.intro n (Exists.intro h (Exists.intro nb (And.intro hA ?_))))
  refine And.intro (fun w => Exists.intro _ (And.intro rfl (Exists.intro n (Exists.intro h (Exists.intro nb (And.intro hM (wg_cN hn w (re_tT hR rfl)))))))) (fun i0 hi0 ei0 => ?_)
  refine And.intro (fun w => Exists.intro _ (And.intro rfl (Exists.intro n (Exists.intro h (Exists.intro nb (And.intro hM (wg_cY hn hi0 ei0 (wg_cN hn w (re_tT hR rfl))))))))) (fun j0 hj0 ej0 => ?_)
  refine And.intro (fun w => Exists.intro _ (And.intro rfl (Exists.intro n (Exists.intro h (Exists.intro nb (And.intro hM (wg_cY hn hi0 ei0 (wg_cY hn hj0 ej0 (And.intro (fun _ => re_tT hR rfl) (fun e => absurd w e)))))))))) (fun hij => ?_)
  refine And.intro (fun w => Exists.intro _ (And.intro rfl (Exists.intro n (Exists.intro h (Exists.intro nb (And.intro hM (wg_cY hn hi0 ei0 (wg_cY hn hj0 ej0 (And.intro (fun e => absurd e hij) (fun _ => wg_rN (by decide) w (re_tT hR rfl))))))))))) (fun k1 ka1 kb1 ke1 => ?_)
  refine And.intro (fun w => Exists.intro _ (And.intro rfl (Exists.intro n (Exists.intro h (Exists.intro nb (And.intro hM (wg_cY hn hi0 ei0 (wg_cY hn hj0 ej0 (And.intro (fun e => absurd e hij) (fun _ => wg_rY (by decide) ka1 kb1 ke1 (wg_iN w (re_tT hR rfl)))))))))))) (fun w2 => ?_)
  intro M1 hF Z
  have hv1 : mv (re_lz M1 Z) n h nb = va M P n h nb := (mv_Z hF n h nb).trans hv.symm
  exact Exists.intro n (Exists.intro h (Exists.intro nb (And.intro (mi_I_Z hF hM) (wg_cY hn hi0 ei0 (wg_cY hn hj0 ej0 (And.intro (fun e => absurd e hij) (fun _ => wg_rY (by decide) ka1 kb1 ke1 (wg_iY w2 (re_tR (re_Z hF hR) (by rw [hv1]))))))))))
theorem re_leader {M : cb_M} {m : Nat} (hR : re_R M m) (N : Int32) : sp_X9_leader [cb_i N] M (re_post re_cI sp_X10_leader [cb_i N] m) := by
  obtain ⟨P, n, h, nb, hA, hM, hv, hO, hwt, hn, hh⟩ := re_get hR
  refine Exists.intro P (Exists.intro n (Exists.intro h (Exists.intro nb (And.intro hA ?_))))
  refine And.intro (fun w => Exists.intro _ (And.intro rfl (Exists.intro n (Exists.intro h (Exists.intro nb (And.intro ⟨hM, hO⟩ (wg_rN (by decide) w (re_tT hR rfl)))))))) (fun k0 ka0 kb0 ke0 => ?_)
  intro M1 hF Z
  have hv1 : mv (re_lz M1 Z) n h nb = va M P n h nb := (mv_Z hF n h nb).trans hv.symm
  have hO1 : wO (mv (re_lz M1 Z) n h nb) := by
    rw [hv1, hv]
    exact hO
  exact Exists.intro n (Exists.intro h (Exists.intro nb (And.intro ⟨mi_I_Z hF hM, hO1⟩ (wg_rY (by decide) ka0 kb0 ke0 (re_tR (re_Z hF hR) (by rw [hv1]))))))
theorem re_better {M : cb_M} {m : Nat} (hR : re_R M m) (N q : Int32) : sp_X9_better [cb_i N, cb_i q] M (re_post re_cI sp_X10_better [cb_i N, cb_i q] m) := by
  obtain ⟨P, n, h, nb, hA, hM, hv, hO, hwt, hn, hh⟩ := re_get hR
  refine Exists.intro P (Exists.intro n (Exists.intro h (Exists.intro nb (And.intro hA ?_))))
  refine And.intro (fun w => Exists.intro _ (And.intro rfl (Exists.intro n (Exists.intro h (Exists.intro nb (And.intro hM (wg_rN (by decide) w (re_tT hR rfl)))))))) (fun k0 ka0 kb0 ke0 => ?_)
  refine And.intro (fun w => Exists.intro _ (And.intro rfl (Exists.intro n (Exists.intro h (Exists.intro nb (And.intro hM (wg_rY (by decide) ka0 kb0 ke0 (wg_iN w (re_tT hR rfl))))))))) (fun w1 => ?_)
  intro M1 hF Z
  have hv1 : mv (re_lz M1 Z) n h nb = va M P n h nb := (mv_Z hF n h nb).trans hv.symm
  exact Exists.intro n (Exists.intro h (Exists.intro nb (And.intro (mi_I_Z hF hM) (wg_rY (by decide) ka0 kb0 ke0 (wg_iY w1 (re_tR (re_Z hF hR) (by rw [hv1])))))))
theorem re_wanted {M : cb_M} {m : Nat} (hR : re_R M m) (x o N q : Int32) : sp_X9_wanted [cb_i x, cb_i o, cb_i N, cb_i q] M (re_post re_c2 sp_X10_wanted [cb_i x, cb_i o, cb_i N, cb_i q] m) := by
  obtain ⟨P, n, h, nb, hA, hM, hv, hO, hwt, hn, hh⟩ := re_get hR
  refine Exists.intro P (Exists.intro n (Exists.intro h (Exists.intro nb (And.intro hA ?_))))
  refine And.intro (fun w => Exists.intro _ (And.intro rfl (Exists.intro n (Exists.intro h (Exists.intro nb (And.intro ⟨hM, hO⟩ (wg_cN hn w (re_tT hR rfl)))))))) (fun i0 hi0 ei0 => ?_)
  refine And.intro (fun w => Exists.intro _ (And.intro rfl (Exists.intro n (Exists.intro h (Exists.intro nb (And.intro ⟨hM, hO⟩ (wg_cY hn hi0 ei0 (wg_iN w (re_tT hR rfl))))))))) (fun w1 => ?_)
  refine And.intro (fun w => Exists.intro _ (And.intro rfl (Exists.intro n (Exists.intro h (Exists.intro nb (And.intro ⟨hM, hO⟩ (wg_cY hn hi0 ei0 (wg_iY w1 (wg_rN (by decide) w (re_tT hR rfl)))))))))) (fun k2 ka2 kb2 ke2 => ?_)
  refine And.intro (fun w => Exists.intro _ (And.intro rfl (Exists.intro n (Exists.intro h (Exists.intro nb (And.intro ⟨hM, hO⟩ (wg_cY hn hi0 ei0 (wg_iY w1 (wg_rY (by decide) ka2 kb2 ke2 (wg_iN w (re_tT hR rfl))))))))))) (fun w3 => ?_)
  intro M1 hF Z
  have hv1 : mv (re_lz M1 Z) n h nb = va M P n h nb := (mv_Z hF n h nb).trans hv.symm
  have hO1 : wO (mv (re_lz M1 Z) n h nb) := by
    rw [hv1, hv]
    exact hO
  exact Exists.intro n (Exists.intro h (Exists.intro nb (And.intro ⟨mi_I_Z hF hM, hO1⟩ (wg_cY hn hi0 ei0 (wg_iY w1 (wg_rY (by decide) ka2 kb2 ke2 (wg_iY w3 (re_tR (re_Z hF hR) (by rw [hv1])))))))))
theorem re_sale {M : cb_M} {m : Nat} (hR : re_R M m) (x N : Int32) : sp_X9_sale [cb_i x, cb_i N] M (re_post re_c2 sp_X10_sale [cb_i x, cb_i N] m) := by
  obtain ⟨P, n, h, nb, hA, hM, hv, hO, hwt, hn, hh⟩ := re_get hR
  refine Exists.intro P (Exists.intro n (Exists.intro h (Exists.intro nb (And.intro hA ?_))))
  refine And.intro (fun w => Exists.intro _ (And.intro rfl (Exists.intro n (Exists.intro h (Exists.intro nb (And.intro hM (wg_cN hn w (re_tT hR rfl)))))))) (fun i0 hi0 ei0 => ?_)
  refine And.intro (fun w => Exists.intro _ (And.intro rfl (Exists.intro n (Exists.intro h (Exists.intro nb (And.intro hM (wg_cY hn hi0 ei0 (wg_rN (by decide) w (re_tT hR rfl))))))))) (fun k1 ka1 kb1 ke1 => ?_)
  intro M1 hF Z
  have hv1 : mv (re_lz M1 Z) n h nb = va M P n h nb := (mv_Z hF n h nb).trans hv.symm
  exact Exists.intro n (Exists.intro h (Exists.intro nb (And.intro (mi_I_Z hF hM) (wg_cY hn hi0 ei0 (wg_rY (by decide) ka1 kb1 ke1 (re_tR (re_Z hF hR) (by rw [hv1])))))))
theorem re_honest {M : cb_M} {m : Nat} (hR : re_R M m) (N : Int32) : sp_X9_honest [cb_i N] M (re_post re_cI sp_X10_honest [cb_i N] m) := by
  obtain ⟨P, n, h, nb, hA, hM, hv, hO, hwt, hn, hh⟩ := re_get hR
  refine Exists.intro P (Exists.intro n (Exists.intro h (Exists.intro nb (And.intro hA ?_))))
  refine And.intro (fun w => Exists.intro _ (And.intro rfl (Exists.intro n (Exists.intro h (Exists.intro nb (And.intro hM (wg_rN (by decide) w (re_tT hR rfl)))))))) (fun k0 ka0 kb0 ke0 => ?_)
  intro M1 hF Z
  have hv1 : mv (re_lz M1 Z) n h nb = va M P n h nb := (mv_Z hF n h nb).trans hv.symm
  exact Exists.intro n (Exists.intro h (Exists.intro nb (And.intro (mi_I_Z hF hM) (wg_rY (by decide) ka0 kb0 ke0 (re_tR (re_Z hF hR) (by rw [hv1]))))))
theorem re_winter {M : cb_M} {m : Nat} (hR : re_R M m) (x N z : Int32) : sp_X9_winter [cb_i x, cb_i N, cb_i z] M (re_post re_c2 sp_X10_winter [cb_i x, cb_i N, cb_i z] m) := by
  obtain ⟨P, n, h, nb, hA, hM, hv, hO, hwt, hn, hh⟩ := re_get hR
  refine Exists.intro P (Exists.intro n (Exists.intro h (Exists.intro nb (And.intro hA ?_))))
  refine And.intro (fun w => Exists.intro _ (And.intro rfl (Exists.intro n (Exists.intro h (Exists.intro nb (And.intro hM (wg_cN hn w (re_tT hR rfl)))))))) (fun i0 hi0 ei0 => ?_)
  refine And.intro (fun w => Exists.intro _ (And.intro rfl (Exists.intro n (Exists.intro h (Exists.intro nb (And.intro hM (wg_cY hn hi0 ei0 (wg_rN (by decide) w (re_tT hR rfl))))))))) (fun k1 ka1 kb1 ke1 => ?_)
  intro M1 hF Z
  have hv1 : mv (re_lz M1 Z) n h nb = va M P n h nb := (mv_Z hF n h nb).trans hv.symm
  exact Exists.intro n (Exists.intro h (Exists.intro nb (And.intro (mi_I_Z hF hM) (wg_cY hn hi0 ei0 (wg_rY (by decide) ka1 kb1 ke1 (re_tR (re_Z hF hR) (by rw [hv1])))))))
theorem re_winters {M : cb_M} {m : Nat} (hR : re_R M m) (x N z c : Int32) : sp_X9_winters [cb_i x, cb_i N, cb_i z, cb_i c] M (re_post re_c2 sp_X10_winters [cb_i x, cb_i N, cb_i z, cb_i c] m) := by
  obtain ⟨P, n, h, nb, hA, hM, hv, hO, hwt, hn, hh⟩ := re_get hR
  refine Exists.intro P (Exists.intro n (Exists.intro h (Exists.intro nb (And.intro hA ?_))))
  refine And.intro (fun w => Exists.intro _ (And.intro rfl (Exists.intro n (Exists.intro h (Exists.intro nb (And.intro hM (wg_cN hn w (re_tT hR rfl)))))))) (fun i0 hi0 ei0 => ?_)
  refine And.intro (fun w => Exists.intro _ (And.intro rfl (Exists.intro n (Exists.intro h (Exists.intro nb (And.intro hM (wg_cY hn hi0 ei0 (wg_rN (by decide) w (re_tT hR rfl))))))))) (fun k1 ka1 kb1 ke1 => ?_)
  refine And.intro (fun w => Exists.intro _ (And.intro rfl (Exists.intro n (Exists.intro h (Exists.intro nb (And.intro hM (wg_cY hn hi0 ei0 (wg_rY (by decide) ka1 kb1 ke1 (wg_rN (by decide) w (re_tT hR rfl)))))))))) (fun k2 ka2 kb2 ke2 => ?_)
  intro M1 hF Z
  have hv1 : mv (re_lz M1 Z) n h nb = va M P n h nb := (mv_Z hF n h nb).trans hv.symm
  exact Exists.intro n (Exists.intro h (Exists.intro nb (And.intro (mi_I_Z hF hM) (wg_cY hn hi0 ei0 (wg_rY (by decide) ka1 kb1 ke1 (wg_rY (by decide) ka2 kb2 ke2 (re_tR (re_Z hF hR) (by rw [hv1]))))))))
