/-! ===== branches, loops, frames ===== -/
theorem cb_ifz {b : Bool} {A B : Prop} (h0 : b = false → A) (h1 : b = true → B) : (cb_z b = 0 → A) ∧ (¬ cb_z b = 0 → B) := by
  cases b
  · exact ⟨fun _ => h0 rfl, fun q => absurd rfl q⟩
  · exact ⟨fun q => absurd q (by decide), fun _ => h1 rfl⟩
theorem cb_ifn1 {b : Bool} {A B : Prop} (h0 : b = false → A) (h1 : b = true → B) : (¬ cb_z b = 1 → A) ∧ (¬ ¬ cb_z b = 1 → B) := by
  cases b
  · exact ⟨fun _ => h0 rfl, fun q => absurd (by decide) q⟩
  · exact ⟨fun q => absurd rfl q, fun _ => h1 rfl⟩
theorem cb_ifne {x y : Int32} {A B : Prop} (h0 : ¬ x = y → A) (h1 : x = y → B) : (¬ x = y → A) ∧ (¬ ¬ x = y → B) := ⟨h0, fun q => h1 (Classical.not_not.mp q)⟩
theorem cb_ifge {x y : Int32} {A B : Prop} (h0 : y ≤ x → A) (h1 : x < y → B) : (y ≤ x → A) ∧ (¬ y ≤ x → B) := ⟨h0, fun q => h1 (cb_nle_lt q)⟩
theorem cb_iflt {x y : Int32} {A B : Prop} (h0 : x < y → A) (h1 : y ≤ x → B) : (x < y → A) ∧ (¬ x < y → B) := ⟨h0, fun q => h1 (Int32.not_lt.mp q)⟩
theorem cb_lin {x N : Int32} {j n : Nat} {A B : Prop} (hx : x = nI j) (hN : N = nI n) (hj : j < n) (h8 : n < 2 ^ 31) (h : B) : (N ≤ x → A) ∧ (¬ N ≤ x → B) := ⟨fun q => by rw [hx, hN] at q; exact absurd q (nI_ge hj h8), fun _ => h⟩
theorem cb_lout {x N : Int32} {n : Nat} {A B : Prop} (hx : x = nI n) (hN : N = nI n) (h : A) : (N ≤ x → A) ∧ (¬ N ≤ x → B) := ⟨fun _ => h, fun q => by rw [hx, hN] at q; exact absurd (Int32.le_refl _) q⟩
theorem cb_eqN {K : cb_Out → cb_A → cb_M → Prop} {a : cb_A} {M M' : cb_M} {v : Option cb_V} (h : K (.inl v) a M) (e : M' = M) : K (.inl v) a M' := by
  subst e
  exact h
theorem cb_idx {x : Int32} {N : Nat} (h : vp_in x N) (hN : N < 2 ^ 31) : ∃ j, j < N ∧ x = nI j ∧ x.toNatClampNeg = j := by
  obtain ⟨j, hj, e⟩ := vp_in_of h hN
  exact ⟨j, hj, e, by rw [e]; exact nI_clamp (by omega)⟩
/-- the ints that may change -/
def cb_fr (S : Nat → Nat → Bool) (M M' : cb_M) : Prop := (∀ t i j, S t j = false → cb_gI M' t i j = cb_gI M t i j) ∧ M'.2 = M.2
theorem cb_fr.refl {S : Nat → Nat → Bool} (M : cb_M) : cb_fr S M M := ⟨fun _ _ _ _ => rfl, rfl⟩
theorem cb_fr.trans {S : Nat → Nat → Bool} {M M' M'' : cb_M} (h : cb_fr S M M') (h2 : cb_fr S M' M'') : cb_fr S M M'' := ⟨fun t i j q => (h2.1 t i j q).trans (h.1 t i j q), h2.2.trans h.2⟩
theorem cb_fr.mono {S S' : Nat → Nat → Bool} {M M' : cb_M} (h : cb_fr S M M') (hs : ∀ t j, S t j = true → S' t j = true) : cb_fr S' M M' := ⟨fun t i j q => h.1 t i j (by cases e : S t j with | false => rfl | true => rw [hs t j e] at q; cases q), h.2⟩
theorem cb_fr.set {S : Nat → Nat → Bool} {M M' : cb_M} (h : cb_fr S M M') {t i j : Nat} (x : Int32) (hs : S t j = true) : cb_fr S M (cb_sI M' t i j x) := by
  refine ⟨fun t' i' j' q => ?_, h.2⟩
  rw [cb_gI_sI, if_neg]
  · exact h.1 _ _ _ q
  · rintro ⟨rfl, rfl, rfl⟩
    rw [hs] at q
    cases q
theorem cb_fr.fn {S : Nat → Nat → Bool} {M M' : cb_M} (h : cb_fr S M M') (t i : Nat) (hs : ∀ j, S t j = false) : cb_gI M' t i = cb_gI M t i := funext fun j => h.1 t i j (hs j)
theorem cb_fr.ref {S : Nat → Nat → Bool} {M M' : cb_M} (h : cb_fr S M M') (t i j : Nat) : cb_gR M' t i j = cb_gR M t i j := by
  unfold cb_gR
  rw [h.2]
theorem cb_fr.lng {S : Nat → Nat → Bool} {M M' : cb_M} (h : cb_fr S M M') (t i j : Nat) : cb_gL M' t i j = cb_gL M t i j := by
  unfold cb_gL
  rw [h.2]
/-- an array filled -/
def cb_fl (M : cb_M) (t i : Nat) (v : Int32) (n : Nat) : cb_M := (fun t' i' j' => if t' = t ∧ i' = i ∧ j' < n then v else M.1 t' i' j', M.2)
theorem cb_gI_fl (M : cb_M) (t i : Nat) (v : Int32) (n t' i' j' : Nat) : cb_gI (cb_fl M t i v n) t' i' j' = if t' = t ∧ i' = i ∧ j' < n then v else cb_gI M t' i' j' := rfl
theorem cb_fl_succ (M : cb_M) (t i : Nat) (v : Int32) (n : Nat) : cb_sI (cb_fl M t i v n) t i n v = cb_fl M t i v (n + 1) := by
  unfold cb_sI cb_fl
  refine Prod.ext (funext fun t' => funext fun i' => funext fun j' => ?_) rfl
  show (if t' = t ∧ i' = i ∧ j' = n then v else if t' = t ∧ i' = i ∧ j' < n then v else M.1 t' i' j') = if t' = t ∧ i' = i ∧ j' < n + 1 then v else M.1 t' i' j'
  by_cases h : t' = t ∧ i' = i
  · obtain ⟨rfl, rfl⟩ := h
    by_cases h2 : j' = n
    · subst h2; simp
    · by_cases h3 : j' < n
      · have : j' < n + 1 := by omega
        simp [h3, this]
      · have : ¬ j' < n + 1 := by omega
        simp [h2, h3, this]
  · have a1 : ∀ q : Prop, ¬ (t' = t ∧ i' = i ∧ q) := fun q z => h ⟨z.1, z.2.1⟩
    rw [if_neg (a1 _), if_neg (a1 _), if_neg (a1 _)]
theorem cb_fl_zero (M : cb_M) (t i : Nat) (v : Int32) : cb_fl M t i v 0 = M := by
  unfold cb_fl
  refine Prod.ext (funext fun t' => funext fun i' => funext fun j' => ?_) rfl
  show (if t' = t ∧ i' = i ∧ j' < 0 then v else M.1 t' i' j') = M.1 t' i' j'
  rw [if_neg (by omega)]
theorem cb_st_int {M : cb_M} {t i j : Nat} {v : Int32} (hk : cb_kd cb_tb t = 1) : cb_st cb_tb M t i j (cb_nr 1 (cb_i v)) = some (cb_sI M t i j v) := by
  obtain ⟨T, hT⟩ := cb_tb_el cb_tb_ok (c := 0) hk (by omega) j
  unfold cb_st
  rw [hT]
  rfl
theorem cb_mt {o : Option cb_M} {M : cb_M} {F : cb_M → Prop} : o = some M → F M → (match o with | some M' => F M' | none => False) := by
  intro e h
  subst e
  exact h
def pt_J7_fill_53178 : cb_PT := fun As a M K => match As with
  | [.inr (.inr (some (t, i))), .inl v] => cb_av (a.1 t i) (cb_ck (Nat.beq (cb_kd cb_tb t) 1) (cb_len cb_tb t i < 2 ^ 31 ∧ K (.inl none) a (cb_fl M t i v (cb_len cb_tb t i))))
  | _ => False
theorem pt_fill_to {As : List cb_V} {a : cb_A} {M : cb_M} {K : cb_Out → cb_A → cb_M → Prop} (h : pt_J7_fill_53178 As a M K) : ∃ t i v, As = [cb_r t i, cb_i v] ∧ a.1 t i = true ∧ cb_kd cb_tb t = 1 ∧ cb_len cb_tb t i < 2 ^ 31 ∧ K (.inl none) a (cb_fl M t i v (cb_len cb_tb t i)) := by
  unfold pt_J7_fill_53178 at h
  split at h
  · obtain ⟨g1, h⟩ := h.to
    obtain ⟨g2, h⟩ := h.to
    exact ⟨_, _, _, rfl, g1, Nat.eq_of_beq_eq_true g2, h.1, h.2⟩
  · exact h.elim
def md_J7_fill_53178 : cb_D := (RJ7, cJ7_fill_53178, 4, none, (0, 0, 0, 0), [
  (0, .iconst 0, 1, 0, 0, 0, 0),
  (1, .istore_n 2, 1, 0, 2, 0, 0),
  (2, .aload_n 0, 1, 0, 0, 0, 0),
  (3, .arraylength, 1, 0, 0, 0, 0),
  (4, .istore_n 3, 1, 0, 3, 0, 0),
  (5, .iload_n 2, 1, 0, 2, 0, 0),
  (6, .iload_n 3, 1, 0, 3, 0, 0),
  (7, .if_icmp .ge 13, 3, 0, 20, 0, 0),
  (10, .aload_n 0, 1, 0, 0, 0, 0),
  (11, .iload_n 2, 1, 0, 2, 0, 0),
  (12, .iload_n 1, 1, 0, 1, 0, 0),
  (13, .iastore, 1, 0, 0, 0, 0),
  (14, .iinc 2 1, 3, 1, 2, 0, 0),
  (17, .goto (-12), 3, 0, 5, 0, 0),
  (20, .return_, 1, 0, 0, 0, 0)],
  [], [])
set_option maxRecDepth 100000 in
theorem vd_J7_fill_53178 : md_J7_fill_53178.cd.all (cb_vE md_J7_fill_53178) = true := by decide +kernel
theorem wd_J7_fill_53178 : cb_wd yJ7_fill_53178 md_J7_fill_53178 := ⟨cb_tw (i := 489) (by decide +kernel), cb_tw (i := 17) (by decide +kernel), by decide, by decide⟩
theorem cs_J7_fill_53178 : ∀ X, cb_Bs md_J7_fill_53178 X → ∀ g ∈ md_J7_fill_53178.ga, cb_CS cb_tb md_J7_fill_53178 X g := fun X B => fun _ h => nomatch h
theorem ok_J7_fill_53178 : cb_MOK cb_tb yJ7_fill_53178 md_J7_fill_53178 pt_J7_fill_53178 := by
  refine cb_of ⟨by decide +kernel, rfl⟩ (fun As a M K h => ?_) cs_J7_fill_53178 (fun _ _ _ _ _ => cb_Ts0 (by decide)) (fun X As a M h => ?_)
  · obtain ⟨t, i, v, rfl, -⟩ := pt_fill_to h
    show 2 ≤ 4
    decide
  · obtain ⟨t, i, v, rfl, ha, hk, hl, h⟩ := pt_fill_to h
    have loop : ∀ j, j ≤ cb_len cb_tb t i → ∀ (x : Int32) (M' : cb_M), x = nI j → M' = cb_fl M t i v j → cb_Gd cb_tb md_J7_fill_53178 X 5 [some (cb_r t i), some (cb_i v), some (cb_i x), some (cb_i (nI (cb_len cb_tb t i)))] [] a M' 0 0 := by
      refine cb_up (fun j => ∀ (x : Int32) (M' : cb_M), x = nI j → M' = cb_fl M t i v j → cb_Gd cb_tb md_J7_fill_53178 X 5 [some (cb_r t i), some (cb_i v), some (cb_i x), some (cb_i (nI (cb_len cb_tb t i)))] [] a M' 0 0) ?_ ?_
      · intro x M' hx hM
        refine cb_run cb_tb_ok vd_J7_fill_53178 (cuts := [5]) 40 ?_
        refine cb_lout hx rfl ?_
        subst hM
        exact And.intro rfl h
      · intro j hj ih x M' hx hM
        refine cb_run cb_tb_ok vd_J7_fill_53178 (cuts := [5]) 40 ?_
        refine cb_lin hx rfl hj hl ?_
        have hxi : vp_in x (cb_len cb_tb t i) := by rw [hx]; exact vp_in_nI hj hl
        refine cb_av.of ha (cb_ck.of (by rw [hk]; rfl) (And.intro hxi (cb_mt (cb_st_int hk) ?_)))
        refine ih _ _ (by rw [hx, nI_1]) ?_
        subst hM
        rw [hx, nI_clamp (by omega), cb_fl_succ]
    refine cb_run cb_tb_ok vd_J7_fill_53178 (cuts := [5]) 40 ?_
    refine cb_av.of ha (cb_ck.of (by rw [hk]; rfl) (cb_ck.of (by rw [hk]; rfl) ?_))
    exact loop 0 (Nat.zero_le _) _ _ rfl (cb_fl_zero M t i v).symm
