/-! ===== sets of clocks that are joined ===== -/
def wl_cn (n : Nat) (E : Nat → Nat → Bool) (a b : Nat) : Prop := ∀ f : Nat → Nat, (∀ x y, x < n → y < n → E x y = true → f x = f y) → f a = f b
theorem wl_cn.trans {n : Nat} {E : Nat → Nat → Bool} {a b c : Nat} (h : wl_cn n E a b) (h2 : wl_cn n E b c) : wl_cn n E a c := fun f hf => (h f hf).trans (h2 f hf)
theorem wl_cn.symm {n : Nat} {E : Nat → Nat → Bool} {a b : Nat} (h : wl_cn n E a b) : wl_cn n E b a := fun f hf => (h f hf).symm
noncomputable def wl_new (n : Nat) (E : Nat → Nat → Bool) (i : Nat) : Int32 := @ite Int32 (∃ j, j < i ∧ wl_cn n E j i) (Classical.propDecidable _) 0 1
noncomputable def wl_cc (n : Nat) (E : Nat → Nat → Bool) : Int32 := wm_sum (wl_new n E) n
theorem wl_new_0 {n : Nat} {E : Nat → Nat → Bool} {i : Nat} (h : ∃ j, j < i ∧ wl_cn n E j i) : wl_new n E i = 0 := @if_pos _ (Classical.propDecidable _) h _ _ _
theorem wl_new_1 {n : Nat} {E : Nat → Nat → Bool} {i : Nat} (h : ¬ ∃ j, j < i ∧ wl_cn n E j i) : wl_new n E i = 1 := @if_neg _ (Classical.propDecidable _) h _ _ _
def wl_in (J : wm_F) : Nat → Int32 → Int32
  | 0, r => r
  | x + 1, r => if cb_bit (wl_in J x r) x = true then wl_in J x r ||| J x else wl_in J x r
def wl_rd (J : wm_F) (n i : Nat) : Nat → Int32
  | 0 => wm_b1 i
  | t + 1 => wl_in J n (wl_rd J n i t)
theorem wl_in_pres {J : wm_F} {p : Nat → Prop} (hp : ∀ x, p x → ∀ y, cb_bit (J x) y = true → p y) {r : Int32} (h : ∀ y, cb_bit r y = true → p y) : ∀ m y, cb_bit (wl_in J m r) y = true → p y
  | 0, y, hy => h y hy
  | m + 1, y, hy => by
    rw [wl_in] at hy
    by_cases q : cb_bit (wl_in J m r) m = true
    · rw [if_pos q, cb_bit_or] at hy
      rcases Bool.or_eq_true _ _ |>.mp hy with w | w
      · exact wl_in_pres hp h m y w
      · exact hp m (wl_in_pres hp h m m q) y w
    · rw [if_neg q] at hy
      exact wl_in_pres hp h m y hy
theorem wl_in_mono {J : wm_F} {r : Int32} {y : Nat} : ∀ m d, cb_bit (wl_in J m r) y = true → cb_bit (wl_in J (m + d) r) y = true
  | m, 0, h => h
  | m, d + 1, h => by
    rw [show m + (d + 1) = (m + d) + 1 by omega, wl_in]
    have := wl_in_mono m d h
    by_cases q : cb_bit (wl_in J (m + d) r) (m + d) = true
    · rw [if_pos q, cb_bit_or, this]
      rfl
    · rw [if_neg q]
      exact this
theorem wl_in_up {J : wm_F} {r : Int32} {y : Nat} (m : Nat) (h : cb_bit r y = true) : cb_bit (wl_in J m r) y = true := by
  have := wl_in_mono (J := J) (r := r) (y := y) 0 m h
  rw [Nat.zero_add] at this
  exact this
def wl_clo (J : wm_F) (n : Nat) (r : Int32) : Prop := ∀ x, x < n → cb_bit r x = true → ∀ y, cb_bit (J x) y = true → cb_bit r y = true
theorem wl_in_clo {J : wm_F} {n : Nat} {r : Int32} (h : wl_in J n r = r) : wl_clo J n r := by
  intro x hx hb y hy
  have h1 : cb_bit (wl_in J x r) x = true := wl_in_up x hb
  have h2 : cb_bit (wl_in J (x + 1) r) y = true := by
    rw [wl_in, if_pos h1, cb_bit_or, hy]
    simp
  have := wl_in_mono (x + 1) (n - (x + 1)) h2
  rw [show x + 1 + (n - (x + 1)) = n by omega, h] at this
  exact this
theorem wl_clo_in {J : wm_F} {n : Nat} {r : Int32} (h : wl_clo J n r) : ∀ m, m ≤ n → wl_in J m r = r
  | 0, _ => rfl
  | m + 1, hm => by
    rw [wl_in, wl_clo_in h m (by omega)]
    by_cases q : cb_bit r m = true
    · rw [if_pos q]
      refine cb_bit_ext (fun i _ => ?_)
      rw [cb_bit_or]
      cases hi : cb_bit (J m) i with
      | false => simp
      | true => rw [h m (by omega) q i hi]; rfl
    · rw [if_neg q]
def wl_nb (n : Nat) (r : Int32) : Nat := ((List.range n).filter (cb_bit r)).length
theorem wl_nb_lt {n : Nat} {r r' : Int32} (hs : ∀ y, cb_bit r y = true → cb_bit r' y = true) {z : Nat} (hz : z < n) (h1 : cb_bit r' z = true) (h2 : cb_bit r z = false) : wl_nb n r < wl_nb n r' := by
  have le : ∀ l : List Nat, (l.filter (cb_bit r)).length ≤ (l.filter (cb_bit r')).length := by
    intro l
    induction l with
    | nil => exact Nat.le_refl _
    | cons a l ih =>
      by_cases q : cb_bit r a = true
      · rw [List.filter_cons_of_pos q, List.filter_cons_of_pos (hs a q), List.length_cons, List.length_cons]
        omega
      · rw [List.filter_cons_of_neg q]
        by_cases q' : cb_bit r' a = true
        · rw [List.filter_cons_of_pos q', List.length_cons]
          omega
        · rw [List.filter_cons_of_neg q']
          exact ih
  have lt : ∀ l : List Nat, z ∈ l → (l.filter (cb_bit r)).length < (l.filter (cb_bit r')).length := by
    intro l
    induction l with
    | nil => intro h; cases h
    | cons a l ih =>
      intro h
      by_cases e : z = a
      · subst e
        rw [List.filter_cons_of_neg (by rw [h2]; decide), List.filter_cons_of_pos h1, List.length_cons]
        have := le l
        omega
      · have hl : z ∈ l := by
          rcases List.mem_cons.mp h with w | w
          · exact absurd w e
          · exact w
        have := ih hl
        by_cases q : cb_bit r a = true
        · rw [List.filter_cons_of_pos q, List.filter_cons_of_pos (hs a q), List.length_cons, List.length_cons]
          omega
        · rw [List.filter_cons_of_neg q]
          by_cases q' : cb_bit r' a = true
          · rw [List.filter_cons_of_pos q', List.length_cons]
            omega
          · rw [List.filter_cons_of_neg q']
            exact this
  exact lt _ (List.mem_range.mpr hz)
theorem wl_nb_all {n : Nat} {r : Int32} (hn : n ≤ 32) (h : n ≤ wl_nb n r) {x : Nat} (hx : x < n) : cb_bit r x = true := by
  cases q : cb_bit r x with
  | true => rfl
  | false =>
    have := wl_nb_lt (n := n) (r := r) (r' := -1) (fun y hy => ?_) hx ?_ q
    · have le : wl_nb n (-1) ≤ n := by
        unfold wl_nb
        have := List.length_filter_le (cb_bit (-1)) (List.range n)
        rw [List.length_range] at this
        exact this
      omega
    · unfold cb_bit at *
      have : (-1 : Int32).toBitVec = BitVec.allOnes 32 := by decide
      rw [this, BitVec.getLsbD_allOnes]
      exact decide_eq_true (BitVec.lt_of_getLsbD hy)
    · unfold cb_bit
      have : (-1 : Int32).toBitVec = BitVec.allOnes 32 := by decide
      rw [this, BitVec.getLsbD_allOnes, decide_eq_true (by omega)]
/-- what the rows of the joined say -/
def wl_J (J : wm_F) (n : Nat) (E : Nat → Nat → Bool) : Prop := ∀ c, c < n → ∀ d, cb_bit (J c) d = true ↔ d < n ∧ E c d = true
theorem wl_reach {J : wm_F} {n : Nat} {E : Nat → Nat → Bool} (hn : n ≤ 8) (hJ : wl_J J n E) (hE : ∀ x y, x < n → y < n → E x y = true → E y x = true) {i : Nat} (hi : i < n) (x : Nat) : cb_bit (wl_rd J n i (n - 1)) x = true ↔ x < n ∧ wl_cn n E i x := by
  have sound : ∀ t y, cb_bit (wl_rd J n i t) y = true → y < n ∧ wl_cn n E i y := by
    intro t
    induction t with
    | zero =>
      intro y hy
      rw [wl_rd] at hy
      unfold wm_b1 at hy
      rw [cb_bit_one (by omega)] at hy
      have := of_decide_eq_true hy
      subst this
      exact ⟨hi, fun f _ => rfl⟩
    | succ t ih =>
      refine wl_in_pres (p := fun y => y < n ∧ wl_cn n E i y) (fun x hx y hy => ?_) ih n
      have h1 := (hJ x hx.1 y).mp hy
      exact ⟨h1.1, hx.2.trans (fun f hf => hf x y hx.1 h1.1 h1.2)⟩
  have clo : ∀ t, wl_clo J n (wl_rd J n i t) ∨ t + 1 ≤ wl_nb n (wl_rd J n i t) := by
    intro t
    induction t with
    | zero =>
      refine Or.inr ?_
      have := wl_nb_lt (n := n) (r := 0) (r' := wm_b1 i) (fun y hy => by rw [cb_bit_zero] at hy; cases hy) hi (by unfold wm_b1; rw [cb_bit_one (by omega)]; exact decide_eq_true rfl) (cb_bit_zero i)
      rw [wl_rd]
      omega
    | succ t ih =>
      rcases ih with h | h
      · refine Or.inl ?_
        rw [wl_rd, wl_clo_in h n (Nat.le_refl _)]
        exact h
      · by_cases e : wl_rd J n i (t + 1) = wl_rd J n i t
        · refine Or.inl ?_
          rw [e]
          exact wl_in_clo e
        · refine Or.inr ?_
          have sub : ∀ y, cb_bit (wl_rd J n i t) y = true → cb_bit (wl_rd J n i (t + 1)) y = true := fun y hy => wl_in_up n hy
          have : ∃ z, cb_bit (wl_rd J n i (t + 1)) z = true ∧ cb_bit (wl_rd J n i t) z = false := by
            refine Classical.byContradiction (fun w => e (cb_bit_ext (fun y _ => ?_)))
            cases h1 : cb_bit (wl_rd J n i t) y with
            | true => exact sub y h1
            | false =>
              cases h2 : cb_bit (wl_rd J n i (t + 1)) y with
              | false => rfl
              | true => exact absurd ⟨y, h2, h1⟩ w
          obtain ⟨z, hz1, hz2⟩ := this
          have := wl_nb_lt sub (sound _ z hz1).1 hz1 hz2
          omega
  constructor
  · exact sound _ x
  · rintro ⟨hx, hc⟩
    have hcl : wl_clo J n (wl_rd J n i (n - 1)) := by
      rcases clo (n - 1) with h | h
      · exact h
      · intro a ha hb y hy
        have h1 := (hJ a ha y).mp hy
        exact wl_nb_all (by omega) (by omega) h1.1
    have hib : cb_bit (wl_rd J n i (n - 1)) i = true := by
      have : ∀ t, cb_bit (wl_rd J n i t) i = true := by
        intro t
        induction t with
        | zero =>
          rw [wl_rd]
          unfold wm_b1
          rw [cb_bit_one (by omega)]
          exact decide_eq_true rfl
        | succ t ih => exact wl_in_up n ih
      exact this _
    have := hc (fun y => if cb_bit (wl_rd J n i (n - 1)) y = true then 1 else 0) (fun a b ha hb hab => ?_)
    · simp only [hib, if_true] at this
      by_cases q : cb_bit (wl_rd J n i (n - 1)) x = true
      · exact q
      · rw [if_neg q] at this
        cases this
    · have e : cb_bit (wl_rd J n i (n - 1)) a = cb_bit (wl_rd J n i (n - 1)) b := by
        cases h1 : cb_bit (wl_rd J n i (n - 1)) a with
        | true => exact (hcl a ha h1 b ((hJ a ha b).mpr ⟨hb, hab⟩)).symm
        | false =>
          cases h2 : cb_bit (wl_rd J n i (n - 1)) b with
          | false => rfl
          | true =>
            have := hcl b hb h2 a ((hJ b hb a).mpr ⟨ha, hE a b ha hb hab⟩)
            rw [h1] at this
            cases this
      simp only [e]
def fr_l (t _j : Nat) : Bool := Nat.beq t 37 || Nat.beq t 38
def sp_X2_clearFor : cb_Sp := fun _ r M K => match r with
  | [.inl x] => ∃ n, (x = nI n ∧ n ≤ 8) ∧ ∀ M', cb_fr fr_l M M' → cb_gI M' 37 0 0 = nI n → (∀ a, a < 8 → cb_gI M' 38 0 a = 0) → K none M'
  | _ => False
def pt_X2_clearFor : cb_PT := cb_m 37 1 sp_X2_clearFor
theorem rc_X2_clearFor : cb_rc cb_tb RX2 pt_X2_clearFor := cb_m_rc rfl rfl
def md_X2_clearFor : cb_D := (RX2, cX2_clearFor, 2, none, (0, 0, 1, 23), [
  (0, .aload_n 0, 1, 0, 0, 0, 0),
  (1, .iload_n 1, 1, 0, 1, 0, 0),
  (2, .bipush 8, 2, 8, 0, 0, 0),
  (4, .invokestatic 19, 3, 0, 0, 0, 0),
  (7, .putfield 9, 3, 0, 2, 0, 299),
  (10, .aload_n 0, 1, 0, 0, 0, 0),
  (11, .getfield 15, 3, 0, 2, 1, 300),
  (14, .iconst 0, 1, 0, 0, 0, 0),
  (15, .invokestatic 25, 3, 0, 1, 0, 0),
  (18, .return_, 1, 0, 0, 0, 0)],
  [(1, 19, 2, 0, 0, pt_J9_min_7cf53), (1, 25, 2, 0, 0, pt_J7_fill_53178)], [])
set_option maxRecDepth 100000 in
theorem vd_X2_clearFor : md_X2_clearFor.cd.all (cb_vE md_X2_clearFor) = true := by decide +kernel
theorem wd_X2_clearFor : cb_wd yX2_clearFor md_X2_clearFor := ⟨cb_tw (i := 483) (by decide +kernel), cb_tw (i := 6) (by decide +kernel), by decide, by decide⟩
theorem cs_X2_clearFor : ∀ X, cb_Bs md_X2_clearFor X → ∀ g ∈ md_X2_clearFor.ga, cb_CS cb_tb md_X2_clearFor X g := fun X B => List.forall_mem_cons.mpr ⟨cb_csS B ok_J9_min_7cf53 wd_J9_min_7cf53 (cb_tw (i := 484) (by decide +kernel)) (cb_tw (i := 485) (by decide +kernel)) ⟨by decide, by decide⟩ (by decide +kernel), List.forall_mem_cons.mpr ⟨cb_csS B ok_J7_fill_53178 wd_J7_fill_53178 (cb_tw (i := 487) (by decide +kernel)) (cb_tw (i := 488) (by decide +kernel)) ⟨by decide, by decide⟩ (by decide +kernel), fun _ h => nomatch h⟩⟩
theorem ok_X2_clearFor : cb_MOK cb_tb yX2_clearFor md_X2_clearFor pt_X2_clearFor := by
  refine cb_okm ⟨plainFor_of_name (by decide), rfl⟩ (by decide) cs_X2_clearFor (by decide) (fun X n0 f i r M hr ha h => ?_)
  have h0 := cb_a1 (T := 37) rfl ha
  subst h0
  match r, hr, h with
  | [.inl x], hr, h =>
    obtain ⟨n, ⟨hx, hn8⟩, h⟩ := h
    have e : wm_min x 8 = nI n := by
      unfold wm_min
      rw [hx]
      by_cases q : (8 : Int32) < nI n
      · have : (8 : Nat) < n := (nI_ltI (a := 8) (by decide) (by omega)).mp q
        omega
      · rw [if_neg q]
    refine cb_run cb_tb_ok vd_X2_clearFor (cuts := []) 90 ?_
    refine And.intro trivial (And.intro (show (8 : Nat) < 2 ^ 31 by decide) (And.intro rfl (h _ ⟨fun t i j q => ?_, rfl⟩ ?_ (fun a ha' => ?_))))
    · rw [cb_gI_fl, if_neg, cb_gI_sI, if_neg]
      · rintro ⟨rfl, -⟩
        cases q
      · rintro ⟨rfl, -⟩
        cases q
    · show wm_min x 8 = nI n
      exact e
    · exact if_pos ⟨rfl, rfl, ha'⟩
def fr_38 (t _j : Nat) : Bool := Nat.beq t 38
def sp_X2_join : cb_Sp := fun _ r M K => match r with
  | [.inl x, .inl y] => ∃ a b, (x = nI a ∧ y = nI b ∧ a < 8 ∧ b < 8 ∧ ¬ a = b) ∧ ∀ M', cb_fr fr_38 M M' → (∀ c d, c < 8 → d < 32 → cb_bit (cb_gI M' 38 0 c) d = (cb_bit (cb_gI M 38 0 c) d || decide ((c = a ∧ d = b) ∨ (c = b ∧ d = a)))) → K none M'
  | _ => False
def pt_X2_join : cb_PT := cb_m 37 2 sp_X2_join
theorem rc_X2_join : cb_rc cb_tb RX2 pt_X2_join := cb_m_rc rfl rfl
def md_X2_join : cb_D := (RX2, cX2_join, 3, none, (0, 0, 0, 0), [
  (0, .aload_n 0, 1, 0, 0, 0, 0),
  (1, .getfield 15, 3, 0, 2, 1, 300),
  (4, .iload_n 1, 1, 0, 1, 0, 0),
  (5, .dup2, 1, 0, 0, 0, 0),
  (6, .iaload, 1, 0, 0, 0, 0),
  (7, .iconst 1, 1, 1, 0, 0, 0),
  (8, .iload_n 2, 1, 0, 2, 0, 0),
  (9, .ishl, 1, 0, 0, 0, 0),
  (10, .ior, 1, 0, 0, 0, 0),
  (11, .iastore, 1, 0, 0, 0, 0),
  (12, .aload_n 0, 1, 0, 0, 0, 0),
  (13, .getfield 15, 3, 0, 2, 1, 300),
  (16, .iload_n 2, 1, 0, 2, 0, 0),
  (17, .dup2, 1, 0, 0, 0, 0),
  (18, .iaload, 1, 0, 0, 0, 0),
  (19, .iconst 1, 1, 1, 0, 0, 0),
  (20, .iload_n 1, 1, 0, 1, 0, 0),
  (21, .ishl, 1, 0, 0, 0, 0),
  (22, .ior, 1, 0, 0, 0, 0),
  (23, .iastore, 1, 0, 0, 0, 0),
  (24, .return_, 1, 0, 0, 0, 0)],
  [], [])
set_option maxRecDepth 100000 in
theorem vd_X2_join : md_X2_join.cd.all (cb_vE md_X2_join) = true := by decide +kernel
theorem wd_X2_join : cb_wd yX2_join md_X2_join := ⟨cb_tw (i := 507) (by decide +kernel), cb_tw (i := 6) (by decide +kernel), by decide, by decide⟩
theorem cs_X2_join : ∀ X, cb_Bs md_X2_join X → ∀ g ∈ md_X2_join.ga, cb_CS cb_tb md_X2_join X g := fun X B => fun _ h => nomatch h
theorem ok_X2_join : cb_MOK cb_tb yX2_join md_X2_join pt_X2_join := by
  refine cb_okm ⟨plainFor_of_name (by decide), rfl⟩ (by decide) cs_X2_join (by decide) (fun X n0 f i r M hr ha h => ?_)
  have h0 := cb_a1 (T := 37) rfl ha
  subst h0
  match r, hr, h with
  | [.inl x, .inl y], hr, h =>
    obtain ⟨a, b, ⟨hx, hy, ha8, hb8, hab⟩, h⟩ := h
    have hxi : vp_in x 8 := by rw [hx]; exact vp_in_nI ha8 (by decide)
    have hyi : vp_in y 8 := by rw [hy]; exact vp_in_nI hb8 (by decide)
    have hxc : x.toNatClampNeg = a := by rw [hx]; exact nI_clamp (by omega)
    have hyc : y.toNatClampNeg = b := by rw [hy]; exact nI_clamp (by omega)
    refine cb_run cb_tb_ok vd_X2_join (cuts := []) 90 ?_
    refine And.intro hxi (And.intro hxi (And.intro hyi (And.intro hyi (And.intro rfl (h _ (((cb_fr.refl M).set _ rfl).set _ rfl) (fun c d hc hd => ?_))))))
    rw [hxc, hyc]
    show cb_bit (cb_gI (cb_sI (cb_sI M 38 0 a (cb_gI M 38 0 a ||| (1 : Int32) <<< (y &&& 31))) 38 0 b (cb_gI (cb_sI M 38 0 a (cb_gI M 38 0 a ||| (1 : Int32) <<< (y &&& 31))) 38 0 b ||| (1 : Int32) <<< (x &&& 31))) 38 0 c) d = _
    have s1 : ∀ (M : cb_M) (j : Nat) (v : Int32) (c : Nat), cb_gI (cb_sI M 38 0 j v) 38 0 c = if c = j then v else cb_gI M 38 0 c := fun M j v c => by
      rw [cb_gI_sI]
      by_cases e : c = j
      · rw [if_pos ⟨rfl, rfl, e⟩, if_pos e]
      · rw [if_neg (fun w => e w.2.2), if_neg e]
    have hba : ¬ b = a := fun w => hab w.symm
    rw [s1, s1, s1, hx, hy, if_neg hba]
    by_cases c1 : c = b
    · subst c1
      have c2 : ¬ c = a := fun w => hab w.symm
      rw [if_pos rfl, cb_bit_or, cb_bit_one (by omega)]
      simp [c2]
    · rw [if_neg c1]
      by_cases c2 : c = a
      · subst c2
        rw [if_pos rfl, cb_bit_or, cb_bit_one (by omega)]
        simp [c1]
      · rw [if_neg c2]
        simp [c1, c2]
def sp_X2_reachedFrom : cb_Sp := fun _ r M K => match r with
  | [.inl y] => ∃ n i, (cb_gI M 37 0 0 = nI n ∧ n ≤ 8 ∧ y = nI i ∧ i < n) ∧ K (some (cb_i (wl_rd (cb_gI M 38 0) n i (n - 1)))) M
  | _ => False
def pt_X2_reachedFrom : cb_PT := cb_m 37 1 sp_X2_reachedFrom
theorem rc_X2_reachedFrom : cb_rc cb_tb RX2 pt_X2_reachedFrom := cb_m_rc rfl rfl
def md_X2_reachedFrom : cb_D := (RX2, cX2_reachedFrom, 5, (some .int), (0, 0, 1, 21), [
  (0, .iconst 1, 1, 1, 0, 0, 0),
  (1, .iload_n 1, 1, 0, 1, 0, 0),
  (2, .ishl, 1, 0, 0, 0, 0),
  (3, .istore_n 2, 1, 0, 2, 0, 0),
  (4, .iconst 1, 1, 1, 0, 0, 0),
  (5, .istore_n 3, 1, 0, 3, 0, 0),
  (6, .iload_n 3, 1, 0, 3, 0, 0),
  (7, .aload_n 0, 1, 0, 0, 0, 0),
  (8, .getfield 9, 3, 0, 2, 0, 299),
  (11, .if_icmp .ge 47, 3, 0, 58, 0, 0),
  (14, .iconst 0, 1, 0, 0, 0, 0),
  (15, .istore 4, 2, 0, 4, 0, 0),
  (17, .iload 4, 2, 0, 4, 0, 0),
  (19, .aload_n 0, 1, 0, 0, 0, 0),
  (20, .getfield 9, 3, 0, 2, 0, 299),
  (23, .if_icmp .ge 29, 3, 0, 52, 0, 0),
  (26, .iload_n 2, 1, 0, 2, 0, 0),
  (27, .iload 4, 2, 0, 4, 0, 0),
  (29, .invokestatic 31, 3, 0, 0, 0, 0),
  (32, .iconst 1, 1, 1, 0, 0, 0),
  (33, .if_icmp .ne 13, 3, 0, 46, 0, 0),
  (36, .iload_n 2, 1, 0, 2, 0, 0),
  (37, .aload_n 0, 1, 0, 0, 0, 0),
  (38, .getfield 15, 3, 0, 2, 1, 300),
  (41, .iload 4, 2, 0, 4, 0, 0),
  (43, .iaload, 1, 0, 0, 0, 0),
  (44, .ior, 1, 0, 0, 0, 0),
  (45, .istore_n 2, 1, 0, 2, 0, 0),
  (46, .iinc 4 1, 3, 1, 4, 0, 0),
  (49, .goto (-32), 3, 0, 17, 0, 0),
  (52, .iinc 3 1, 3, 1, 3, 0, 0),
  (55, .goto (-49), 3, 0, 6, 0, 0),
  (58, .iload_n 2, 1, 0, 2, 0, 0),
  (59, .ireturn, 1, 0, 0, 0, 0)],
  [(1, 31, 2, 0, 0, pt_X9_bitOf)], [])
set_option maxRecDepth 100000 in
theorem vd_X2_reachedFrom : md_X2_reachedFrom.cd.all (cb_vE md_X2_reachedFrom) = true := by decide +kernel
theorem wd_X2_reachedFrom : cb_wd yX2_reachedFrom md_X2_reachedFrom := ⟨cb_tw (i := 516) (by decide +kernel), cb_tw (i := 6) (by decide +kernel), by decide, by decide⟩
theorem cs_X2_reachedFrom : ∀ X, cb_Bs md_X2_reachedFrom X → ∀ g ∈ md_X2_reachedFrom.ga, cb_CS cb_tb md_X2_reachedFrom X g := fun X B => List.forall_mem_cons.mpr ⟨cb_csN (host := "WallClocks") B ok_X9_bitOf nt_X9_bitOf wd_X9_bitOf (cb_tw (i := 512) (by decide +kernel)) (cb_tw (i := 440) (by decide +kernel)) ⟨by decide, by decide⟩ (by decide +kernel), fun _ h => nomatch h⟩
theorem ok_X2_reachedFrom : cb_MOK cb_tb yX2_reachedFrom md_X2_reachedFrom pt_X2_reachedFrom := by
  refine cb_okm ⟨plainFor_of_name (by decide), rfl⟩ (by decide) cs_X2_reachedFrom (by decide) (fun X n0 f i r M hr ha h => ?_)
  have h0 := cb_a1 (T := 37) rfl ha
  subst h0
  match r, hr, h with
  | [.inl y], hr, h =>
    obtain ⟨n, i, ⟨hn, hn8, hy, hi⟩, h⟩ := h
    have inner : ∀ t, t < n → (∀ (x : Int32) (m : Int32) (v : Option cb_V), x = nI (t + 2) → m = wl_rd (cb_gI M 38 0) n i (t + 1) → cb_Gd cb_tb md_X2_reachedFrom X 6 [some (cb_r 37 0), some (cb_i (y)), some (cb_i (m)), some (cb_i (x)), v] [] (cb_aS n0, f) M 0 0) → ∀ j, j ≤ n → ∀ (z m : Int32), z = nI j → m = wl_in (cb_gI M 38 0) j (wl_rd (cb_gI M 38 0) n i t) → cb_Gd cb_tb md_X2_reachedFrom X 17 [some (cb_r 37 0), some (cb_i (y)), some (cb_i (m)), some (cb_i (nI (t + 1))), some (cb_i (z))] [] (cb_aS n0, f) M 0 0 := by
      intro t ht hout
      refine cb_up (fun j => ∀ (z m : Int32), z = nI j → m = wl_in (cb_gI M 38 0) j (wl_rd (cb_gI M 38 0) n i t) → cb_Gd cb_tb md_X2_reachedFrom X 17 [some (cb_r 37 0), some (cb_i (y)), some (cb_i (m)), some (cb_i (nI (t + 1))), some (cb_i (z))] [] (cb_aS n0, f) M 0 0) ?_ ?_
      · intro z m hz hm
        refine cb_run cb_tb_ok vd_X2_reachedFrom (cuts := [6, 17]) 90 ?_
        exact cb_lout hz hn (hout _ _ _ (nI_1 _) hm)
      · intro j hj ih z m hz hm
        have hzc : z.toNatClampNeg = j := by rw [hz]; exact nI_clamp (by omega)
        refine cb_run cb_tb_ok vd_X2_reachedFrom (cuts := [6, 17]) 90 ?_
        refine cb_lin hz hn hj (by omega) (And.intro (by rw [hz]; exact cb_in8 hj (by omega) (by decide)) (cb_ifn1 (fun q => ?_) (fun q => And.intro (by rw [hz]; exact cb_in8 hj hn8 (by decide)) ?_)))
        · rw [hzc, hm] at q
          refine ih _ _ (by rw [hz, nI_1]) ?_
          rw [wl_in, if_neg (by rw [q]; decide), hm]
        · rw [hzc, hm] at q
          refine ih _ _ (by rw [hz, nI_1]) ?_
          rw [wl_in, if_pos q, hm, hzc]
    have outer : ∀ t, t ≤ n - 1 → ∀ (x m : Int32) (v : Option cb_V), x = nI (t + 1) → m = wl_rd (cb_gI M 38 0) n i t → cb_Gd cb_tb md_X2_reachedFrom X 6 [some (cb_r 37 0), some (cb_i (y)), some (cb_i (m)), some (cb_i (x)), v] [] (cb_aS n0, f) M 0 0 := by
      refine cb_up (fun t => ∀ (x m : Int32) (v : Option cb_V), x = nI (t + 1) → m = wl_rd (cb_gI M 38 0) n i t → cb_Gd cb_tb md_X2_reachedFrom X 6 [some (cb_r 37 0), some (cb_i (y)), some (cb_i (m)), some (cb_i (x)), v] [] (cb_aS n0, f) M 0 0) ?_ ?_
      · intro x m v hx hm
        refine cb_run cb_tb_ok vd_X2_reachedFrom (cuts := [6, 17]) 90 ?_
        refine cb_lout (n := n) (by rw [hx]; congr 1; omega) hn (And.intro trivial (cb_eqK h hm))
      · intro t ht ih x m v hx hm
        subst hx hm
        refine cb_run cb_tb_ok vd_X2_reachedFrom (cuts := [6, 17]) 90 ?_
        exact cb_lin rfl hn (by omega) (by omega) (inner t (by omega) ih 0 (Nat.zero_le _) _ _ rfl rfl)
    refine cb_run cb_tb_ok vd_X2_reachedFrom (cuts := [6, 17]) 40 (outer 0 (Nat.zero_le _) _ _ _ rfl ?_)
    rw [hy]
    rfl
def sp_X2_countSets : cb_Sp := fun _ r M K => match r with
  | [] => ∃ n E, (cb_gI M 37 0 0 = nI n ∧ n ≤ 8 ∧ wl_J (cb_gI M 38 0) n E ∧ ∀ x y, x < n → y < n → E x y = true → E y x = true) ∧ K (some (cb_i (wl_cc n E))) M
  | _ => False
def pt_X2_countSets : cb_PT := cb_m 37 0 sp_X2_countSets
theorem rc_X2_countSets : cb_rc cb_tb RX2 pt_X2_countSets := cb_m_rc rfl rfl
def md_X2_countSets : cb_D := (RX2, cX2_countSets, 4, (some .int), (0, 0, 2, 45), [
  (0, .iconst 0, 1, 0, 0, 0, 0),
  (1, .istore_n 1, 1, 0, 1, 0, 0),
  (2, .iconst 0, 1, 0, 0, 0, 0),
  (3, .istore_n 2, 1, 0, 2, 0, 0),
  (4, .iconst 0, 1, 0, 0, 0, 0),
  (5, .istore_n 3, 1, 0, 3, 0, 0),
  (6, .iload_n 3, 1, 0, 3, 0, 0),
  (7, .aload_n 0, 1, 0, 0, 0, 0),
  (8, .getfield 9, 3, 0, 2, 0, 299),
  (11, .if_icmp .ge 28, 3, 0, 39, 0, 0),
  (14, .iload_n 1, 1, 0, 1, 0, 0),
  (15, .iload_n 3, 1, 0, 3, 0, 0),
  (16, .invokestatic 31, 3, 0, 0, 0, 0),
  (19, .ifCond .ne 14, 3, 0, 33, 0, 0),
  (22, .iinc 2 1, 3, 1, 2, 0, 0),
  (25, .iload_n 1, 1, 0, 1, 0, 0),
  (26, .aload_n 0, 1, 0, 0, 0, 0),
  (27, .iload_n 3, 1, 0, 3, 0, 0),
  (28, .invokevirtual 34, 3, 0, 1, 0, 0),
  (31, .ior, 1, 0, 0, 0, 0),
  (32, .istore_n 1, 1, 0, 1, 0, 0),
  (33, .iinc 3 1, 3, 1, 3, 0, 0),
  (36, .goto (-30), 3, 0, 6, 0, 0),
  (39, .iload_n 2, 1, 0, 2, 0, 0),
  (40, .ireturn, 1, 0, 0, 0, 0)],
  [(1, 31, 2, 0, 0, pt_X9_bitOf), (0, 34, 2, 0, 0, pt_X2_reachedFrom)], [])
set_option maxRecDepth 100000 in
theorem vd_X2_countSets : md_X2_countSets.cd.all (cb_vE md_X2_countSets) = true := by decide +kernel
theorem wd_X2_countSets : cb_wd yX2_countSets md_X2_countSets := ⟨cb_tw (i := 511) (by decide +kernel), cb_tw (i := 6) (by decide +kernel), by decide, by decide⟩
theorem cs_X2_countSets : ∀ X, cb_Bs md_X2_countSets X → ∀ g ∈ md_X2_countSets.ga, cb_CS cb_tb md_X2_countSets X g := fun X B => List.forall_mem_cons.mpr ⟨cb_csN (host := "WallClocks") B ok_X9_bitOf nt_X9_bitOf wd_X9_bitOf (cb_tw (i := 512) (by decide +kernel)) (cb_tw (i := 440) (by decide +kernel)) ⟨by decide, by decide⟩ (by decide +kernel), List.forall_mem_cons.mpr ⟨cb_csV B ok_X2_reachedFrom wd_X2_reachedFrom (cb_tw (i := 513) (by decide +kernel)) (cb_tw (i := 515) (by decide +kernel)) (cb_tp (i := 3) (by decide +kernel)) rc_X2_reachedFrom ⟨by decide, by decide⟩ (by decide +kernel), fun _ h => nomatch h⟩⟩
theorem ok_X2_countSets : cb_MOK cb_tb yX2_countSets md_X2_countSets pt_X2_countSets := by
  refine cb_okm ⟨plainFor_of_name (by decide), rfl⟩ (by decide) cs_X2_countSets (by decide) (fun X n0 f i r M hr ha h => ?_)
  have h0 := cb_a1 (T := 37) rfl ha
  subst h0
  match r, hr, h with
  | [], hr, h =>
    obtain ⟨n, E, ⟨hn, hn8, hJ, hE⟩, h⟩ := h
    have loop : ∀ j, j ≤ n → ∀ (x m s : Int32), x = nI j → s = wm_sum (wl_new n E) j → (∀ z, z < n → (cb_bit m z = true ↔ ∃ j', j' < j ∧ wl_cn n E j' z)) → cb_Gd cb_tb md_X2_countSets X 6 [some (cb_r 37 0), some (cb_i (m)), some (cb_i (s)), some (cb_i (x))] [] (cb_aS n0, f) M 0 0 := by
      refine cb_up (fun j => ∀ (x m s : Int32), x = nI j → s = wm_sum (wl_new n E) j → (∀ z, z < n → (cb_bit m z = true ↔ ∃ j', j' < j ∧ wl_cn n E j' z)) → cb_Gd cb_tb md_X2_countSets X 6 [some (cb_r 37 0), some (cb_i (m)), some (cb_i (s)), some (cb_i (x))] [] (cb_aS n0, f) M 0 0) ?_ ?_
      · intro x m s hx hs hm
        refine cb_run cb_tb_ok vd_X2_countSets (cuts := [6]) 90 ?_
        exact cb_lout hx hn (And.intro trivial (cb_eqK h hs))
      · intro j hj ih x m s hx hs hm
        have hxc : x.toNatClampNeg = j := by rw [hx]; exact nI_clamp (by omega)
        refine cb_run cb_tb_ok vd_X2_countSets (cuts := [6]) 90 ?_
        refine cb_lin hx hn hj (by omega) (And.intro (by rw [hx]; exact cb_in8 hj (by omega) (by decide)) (And.intro (fun q => ?_) (fun q => ?_)))
        · have q : ¬ cb_z (cb_bit m x.toNatClampNeg) = 0 := q
          rw [hxc] at q
          have qb : cb_bit m j = true := by
            cases e : cb_bit m j with
            | true => rfl
            | false => rw [e] at q; exact absurd rfl q
          have hex := (hm j hj).mp qb
          refine ih _ _ _ (by rw [hx, nI_1]) ?_ (fun z hz => ?_)
          · rw [wm_sum, wl_new_0 hex, hs, Int32.add_zero]
          · rw [hm z hz]
            constructor
            · rintro ⟨j', h1, h2⟩
              exact ⟨j', by omega, h2⟩
            · rintro ⟨j', h1, h2⟩
              by_cases e : j' = j
              · subst e
                obtain ⟨j2, h3, h4⟩ := hex
                exact ⟨j2, h3, h4.trans h2⟩
              · exact ⟨j', by omega, h2⟩
        · have q : cb_z (cb_bit m x.toNatClampNeg) = 0 := Classical.not_not.mp q
          rw [hxc] at q
          have qb := cb_z_eq0.mp q
          have hex : ¬ ∃ j', j' < j ∧ wl_cn n E j' j := fun w => by rw [(hm j hj).mpr w] at qb; cases qb
          refine And.intro (cb_on rfl) ⟨n, j, ⟨hn, hn8, hx, hj⟩, ih _ _ _ (by rw [hx, nI_1]) ?_ (fun z hz => ?_)⟩
          · rw [wm_sum, wl_new_1 hex, hs]
          · show cb_bit (m ||| _) z = true ↔ _
            rw [cb_bit_or, Bool.or_eq_true, hm z hz, wl_reach hn8 hJ hE hj z]
            constructor
            · rintro (⟨j', h1, h2⟩ | ⟨-, h2⟩)
              · exact ⟨j', by omega, h2⟩
              · exact ⟨j, by omega, h2⟩
            · rintro ⟨j', h1, h2⟩
              by_cases e : j' = j
              · subst e
                exact Or.inr ⟨hz, h2⟩
              · exact Or.inl ⟨j', by omega, h2⟩
    refine cb_run cb_tb_ok vd_X2_countSets (cuts := [6]) 40 (loop 0 (Nat.zero_le _) _ _ _ rfl rfl (fun z _ => ?_))
    rw [cb_bit_zero]
    constructor
    · intro w
      cases w
    · rintro ⟨j', h1, -⟩
      omega
