/-! ===== one instruction: what it asks is enough ===== -/
def cb_als (ad : Nat → Nat → Nat) : Nat → cb_Ls → List (Nat × Value)
  | _, [] => []
  | n, some v :: l => (n, cb_c ad v) :: cb_als ad (n + 1) l
  | n, none :: l => cb_als ad (n + 1) l
theorem cb_als_to (ad : Nat → Nat → Nat) : ∀ (ls : cb_Ls) (n : Nat) (q : Nat × Value), q ∈ cb_als ad n ls → ∃ (j : Nat) (v : cb_V), q = (n + j, cb_c ad v) ∧ ls[j]? = some (some v)
  | [], n, q, h => by cases h
  | some v :: l, n, q, h => by
    rcases List.mem_cons.mp h with rfl | h
    · exact ⟨0, v, rfl, rfl⟩
    · obtain ⟨j, w, h1, h2⟩ := cb_als_to ad l (n + 1) q h
      exact ⟨j + 1, w, by rw [h1, show n + 1 + j = n + (j + 1) by omega], h2⟩
  | none :: l, n, q, h => by
    obtain ⟨j, w, h1, h2⟩ := cb_als_to ad l (n + 1) q h
    exact ⟨j + 1, w, by rw [h1, show n + 1 + j = n + (j + 1) by omega], h2⟩
theorem cb_als_of (ad : Nat → Nat → Nat) : ∀ (ls : cb_Ls) (n j : Nat) (v : cb_V), ls[j]? = some (some v) → (n + j, cb_c ad v) ∈ cb_als ad n ls
  | [], n, j, v, h => by simp at h
  | some w :: l, n, 0, v, h => by
    simp only [List.getElem?_cons_zero, Option.some.injEq] at h
    subst h
    exact List.mem_cons_self
  | none :: l, n, 0, v, h => by simp at h
  | some w :: l, n, j + 1, v, h => by
    rw [List.getElem?_cons_succ] at h
    have := cb_als_of ad l (n + 1) j v h
    rw [show n + 1 + j = n + (j + 1) by omega] at this
    exact List.mem_cons_of_mem _ this
  | none :: l, n, j + 1, v, h => by
    rw [List.getElem?_cons_succ] at h
    have := cb_als_of ad l (n + 1) j v h
    rw [show n + 1 + j = n + (j + 1) by omega] at this
    exact this
theorem cb_L.has {ad : Nat → Nat → Nat} {lc : Array Slot} {nL : Nat} {ls : cb_Ls} (h : cb_L ad lc nL ls) : lv_has lc nL (cb_als ad 0 ls) := by
  refine ⟨h.1, h.2.1, fun q hq => ?_⟩
  obtain ⟨j, v, rfl, h2⟩ := cb_als_to ad ls 0 q hq
  simpa using h.2.2 j v h2
theorem cb_get.to : ∀ {ls : cb_Ls} {i : Nat} {K : cb_V → Prop}, cb_get ls i K → ∃ v, ls[i]? = some (some v) ∧ K v
  | [], _, _, h => by simp [cb_get] at h
  | some v :: _, 0, _, h => ⟨v, rfl, h⟩
  | none :: _, 0, _, h => by simp [cb_get] at h
  | some _ :: l, n + 1, _, h => by
    obtain ⟨v, h1, h2⟩ := cb_get.to (ls := l) h
    exact ⟨v, h1, h2⟩
  | none :: l, n + 1, _, h => by
    obtain ⟨v, h1, h2⟩ := cb_get.to (ls := l) h
    exact ⟨v, h1, h2⟩
def cb_lg (v : cb_V) : Bool := match v with
  | .inr (.inl _) => true
  | _ => false
theorem cb_kil_to {a : Option cb_V} {w : cb_V} (h : cb_kil a = some w) : a = some w ∧ cb_lg w = false := by
  unfold cb_kil at h
  split at h
  · cases h
  · rename_i h0
    subst h
    refine ⟨rfl, ?_⟩
    unfold cb_lg
    split
    · exact absurd rfl (h0 _)
    · rfl
theorem cb_pu0_to {v : cb_V} {l : cb_Ls} {j : Nat} {w : cb_V} (h : (cb_pu0 v l)[j]? = some (some w)) : (j = 0 ∧ w = v) ∨ ∃ j', j = j' + 1 ∧ l[j']? = some (some w) ∧ ¬ (cb_lg v = true ∧ j' = 0) := by
  unfold cb_pu0 at h
  split at h
  · match j, h with
    | 0, h => simp at h; exact Or.inl ⟨rfl, h.symm⟩
    | 1, h => simp at h
    | j + 2, h => exact Or.inr ⟨j + 1, rfl, by simpa using h, by simp⟩
  · rename_i h0
    match j, h with
    | 0, h => simp at h; exact Or.inl ⟨rfl, h.symm⟩
    | j + 1, h =>
      refine Or.inr ⟨j, rfl, by simpa using h, fun q => ?_⟩
      obtain ⟨q1, rfl⟩ := q
      unfold cb_lg at q1
      split at q1
      · rename_i x
        cases l with
        | nil => simp at h
        | cons b l' => exact h0 _ _ _ rfl rfl
      · cases q1
theorem cb_put_to : ∀ {ls : cb_Ls} {i : Nat} {v : cb_V} {j : Nat} {w : cb_V}, (cb_put ls i v)[j]? = some (some w) → (j = i ∧ w = v) ∨ (j ≠ i ∧ ls[j]? = some (some w) ∧ ¬ (j + 1 = i ∧ cb_lg w = true) ∧ ¬ (cb_lg v = true ∧ j = i + 1))
  | [], _, _, j, w, h => by simp [cb_put] at h
  | a :: l, 0, v, j, w, h => by
    rcases cb_pu0_to h with ⟨rfl, rfl⟩ | ⟨j', rfl, h2, h3⟩
    · exact Or.inl ⟨rfl, rfl⟩
    · refine Or.inr ⟨by omega, h2, fun q => by omega, fun q => h3 ⟨q.1, by omega⟩⟩
  | a :: l, 1, v, 0, w, h => by
    simp only [cb_put, List.getElem?_cons_zero, Option.some.injEq] at h
    obtain ⟨h1, h2⟩ := cb_kil_to h
    subst h1
    exact Or.inr ⟨by omega, rfl, fun q => by rw [h2] at q; exact absurd q.2 (by simp), fun q => by omega⟩
  | a :: l, 1, v, j + 1, w, h => by
    have h : (cb_put l 0 v)[j]? = some (some w) := h
    rcases cb_put_to h with ⟨h1, h2⟩ | ⟨h1, h2, h3, h4⟩
    · exact Or.inl ⟨by omega, h2⟩
    · exact Or.inr ⟨by omega, h2, fun q => h3 ⟨by omega, q.2⟩, fun q => h4 ⟨q.1, by omega⟩⟩
  | a :: l, n + 2, v, 0, w, h => by
    simp only [cb_put, List.getElem?_cons_zero, Option.some.injEq] at h
    subst h
    exact Or.inr ⟨by omega, rfl, fun q => by omega, fun q => by omega⟩
  | a :: l, n + 2, v, j + 1, w, h => by
    have h : (cb_put l (n + 1) v)[j]? = some (some w) := h
    rcases cb_put_to h with ⟨h1, h2⟩ | ⟨h1, h2, h3, h4⟩
    · exact Or.inl ⟨by omega, h2⟩
    · exact Or.inr ⟨by omega, h2, fun q => h3 ⟨by omega, q.2⟩, fun q => h4 ⟨q.1, by omega⟩⟩
theorem cb_lg_cat (ad : Nat → Nat → Nat) (v : cb_V) : (cb_c ad v).category = if cb_lg v then 2 else 1 := by
  match v with
  | .inl x => rfl
  | .inr (.inl x) => rfl
  | .inr (.inr none) => rfl
  | .inr (.inr (some (t, i))) => rfl
theorem cb_L.one {ad : Nat → Nat → Nat} {lc lc' : Array Slot} {nL i : Nat} {ls : cb_Ls} {v : cb_V} (hl : cb_lg v = false) (h : lv_has lc' nL ((i, cb_c ad v) :: (cb_als ad 0 ls).filter (fun q => !(q.1 == i) && !(q.1 + 1 == i && q.2.category == 2)))) : cb_L ad lc' nL (cb_put ls i v) := by
  refine ⟨h.1, h.2.1, fun j w hj => ?_⟩
  rcases cb_put_to hj with ⟨rfl, rfl⟩ | ⟨h1, h2, h3, -⟩
  · exact h.2.2 _ List.mem_cons_self
  · refine h.2.2 (j, cb_c ad w) (List.mem_cons_of_mem _ (List.mem_filter.mpr ⟨by simpa using cb_als_of ad ls 0 j w h2, ?_⟩))
    have e1 : (j == i) = false := by simpa using h1
    simp only [e1, Bool.not_false, Bool.true_and]
    rw [cb_lg_cat]
    cases hw : cb_lg w with
    | false => simp
    | true =>
      have : ¬ j + 1 = i := fun q => h3 ⟨q, hw⟩
      simp [this]
theorem cb_L.two {ad : Nat → Nat → Nat} {lc lc' : Array Slot} {nL i : Nat} {ls : cb_Ls} {v : cb_V} (hl : cb_lg v = true) (h : lv_has lc' nL ((i, cb_c ad v) :: (cb_als ad 0 ls).filter (fun q => !(q.1 == i) && (!(q.1 == i + 1) && !(q.1 + 1 == i && q.2.category == 2))))) : cb_L ad lc' nL (cb_put ls i v) := by
  refine ⟨h.1, h.2.1, fun j w hj => ?_⟩
  rcases cb_put_to hj with ⟨rfl, rfl⟩ | ⟨h1, h2, h3, h4⟩
  · exact h.2.2 _ List.mem_cons_self
  · refine h.2.2 (j, cb_c ad w) (List.mem_cons_of_mem _ (List.mem_filter.mpr ⟨by simpa using cb_als_of ad ls 0 j w h2, ?_⟩))
    have e1 : (j == i) = false := by simpa using h1
    have e2 : (j == i + 1) = false := by simpa using fun q => h4 ⟨hl, q⟩
    simp only [e1, e2, Bool.not_false, Bool.true_and]
    rw [cb_lg_cat]
    cases hw : cb_lg w with
    | false => simp
    | true =>
      have : ¬ j + 1 = i := fun q => h3 ⟨q, hw⟩
      simp [this]
theorem cb_cat_sum (ad : Nat → Nat → Nat) : ∀ st : List cb_V, ((cb_cs ad st).map fun v => v.category).sum = cb_cat st
  | [] => rfl
  | .inl x :: l => by
    have := cb_cat_sum ad l
    simp only [cb_cs, List.map_cons, List.sum_cons, cb_cat] at this ⊢
    rw [this]
    show 1 + _ = _
    omega
  | .inr (.inl x) :: l => by
    have := cb_cat_sum ad l
    simp only [cb_cs, List.map_cons, List.sum_cons, cb_cat] at this ⊢
    rw [this]
    show 2 + _ = _
    omega
  | .inr (.inr none) :: l => by
    have := cb_cat_sum ad l
    simp only [cb_cs, List.map_cons, List.sum_cons, cb_cat] at this ⊢
    rw [this]
    show 1 + _ = _
    omega
  | .inr (.inr (some (t, i))) :: l => by
    have := cb_cat_sum ad l
    simp only [cb_cs, List.map_cons, List.sum_cons, cb_cat] at this ⊢
    rw [this]
    show 1 + _ = _
    omega
theorem cb_pop.to : ∀ {na : Nat} {st acc : List cb_V} {K : List cb_V → List cb_V → Prop}, cb_pop na st acc K → ∃ As r, st = As ++ r ∧ As.length = na ∧ K (As.reverse ++ acc) r
  | 0, st, acc, K, h => ⟨[], st, rfl, rfl, h⟩
  | n + 1, [], acc, K, h => by simp [cb_pop] at h
  | n + 1, v :: st, acc, K, h => by
    obtain ⟨As, r, h1, h2, h3⟩ := cb_pop.to (na := n) (st := st) (acc := v :: acc) h
    exact ⟨v :: As, r, by rw [h1]; rfl, by simp [h2], by simpa using h3⟩
theorem cb_nth_mem {α : Type} : ∀ {l : List α} {n : Nat} {d : α}, n < l.length → cb_nth l n d ∈ l
  | [], n, d, h => by simp at h
  | a :: l, 0, d, h => List.mem_cons_self
  | a :: l, n + 1, d, h => List.mem_cons_of_mem _ (cb_nth_mem (by simpa using h))
