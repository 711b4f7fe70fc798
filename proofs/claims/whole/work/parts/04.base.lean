/-! ===== the layer: values by tags, memory by tags, a table of the tags ===== -/
abbrev cb_V : Type := Int32 ⊕ (Int64 ⊕ Option (Nat × Nat))
abbrev cb_i (x : Int32) : cb_V := Sum.inl x
abbrev cb_l (x : Int64) : cb_V := Sum.inr (Sum.inl x)
abbrev cb_n : cb_V := Sum.inr (Sum.inr none)
abbrev cb_r (t i : Nat) : cb_V := Sum.inr (Sum.inr (some (t, i)))
/-- the value itself, by the addresses ad of the tags -/
def cb_c (ad : Nat → Nat → Nat) (v : cb_V) : Value := match v with
  | .inl x => .int x
  | .inr (.inl x) => .long x
  | .inr (.inr none) => .null
  | .inr (.inr (some (t, i))) => .ref (ad t i)
/-- ints, references (the number of the thing, its tag stands in the table), longs: by tag, number, place -/
abbrev cb_M : Type := (Nat → Nat → Nat → Int32) × (Nat → Nat → Nat → Option Nat) × (Nat → Nat → Nat → Int64)
def cb_gI (M : cb_M) (t i j : Nat) : Int32 := M.1 t i j
def cb_gR (M : cb_M) (t i j : Nat) : Option Nat := M.2.1 t i j
def cb_gL (M : cb_M) (t i j : Nat) : Int64 := M.2.2 t i j
def cb_sI (M : cb_M) (t i j : Nat) (x : Int32) : cb_M := (fun t' i' j' => if t' = t ∧ i' = i ∧ j' = j then x else M.1 t' i' j', M.2)
def cb_sR (M : cb_M) (t i j : Nat) (x : Option Nat) : cb_M := (M.1, fun t' i' j' => if t' = t ∧ i' = i ∧ j' = j then x else M.2.1 t' i' j', M.2.2)
def cb_sL (M : cb_M) (t i j : Nat) (x : Int64) : cb_M := (M.1, M.2.1, fun t' i' j' => if t' = t ∧ i' = i ∧ j' = j then x else M.2.2 t' i' j')
theorem cb_gI_sI (M : cb_M) (t i j : Nat) (x : Int32) (t' i' j' : Nat) : cb_gI (cb_sI M t i j x) t' i' j' = if t' = t ∧ i' = i ∧ j' = j then x else cb_gI M t' i' j' := rfl
theorem cb_gI_sR (M : cb_M) (t i j : Nat) (x : Option Nat) (t' i' j' : Nat) : cb_gI (cb_sR M t i j x) t' i' j' = cb_gI M t' i' j' := rfl
theorem cb_gI_sL (M : cb_M) (t i j : Nat) (x : Int64) (t' i' j' : Nat) : cb_gI (cb_sL M t i j x) t' i' j' = cb_gI M t' i' j' := rfl
theorem cb_gR_sR (M : cb_M) (t i j : Nat) (x : Option Nat) (t' i' j' : Nat) : cb_gR (cb_sR M t i j x) t' i' j' = if t' = t ∧ i' = i ∧ j' = j then x else cb_gR M t' i' j' := rfl
theorem cb_gR_sI (M : cb_M) (t i j : Nat) (x : Int32) (t' i' j' : Nat) : cb_gR (cb_sI M t i j x) t' i' j' = cb_gR M t' i' j' := rfl
theorem cb_gR_sL (M : cb_M) (t i j : Nat) (x : Int64) (t' i' j' : Nat) : cb_gR (cb_sL M t i j x) t' i' j' = cb_gR M t' i' j' := rfl
theorem cb_gL_sL (M : cb_M) (t i j : Nat) (x : Int64) (t' i' j' : Nat) : cb_gL (cb_sL M t i j x) t' i' j' = if t' = t ∧ i' = i ∧ j' = j then x else cb_gL M t' i' j' := rfl
theorem cb_gL_sI (M : cb_M) (t i j : Nat) (x : Int32) (t' i' j' : Nat) : cb_gL (cb_sI M t i j x) t' i' j' = cb_gL M t' i' j' := rfl
theorem cb_gL_sR (M : cb_M) (t i j : Nat) (x : Option Nat) (t' i' j' : Nat) : cb_gL (cb_sR M t i j x) t' i' j' = cb_gL M t' i' j' := rfl
/-- which things there are; how large the heap is, if that is known -/
abbrev cb_A : Type := (Nat → Nat → Bool) × Option Nat
/-- a tag: kind (0 an object, 1 ints, 2 bytes, 3 booleans, 4 longs, 5 references, 6 rows), its class or its length, its slots: 0 an int, 1 a reference to a thing of that tag, 2 the thing of that tag with the same number, 3 that with the place's number, 4 a long, 5 a boolean -/
abbrev cb_E : Type := Nat × Nat × List (Nat × Nat)
def cb_nth {α : Type} : List α → Nat → α → α
  | [], _, d => d
  | a :: _, 0, _ => a
  | _ :: l, n + 1, d => cb_nth l n d
def cb_kd (tb : List cb_E) (t : Nat) : Nat := (cb_nth tb t (9, 0, [])).1
def cb_x (tb : List cb_E) (t : Nat) : Nat := (cb_nth tb t (9, 0, [])).2.1
def cb_fk (tb : List cb_E) (t j : Nat) : Nat × Nat := match (cb_nth tb t (9, 0, [])).1 with
  | 0 => cb_nth (cb_nth tb t (9, 0, [])).2.2 j (9, 0)
  | _ => cb_nth (cb_nth tb t (9, 0, [])).2.2 0 (9, 0)
def cb_len (tb : List cb_E) (t i : Nat) : Nat := match cb_kd tb t, i with
  | 2, _ + 1 => 0
  | _, _ => cb_x tb t
/-- what stands at a place -/
def cb_sv (tb : List cb_E) (M : cb_M) (t i j : Nat) : cb_V := match cb_fk tb t j with
  | (0, _) => cb_i (cb_gI M t i j)
  | (1, T) => Sum.inr (Sum.inr ((cb_gR M t i j).map fun k => (T, k)))
  | (2, T) => cb_r T i
  | (3, T) => cb_r T j
  | (4, _) => cb_l (cb_gL M t i j)
  | _ => cb_i (cb_gI M t i j)
/-- a value laid at a place -/
def cb_st (tb : List cb_E) (M : cb_M) (t i j : Nat) (v : cb_V) : Option cb_M := match cb_fk tb t j, v with
  | (0, _), .inl x => some (cb_sI M t i j x)
  | (1, _), .inr (.inr none) => some (cb_sR M t i j none)
  | (1, T), .inr (.inr (some (t', i'))) => if t' = T then some (cb_sR M t i j (some i')) else none
  | (4, _), .inr (.inl x) => some (cb_sL M t i j x)
  | (5, _), .inl x => if x = 0 ∨ x = 1 then some (cb_sI M t i j x) else none
  | _, _ => none
theorem cb_sv_sI {tb : List cb_E} {M : cb_M} {t i j : Nat} {x : Int32} {t' i' j' : Nat} (h : ¬ (t' = t ∧ i' = i ∧ j' = j)) : cb_sv tb (cb_sI M t i j x) t' i' j' = cb_sv tb M t' i' j' := by
  simp only [cb_sv, cb_gI_sI, cb_gR_sI, cb_gL_sI, if_neg h]
theorem cb_sv_sR {tb : List cb_E} {M : cb_M} {t i j : Nat} {x : Option Nat} {t' i' j' : Nat} (h : ¬ (t' = t ∧ i' = i ∧ j' = j)) : cb_sv tb (cb_sR M t i j x) t' i' j' = cb_sv tb M t' i' j' := by
  simp only [cb_sv, cb_gI_sR, cb_gR_sR, cb_gL_sR, if_neg h]
theorem cb_sv_sL {tb : List cb_E} {M : cb_M} {t i j : Nat} {x : Int64} {t' i' j' : Nat} (h : ¬ (t' = t ∧ i' = i ∧ j' = j)) : cb_sv tb (cb_sL M t i j x) t' i' j' = cb_sv tb M t' i' j' := by
  simp only [cb_sv, cb_gI_sL, cb_gR_sL, cb_gL_sL, if_neg h]
theorem cb_st_same {tb : List cb_E} {M M' : cb_M} {t i j : Nat} {v : cb_V} (h : cb_st tb M t i j v = some M') : cb_sv tb M' t i j = v := by
  unfold cb_st at h
  split at h
  · rename_i e
    cases h
    simp [cb_sv, e, cb_gI_sI]
  · rename_i e
    cases h
    simp [cb_sv, e, cb_gR_sR]
  · rename_i e
    split at h
    · rename_i q
      subst q
      cases h
      simp [cb_sv, e, cb_gR_sR]
    · cases h
  · rename_i e
    cases h
    simp [cb_sv, e, cb_gL_sL]
  · rename_i e
    split at h
    · cases h
      simp [cb_sv, e, cb_gI_sI]
    · cases h
  · cases h
theorem cb_st_else {tb : List cb_E} {M M' : cb_M} {t i j : Nat} {v : cb_V} (h : cb_st tb M t i j v = some M') {t' i' j' : Nat} (n : ¬ (t' = t ∧ i' = i ∧ j' = j)) : cb_sv tb M' t' i' j' = cb_sv tb M t' i' j' := by
  unfold cb_st at h
  split at h
  · cases h
    exact cb_sv_sI n
  · cases h
    exact cb_sv_sR n
  · split at h
    · cases h
      exact cb_sv_sR n
    · cases h
  · cases h
    exact cb_sv_sL n
  · split at h
    · cases h
      exact cb_sv_sI n
    · cases h
  · cases h
/-- the heap's size at the law's start; where the things are; the classes, the slots of their fields; the array classes by their kinds -/
abbrev cb_G : Type := Nat × (Nat → Nat → Nat) × (Nat → ClassId) × (Nat → Nat → Nat) × (Nat → ClassId)
abbrev cb_G.s0 (G : cb_G) : Nat := G.1
abbrev cb_G.ad (G : cb_G) : Nat → Nat → Nat := G.2.1
abbrev cb_G.dC (G : cb_G) : Nat → ClassId := G.2.2.1
abbrev cb_G.dI (G : cb_G) : Nat → Nat → Nat := G.2.2.2.1
abbrev cb_G.dA (G : cb_G) : Nat → ClassId := G.2.2.2.2
def cb_G.A (G : cb_G) : Nat → Prop := fun q => G.1 ≤ q
abbrev cb_cl : List vw_C := [(RX0, TX0, 2), (RX1, TX1, 4), (RX2, TX2, 2), (RX3, TX3, 8), (RX4, TX4, 17), (RX5, TX5, 1), (RX6, TX6, 6), (RX7, TX7, 18), (RX8, TX8, 1), (RX9, TX9, 15), (RX10, TX10, 54)]
def cb_at (G : cb_G) (tb : List cb_E) (M : cb_M) (t i : Nat) (H : Heap) : Prop := match cb_kd tb t with
  | 0 => ∃ r : vw_C, cb_cl[cb_x tb t]? = some r ∧ t_OB (G.ad t i) (G.dC (cb_x tb t)) r.2.2 (G.dI (cb_x tb t)) H (fun j => cb_c G.ad (cb_sv tb M t i j))
  | k + 1 => H[G.ad t i]? = some (arrV (G.dA (k + 1)) (cb_len tb t i) (fun j => cb_c G.ad (cb_sv tb M t i j)))
theorem cb_at.kept {G : cb_G} {tb : List cb_E} {M M' : cb_M} {t i : Nat} {H H' : Heap} (h : cb_at G tb M t i H) (hq : H'[G.ad t i]? = H[G.ad t i]?) (hs : ∀ j, cb_sv tb M' t i j = cb_sv tb M t i j) : cb_at G tb M' t i H' := by
  have e : (fun j => cb_c G.ad (cb_sv tb M' t i j)) = fun j => cb_c G.ad (cb_sv tb M t i j) := funext fun j => by rw [hs j]
  unfold cb_at at h ⊢
  rw [e]
  split at h
  · obtain ⟨r, h1, h2⟩ := h
    exact ⟨r, h1, h2.kept hq⟩
  · exact hq.trans h
theorem cb_at.obj {G : cb_G} {tb : List cb_E} {M : cb_M} {t i : Nat} {H : Heap} (h : cb_at G tb M t i H) (hk : cb_kd tb t = 0) : ∃ r : vw_C, cb_cl[cb_x tb t]? = some r ∧ t_OB (G.ad t i) (G.dC (cb_x tb t)) r.2.2 (G.dI (cb_x tb t)) H (fun j => cb_c G.ad (cb_sv tb M t i j)) := by
  unfold cb_at at h
  rw [hk] at h
  exact h
theorem cb_at.arr {G : cb_G} {tb : List cb_E} {M : cb_M} {t i k : Nat} {H : Heap} (h : cb_at G tb M t i H) (hk : cb_kd tb t = k + 1) : H[G.ad t i]? = some (arrV (G.dA (k + 1)) (cb_len tb t i) (fun j => cb_c G.ad (cb_sv tb M t i j))) := by
  unfold cb_at at h
  rw [hk] at h
  exact h
theorem cb_at.ofObj {G : cb_G} {tb : List cb_E} {M : cb_M} {t i : Nat} {H : Heap} (hk : cb_kd tb t = 0) (h : ∃ r : vw_C, cb_cl[cb_x tb t]? = some r ∧ t_OB (G.ad t i) (G.dC (cb_x tb t)) r.2.2 (G.dI (cb_x tb t)) H (fun j => cb_c G.ad (cb_sv tb M t i j))) : cb_at G tb M t i H := by
  unfold cb_at
  rw [hk]
  exact h
theorem cb_at.ofArr {G : cb_G} {tb : List cb_E} {M : cb_M} {t i k : Nat} {H : Heap} (hk : cb_kd tb t = k + 1) (h : H[G.ad t i]? = some (arrV (G.dA (k + 1)) (cb_len tb t i) (fun j => cb_c G.ad (cb_sv tb M t i j)))) : cb_at G tb M t i H := by
  unfold cb_at
  rw [hk]
  exact h
theorem cb_at.lt {G : cb_G} {tb : List cb_E} {M : cb_M} {t i : Nat} {H : Heap} (h : cb_at G tb M t i H) : G.ad t i < H.size := by
  unfold cb_at at h
  split at h
  · obtain ⟨r, -, cell, h2, -⟩ := h
    exact (Array.getElem?_eq_some_iff.mp h2).1
  · exact (Array.getElem?_eq_some_iff.mp h).1
/-- the heap holds the memory -/
def cb_P (G : cb_G) (tb : List cb_E) (a : cb_A) (M : cb_M) (H : Heap) : Prop :=
  (∀ t i : Nat, a.1 t i = true → cb_at G tb M t i H ∧ G.1 ≤ G.ad t i) ∧ (∀ t i t' i' : Nat, a.1 t i = true → a.1 t' i' = true → G.ad t i = G.ad t' i' → t = t' ∧ i = i') ∧ (∀ z : Nat, a.2 = some z → H.size = z)
theorem cb_P.put {G : cb_G} {tb : List cb_E} {a : cb_A} {M M' : cb_M} {H H' : Heap} (h : cb_P G tb a M H) {t i j : Nat} {v : cb_V} (ha : a.1 t i = true) (hs : cb_st tb M t i j v = some M') (hn : cb_at G tb M' t i H') (hz : H'.size = H.size) (oq : ∀ q : Nat, q ≠ G.ad t i → H'[q]? = H[q]?) : cb_P G tb a M' H' := by
  refine ⟨fun t' i' ha' => ⟨?_, (h.1 t' i' ha').2⟩, h.2.1, fun z e => by rw [hz]; exact h.2.2 z e⟩
  by_cases e : t' = t ∧ i' = i
  · obtain ⟨rfl, rfl⟩ := e
    exact hn
  · refine (h.1 t' i' ha').1.kept (oq _ fun q => e (h.2.1 _ _ _ _ ha' ha q)) fun j' => cb_st_else hs fun q => e ⟨q.1, q.2.1⟩
/-- one slot of a thing is another -/
theorem cb_updV {G : cb_G} {tb : List cb_E} {M M' : cb_M} {t i j : Nat} {v : cb_V} (hs : cb_st tb M t i j v = some M') : updV (fun k => cb_c G.ad (cb_sv tb M t i k)) j (cb_c G.ad v) = fun k => cb_c G.ad (cb_sv tb M' t i k) := by
  funext k
  by_cases e : k = j
  · subst e
    simp only [updV, if_pos, cb_st_same hs]
  · simp only [updV, if_neg e]
    rw [cb_st_else hs (fun q => e q.2.2)]
theorem cb_P.lt {G : cb_G} {tb : List cb_E} {a : cb_A} {M : cb_M} {H : Heap} (h : cb_P G tb a M H) {t i : Nat} (ha : a.1 t i = true) : G.ad t i < H.size := (h.1 t i ha).1.lt
