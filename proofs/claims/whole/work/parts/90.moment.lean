/-! ===== a new moment, wherever the heap stands ===== -/
def cb_sk (s : Nat × Nat) : Nat × Nat := match s with
  | (2, T) => (1, T)
  | (3, T) => (1, T)
  | s => s
theorem cb_nth_map {α : Type} (f : α → α) (d : α) (hd : f d = d) : ∀ (l : List α) (n : Nat), cb_nth (l.map f) n d = f (cb_nth l n d)
  | [], n => by cases n <;> exact hd.symm
  | x :: l, 0 => rfl
  | x :: l, n + 1 => cb_nth_map f d hd l n
set_option maxRecDepth 100000 in
theorem cb_sd_map : cb_sd = cb_tb.map fun e => (e.1, e.2.1, e.2.2.map cb_sk) := by decide +kernel
theorem cb_sd_nth (t : Nat) : cb_nth cb_sd t (9, 0, []) = ((cb_nth cb_tb t (9, 0, [])).1, (cb_nth cb_tb t (9, 0, [])).2.1, (cb_nth cb_tb t (9, 0, [])).2.2.map cb_sk) := by
  rw [cb_sd_map]
  exact cb_nth_map (fun e : cb_E => (e.1, e.2.1, e.2.2.map cb_sk)) (9, 0, []) rfl cb_tb t
theorem cb_sd_kd (t : Nat) : cb_kd cb_sd t = cb_kd cb_tb t := by
  unfold cb_kd
  rw [cb_sd_nth]
theorem cb_sd_x (t : Nat) : cb_x cb_sd t = cb_x cb_tb t := by
  unfold cb_x
  rw [cb_sd_nth]
theorem cb_sd_len (t i : Nat) : cb_len cb_sd t i = cb_len cb_tb t i := by
  unfold cb_len
  rw [cb_sd_kd, cb_sd_x]
theorem cb_sd_fk (t j : Nat) : cb_fk cb_sd t j = cb_sk (cb_fk cb_tb t j) := by
  unfold cb_fk
  rw [cb_sd_nth]
  simp only []
  split
  · exact cb_nth_map cb_sk (9, 0) rfl _ j
  · exact cb_nth_map cb_sk (9, 0) rfl _ 0
/-- the memory with its fixed references written out -/
def cb_tosd (M : cb_M) : cb_M := (M.1, fun t i j => match cb_fk cb_tb t j with
  | (2, _) => some i
  | (3, _) => some j
  | _ => M.2.1 t i j, M.2.2)
theorem cb_sv_sd (M : cb_M) (t i j : Nat) : cb_sv cb_sd (cb_tosd M) t i j = cb_sv cb_tb M t i j := by
  unfold cb_sv
  rw [cb_sd_fk]
  have eR : cb_gR (cb_tosd M) t i j = (match cb_fk cb_tb t j with | (2, _) => some i | (3, _) => some j | _ => M.2.1 t i j) := rfl
  rw [eR]
  generalize cb_fk cb_tb t j = fk
  obtain ⟨k, T⟩ := fk
  match k with
  | 0 => rfl
  | 1 => rfl
  | 2 => rfl
  | 3 => rfl
  | 4 => rfl
  | k + 5 => rfl
theorem cb_at.conv {G : cb_G} {M M' : cb_M} {t i : Nat} {H : Heap} {tb tb' : List cb_E} (h1 : cb_kd tb' t = cb_kd tb t) (h2 : cb_x tb' t = cb_x tb t) (h3 : cb_len tb' t i = cb_len tb t i) (hs : ∀ j, cb_sv tb' M' t i j = cb_sv tb M t i j) (h : cb_at G tb M t i H) : cb_at G tb' M' t i H := by
  have e : (fun j => cb_c G.ad (cb_sv tb' M' t i j)) = fun j => cb_c G.ad (cb_sv tb M t i j) := funext fun j => by rw [hs j]
  unfold cb_at at *
  rw [h1, h2, h3, e]
  exact h
theorem cb_P.conv {G : cb_G} {a a' : cb_A} {M M' : cb_M} {H : Heap} {tb tb' : List cb_E} (hk : ∀ t, cb_kd tb' t = cb_kd tb t ∧ cb_x tb' t = cb_x tb t ∧ ∀ i, cb_len tb' t i = cb_len tb t i) (ha : ∀ t i, a'.1 t i = true → a.1 t i = true) (hz : ∀ z, a'.2 = some z → a.2 = some z) (hs : ∀ t i j, a'.1 t i = true → cb_sv tb' M' t i j = cb_sv tb M t i j) (h : cb_P G tb a M H) : cb_P G tb' a' M' H :=
  ⟨fun t i q => ⟨cb_at.conv (hk t).1 (hk t).2.1 ((hk t).2.2 i) (fun j => hs t i j q) (h.1 t i (ha t i q)).1, (h.1 t i (ha t i q)).2⟩, fun t i t' i' q q' => h.2.1 t i t' i' (ha t i q) (ha t' i' q'), fun z e => h.2.2 z (hz z e)⟩
theorem cb_k1 : ∀ t, cb_kd cb_sd t = cb_kd cb_tb t ∧ cb_x cb_sd t = cb_x cb_tb t ∧ ∀ i, cb_len cb_sd t i = cb_len cb_tb t i := fun t => ⟨cb_sd_kd t, cb_sd_x t, cb_sd_len t⟩
theorem cb_k2 : ∀ t, cb_kd cb_tb t = cb_kd cb_sd t ∧ cb_x cb_tb t = cb_x cb_sd t ∧ ∀ i, cb_len cb_tb t i = cb_len cb_sd t i := fun t => ⟨(cb_sd_kd t).symm, (cb_sd_x t).symm, fun i => (cb_sd_len t i).symm⟩
/-- a moment's things are as if never written -/
def cb_mz (t i q : Nat) : Bool := Nat.ble 16 t && (Nat.ble t 23 && Nat.beq i q)
def cb_zr (M : cb_M) (q : Nat) : cb_M := (fun t i j => if cb_mz t i q = true then 0 else M.1 t i j, fun t i j => if cb_mz t i q = true then none else M.2.1 t i j, fun t i j => if cb_mz t i q = true then 0 else M.2.2 t i j)
theorem cb_zr_df (M : cb_M) {t q : Nat} (h : cb_mz t q q = true) : cb_df (cb_zr M q) t q := fun j => ⟨if_pos h, if_pos h, if_pos h⟩
theorem cb_zr_sv (tb : List cb_E) (M : cb_M) {t i q : Nat} (h : ¬ cb_mz t i q = true) (j : Nat) : cb_sv tb (cb_zr M q) t i j = cb_sv tb M t i j := by
  have e1 : cb_gI (cb_zr M q) t i j = cb_gI M t i j := if_neg h
  have e2 : cb_gR (cb_zr M q) t i j = cb_gR M t i j := if_neg h
  have e3 : cb_gL (cb_zr M q) t i j = cb_gL M t i j := if_neg h
  unfold cb_sv
  rw [e1, e2, e3]
theorem cb_mz_iff {t i q : Nat} : cb_mz t i q = true ↔ 16 ≤ t ∧ t ≤ 23 ∧ i = q := by
  unfold cb_mz
  rw [Bool.and_eq_true, Bool.and_eq_true, Nat.ble_eq, Nat.ble_eq]
  exact ⟨fun h => ⟨h.1, h.2.1, Nat.eq_of_beq_eq_true h.2.2⟩, fun h => ⟨h.1, h.2.1, by rw [h.2.2]; exact Nat.beq_refl q⟩⟩
/-- the addresses, with those of a new moment -/
def cb_gm (G : cb_G) (q z : Nat) : cb_G := (G.1, fun t i => if cb_mz t i q = true then z + (t - 16) else G.2.1 t i, G.2.2)
/-- nobody speaks of it yet -/
def cb_nrf (tb : List cb_E) (a : cb_A) (M : cb_M) (q : Nat) : Prop := ∀ t i, a.1 t i = true → cb_mz t i q = false ∧ ∀ j T I, cb_sv tb M t i j = cb_r T I → cb_mz T I q = false
theorem cb_P.gm {G : cb_G} {tb : List cb_E} {a : cb_A} {M : cb_M} {H : Heap} {q z : Nat} (hn : cb_nrf tb a M q) (h : cb_P G tb a M H) : cb_P (cb_gm G q z) tb a M H := by
  have had : ∀ t i, cb_mz t i q = false → (cb_gm G q z).ad t i = G.ad t i := fun t i w => if_neg (by rw [w]; decide)
  have hc : ∀ t i, a.1 t i = true → ∀ j, cb_c (cb_gm G q z).ad (cb_sv tb M t i j) = cb_c G.ad (cb_sv tb M t i j) := fun t i ha j => by
    have := (hn t i ha).2 j
    generalize cb_sv tb M t i j = v at *
    match v, this with
    | .inl x, _ => rfl
    | .inr (.inl x), _ => rfl
    | .inr (.inr none), _ => rfl
    | .inr (.inr (some (T, I))), this =>
      show Value.ref ((cb_gm G q z).ad T I) = Value.ref (G.ad T I)
      rw [had T I (this T I rfl)]
  refine ⟨fun t i ha => ⟨?_, ?_⟩, fun t i t' i' h1 h2 e => ?_, h.2.2⟩
  · have hat := (h.1 t i ha).1
    have e : (fun j => cb_c (cb_gm G q z).ad (cb_sv tb M t i j)) = fun j => cb_c G.ad (cb_sv tb M t i j) := funext fun j => hc t i ha j
    unfold cb_at at *
    rw [e, had t i (hn t i ha).1]
    exact hat
  · rw [had t i (hn t i ha).1]
    exact (h.1 t i ha).2
  · rw [had t i (hn t i h1).1, had t' i' (hn t' i' h2).1] at e
    exact h.2.1 t i t' i' h1 h2 e
