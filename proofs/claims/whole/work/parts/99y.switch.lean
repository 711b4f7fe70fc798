/-! ===== from the seed table to the table ===== -/
theorem arrV_lt {cI : ClassId} {N : Nat} {f g : Nat → Value} (h : ∀ j, j < N → f j = g j) : arrV cI N f = arrV cI N g := by
  have e : (fun j : Fin N => f j.val) = fun j : Fin N => g j.val := funext fun j => h j.val j.isLt
  unfold arrV
  rw [e]
theorem st_svc {M : cb_M} {t i j : Nat} (h2 : (cb_fk cb_tb t j).1 = 2 → cb_gR M t i j = some i) (h3 : (cb_fk cb_tb t j).1 = 3 → cb_gR M t i j = some j) : cb_sv cb_sd M t i j = cb_sv cb_tb M t i j := by
  unfold cb_sv
  rw [cb_sd_fk]
  generalize cb_fk cb_tb t j = fk at h2 h3 ⊢
  obtain ⟨k, T⟩ := fk
  match k, h2, h3 with
  | 0, _, _ => rfl
  | 1, _, _ => rfl
  | 2, h2, _ =>
    show Sum.inr (Sum.inr ((cb_gR M t i j).map fun k => (T, k))) = cb_r T i
    rw [h2 rfl]
    rfl
  | 3, _, h3 =>
    show Sum.inr (Sum.inr ((cb_gR M t i j).map fun k => (T, k))) = cb_r T j
    rw [h3 rfl]
    rfl
  | 4, _, _ => rfl
  | k + 5, _, _ => rfl
theorem st_lt {t i : Nat} (h : cb_aS 0 t i = true) : t < 91 ∧ i < cb_nth cb_cnt t 1 + 1 := by
  constructor
  · apply Classical.byContradiction
    intro w
    have e : cb_nth cb_cnt t 1 = 1 := by
      obtain ⟨k, rfl⟩ : ∃ k, t = 91 + k := ⟨t - 91, by omega⟩
      rw [Nat.add_comm]
      rfl
    unfold cb_aS at h
    rw [e] at h
    have h : i < 0 := Nat.blt_eq.mp h
    omega
  · unfold cb_aS at h
    generalize cb_nth cb_cnt t 1 = c at h ⊢
    match c, h with
    | 0, h =>
      have h := Nat.le_of_ble_eq_true h
      omega
    | c + 1, h =>
      have h := Nat.blt_eq.mp h
      omega
set_option maxRecDepth 100000 in
theorem st_al0 : ∀ t, t < 91 → ∀ i, i < cb_nth cb_cnt t 1 + 1 → cb_aS 0 t i = true → cb_ab (ma_X10, none) 90 0 t i = true := by decide +kernel
theorem st_al {t i : Nat} (h : cb_aS 0 t i = true) : cb_ab (ma_X10, none) 90 0 t i = true := st_al0 t (st_lt h).1 i (st_lt h).2 h
theorem st_k0 : ∀ t, t < 91 → cb_kd cb_tb t = 0 → t = 0 ∨ t = 1 ∨ t = 3 ∨ t = 16 ∨ t = 25 ∨ t = 37 ∨ t = 39 ∨ t = 41 ∨ t = 42 ∨ t = 45 ∨ t = 46 := by decide +kernel
theorem st_k1a : ∀ t, t < 91 → cb_kd cb_tb t = 0 ∨ ¬ (cb_fk cb_tb t 0).1 = 2 := by decide +kernel
theorem st_k1b : ∀ t, t < 91 → (cb_fk cb_tb t 0).1 = 3 → t = 56 ∨ t = 58 ∨ t = 60 ∨ t = 62 ∨ t = 74 ∨ t = 76 ∨ t = 78 ∨ t = 87 := by decide +kernel
theorem st_k1 (t : Nat) (ht : t < 91) (h : ¬ cb_kd cb_tb t = 0) : ¬ (cb_fk cb_tb t 0).1 = 2 ∧ ((cb_fk cb_tb t 0).1 = 3 → t = 56 ∨ t = 58 ∨ t = 60 ∨ t = 62 ∨ t = 74 ∨ t = 76 ∨ t = 78 ∨ t = 87) := ⟨(st_k1a t ht).resolve_left h, st_k1b t ht⟩
theorem st_fk0 {t j : Nat} (h : ¬ cb_kd cb_tb t = 0) : cb_fk cb_tb t j = cb_fk cb_tb t 0 := by
  unfold cb_kd at h
  unfold cb_fk
  generalize (cb_nth cb_tb t (9, 0, [])).1 = k at h ⊢
  match k, h with
  | 0, h => exact absurd rfl h
  | k + 1, _ => rfl
set_option maxRecDepth 100000 in
theorem st_r56 : ∀ j, j < 8 → cb_gR mm_X10 56 0 j = some j := by decide +kernel
set_option maxRecDepth 100000 in
theorem st_r58 : ∀ j, j < 6 → cb_gR mm_X10 58 0 j = some j := by decide +kernel
set_option maxRecDepth 100000 in
theorem st_r60 : ∀ j, j < 8 → cb_gR mm_X10 60 0 j = some j := by decide +kernel
set_option maxRecDepth 100000 in
theorem st_r62 : ∀ j, j < 8 → cb_gR mm_X10 62 0 j = some j := by decide +kernel
set_option maxRecDepth 100000 in
theorem st_r74 : ∀ j, j < 401 → cb_gR mm_X10 74 0 j = some j := by decide +kernel
set_option maxRecDepth 100000 in
theorem st_r76 : ∀ j, j < 401 → cb_gR mm_X10 76 0 j = some j := by decide +kernel
set_option maxRecDepth 100000 in
theorem st_r78 : ∀ j, j < 3 → cb_gR mm_X10 78 0 j = some j := by decide +kernel
set_option maxRecDepth 100000 in
theorem st_r87 : ∀ j, j < 100 → cb_gR mm_X10 87 0 j = some j := by decide +kernel
theorem st_i0 {t i : Nat} (h : cb_aS 0 t i = true) (e : cb_nth cb_cnt t 1 = 2 ∨ cb_nth cb_cnt t 1 = 0) : i = 0 := by
  unfold cb_aS at h
  rcases e with e | e
  · rw [e] at h
    have h : i < 1 := Nat.blt_eq.mp h
    omega
  · rw [e] at h
    have h : i ≤ 0 := Nat.le_of_ble_eq_true h
    omega
theorem st_rows {t i j : Nat} (h : cb_aS 0 t i = true) (hk : ¬ cb_kd cb_tb t = 0) (hj : j < cb_len cb_tb t i) : cb_sv cb_sd mm_X10 t i j = cb_sv cb_tb mm_X10 t i j := by
  obtain ⟨g1, g2⟩ := st_k1 t (st_lt h).1 hk
  refine st_svc (fun e => ?_) (fun e => ?_)
  · rw [st_fk0 hk] at e
    exact absurd e g1
  · rw [st_fk0 hk] at e
    rcases g2 e with rfl | rfl | rfl | rfl | rfl | rfl | rfl | rfl <;> cases st_i0 h (Or.inl rfl)
    · exact st_r56 j hj
    · exact st_r58 j hj
    · exact st_r60 j hj
    · exact st_r62 j hj
    · exact st_r74 j hj
    · exact st_r76 j hj
    · exact st_r78 j hj
    · exact st_r87 j hj
set_option maxRecDepth 100000 in
theorem st_o : ∀ q ∈ [((0 : Nat), (0 : Nat)), (1, 0), (3, 0), (3, 1), (16, 0), (25, 0), (37, 0), (39, 0), (41, 0), (42, 0), (45, 0), (46, 0)], ∀ j, j < 54 → (cb_fk cb_tb q.1 j).1 = 2 → cb_gR mm_X10 q.1 q.2 j = some q.2 := by decide +kernel
set_option maxRecDepth 100000 in
theorem st_o3 : ∀ t, t < 91 → cb_kd cb_tb t = 0 → ∀ j, j < 54 → ¬ (cb_fk cb_tb t j).1 = 3 := by decide +kernel
theorem st_objs {t i j : Nat} (h : cb_aS 0 t i = true) (hk : cb_kd cb_tb t = 0) (hj : j < 54) : cb_sv cb_sd mm_X10 t i j = cb_sv cb_tb mm_X10 t i j := by
  refine st_svc (fun e => ?_) (fun e => absurd e (st_o3 t (st_lt h).1 hk j hj))
  rcases st_k0 t (st_lt h).1 hk with rfl | rfl | rfl | rfl | rfl | rfl | rfl | rfl | rfl | rfl | rfl
  · cases st_i0 h (Or.inl rfl)
    exact st_o (0, 0) (by simp) j hj e
  · cases st_i0 h (Or.inl rfl)
    exact st_o (1, 0) (by simp) j hj e
  · have hi : i = 0 ∨ i = 1 := by
      have h : Nat.blt i 2 = true := h
      have h := Nat.blt_eq.mp h
      omega
    rcases hi with rfl | rfl
    · exact st_o (3, 0) (by simp) j hj e
    · exact st_o (3, 1) (by simp) j hj e
  · cases st_i0 h (Or.inr rfl)
    exact st_o (16, 0) (by simp) j hj e
  · cases st_i0 h (Or.inl rfl)
    exact st_o (25, 0) (by simp) j hj e
  · cases st_i0 h (Or.inl rfl)
    exact st_o (37, 0) (by simp) j hj e
  · cases st_i0 h (Or.inl rfl)
    exact st_o (39, 0) (by simp) j hj e
  · cases st_i0 h (Or.inl rfl)
    exact st_o (41, 0) (by simp) j hj e
  · cases st_i0 h (Or.inl rfl)
    exact st_o (42, 0) (by simp) j hj e
  · cases st_i0 h (Or.inl rfl)
    exact st_o (45, 0) (by simp) j hj e
  · cases st_i0 h (Or.inl rfl)
    exact st_o (46, 0) (by simp) j hj e
theorem st_n54 : ∀ {c : Nat} {q : vw_C}, cb_cl[c]? = some q → q.2.2 ≤ 54 := fun {c q} h => by
  have := List.mem_of_getElem? h
  have k : ∀ r ∈ (cb_cl.map fun r => r.2.2), r ≤ 54 := by decide
  exact k _ (List.mem_map_of_mem this)
theorem st_P {G : cb_G} {a : cb_A} {H : Heap} (ha : ∀ t i, cb_aS 0 t i = true → a.1 t i = true) (hP : cb_P G cb_sd a mm_X10 H) : cb_P G cb_tb (cb_aS 0, none) mm_X10 H := by
  refine ⟨fun t i q => ⟨?_, (hP.1 t i (ha t i q)).2⟩, fun t i t' i' q q' => hP.2.1 t i t' i' (ha t i q) (ha t' i' q'), fun z e => by cases e⟩
  have h := (hP.1 t i (ha t i q)).1
  by_cases hk : cb_kd cb_tb t = 0
  · obtain ⟨r, h1, h2⟩ := h.obj ((cb_sd_kd t).trans hk)
    rw [cb_sd_x] at h1 h2
    exact cb_at.ofObj hk ⟨r, h1, h2.to (fun j hj => by rw [st_objs q hk (Nat.lt_of_lt_of_le hj (st_n54 h1))])⟩
  · obtain ⟨k, hk1⟩ : ∃ k, cb_kd cb_tb t = k + 1 := ⟨cb_kd cb_tb t - 1, by omega⟩
    have h1 := h.arr ((cb_sd_kd t).trans hk1)
    refine cb_at.ofArr hk1 ?_
    rw [h1, cb_sd_len]
    exact congrArg some (arrV_lt fun j hj => by rw [st_rows q hk hj])
