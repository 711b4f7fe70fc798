/-! ===== the tape of the class, the bytes of the reference: one text ===== -/
def rd_ot (x : Int32) : Prop := ¬ x = 32 ∧ ¬ x = 59 ∧ rd_dg x = false ∧ rd_lt x = false
def re_q (x y : Int32) : Prop := x = y ∨ (rd_ot x ∧ rd_ot y)
theorem re_q_bl {x y : Int32} (h : re_q x y) : decide (x = 32) = decide (y = 32) := by
  rcases h with rfl | ⟨h1, h2⟩
  · rfl
  · rw [decide_eq_false h1.1, decide_eq_false h2.1]
theorem re_q_59 {x y : Int32} (h : re_q x y) : x = 59 ↔ y = 59 := by
  rcases h with rfl | ⟨h1, h2⟩
  · exact Iff.rfl
  · exact ⟨fun e => absurd e h1.2.1, fun e => absurd e h2.2.1⟩
theorem re_q_dg {x y : Int32} (h : re_q x y) : rd_dg x = rd_dg y := by
  rcases h with rfl | ⟨h1, h2⟩
  · rfl
  · rw [h1.2.2.1, h2.2.2.1]
theorem re_q_lt {x y : Int32} (h : re_q x y) : rd_lt x = rd_lt y := by
  rcases h with rfl | ⟨h1, h2⟩
  · rfl
  · rw [h1.2.2.2, h2.2.2.2]
theorem re_q_ch {x y c : Int32} (h : re_q x y) (hc : rd_lt c = true) : decide (x = c) = decide (y = c) := by
  rcases h with rfl | ⟨h1, h2⟩
  · rfl
  · have e1 : ¬ x = c := fun e => by
      have := h1.2.2.2
      rw [e, hc] at this
      cases this
    have e2 : ¬ y = c := fun e => by
      have := h2.2.2.2
      rw [e, hc] at this
      cases this
    rw [decide_eq_false e1, decide_eq_false e2]
theorem re_by_q {x y : Int32} (h : re_by x y) : re_q x y := by
  obtain ⟨k, hk, rfl, rfl⟩ := h
  have key : ∀ k, k < 256 → ¬ k < 128 → (¬ (nI k - 256 : Int32) = 32 ∧ ¬ (nI k - 256 : Int32) = 59 ∧ rd_dg (nI k - 256) = false ∧ rd_lt (nI k - 256) = false) ∧ (¬ nI k = 32 ∧ ¬ nI k = 59 ∧ rd_dg (nI k) = false ∧ rd_lt (nI k) = false) := by decide +kernel
  by_cases w : k < 128
  · rw [if_pos w]
    exact Or.inl rfl
  · rw [if_neg w]
    exact Or.inr (key k hk w)
theorem rd_to_cong {p q : Nat → Bool} : ∀ f a, (∀ i, a ≤ i → i < a + f → p i = q i) → rd_to p f a = rd_to q f a
  | 0, a, _ => rfl
  | f + 1, a, h => by
    rw [rd_to, rd_to, h a (by omega) (by omega), rd_to_cong f (a + 1) (fun i h1 h2 => h i (by omega) (by omega))]
theorem rd_end_cong {p q : Nat → Bool} {len : Nat} (h : ∀ i, i < len → p i = q i) (a : Nat) : rd_end p len a = rd_end q len a := rd_to_cong _ _ (fun i _ h2 => h i (by omega))
section TXT
variable {tx ty : wm_F} {len : Nat}
theorem rd_dv_cong : ∀ f a v, (∀ i, a ≤ i → i < a + f → re_q (tx i) (ty i)) → rd_dv tx f a v = rd_dv ty f a v
  | 0, a, v, _ => rfl
  | f + 1, a, v, h => by
    have ha := h a (by omega) (by omega)
    rw [rd_dv, rd_dv, re_q_dg ha]
    by_cases w : rd_dg (ty a) = true
    · rw [if_pos w, if_pos w]
      have e : tx a = ty a := by
        rcases ha with e | ⟨-, e⟩
        · exact e
        · rw [e.2.2.1] at w
          cases w
      rw [e]
      exact rd_dv_cong f (a + 1) _ (fun i h1 h2 => h i (by omega) (by omega))
    · rw [if_neg w, if_neg w]
theorem rd_bl_cong (h : ∀ i, i < len → re_q (tx i) (ty i)) (a : Nat) : rd_end (rd_bl tx) len a = rd_end (rd_bl ty) len a := rd_end_cong (fun i hi => re_q_bl (h i hi)) a
theorem rd_ds_cong (h : ∀ i, i < len → re_q (tx i) (ty i)) (a : Nat) : rd_end (rd_ds tx) len a = rd_end (rd_ds ty) len a := rd_end_cong (fun i hi => re_q_dg (h i hi)) a
theorem rd_ls_cong (h : ∀ i, i < len → re_q (tx i) (ty i)) (a : Nat) : rd_end (rd_ls tx) len a = rd_end (rd_ls ty) len a := rd_end_cong (fun i hi => re_q_lt (h i hi)) a
theorem rd_num_cong (h : ∀ i, i < len → re_q (tx i) (ty i)) : rd_num tx len = rd_num ty len := funext fun lo => funext fun hi => funext fun a => by
  unfold rd_num
  rw [rd_bl_cong h, rd_ds_cong h, rd_dv_cong (ty := ty) _ _ _ (fun i h1 h2 => h i (by omega))]
theorem rd_close_cong (h : ∀ i, i < len → re_q (tx i) (ty i)) : rd_close tx len = rd_close ty len := funext fun a => by
  unfold rd_close
  rw [rd_bl_cong h]
  by_cases w : rd_end (rd_bl ty) len a < len
  · by_cases w2 : ty (rd_end (rd_bl ty) len a) = 59
    · rw [if_pos ⟨w, (re_q_59 (h _ w)).mpr w2⟩, if_pos ⟨w, w2⟩]
    · rw [if_neg (fun z => w2 ((re_q_59 (h _ w)).mp z.2)), if_neg (fun z => w2 z.2)]
  · rw [if_neg (fun z => w z.1), if_neg (fun z => w z.1)]
theorem rd_plc_cong (h : ∀ i, i < len → re_q (tx i) (ty i)) : rd_plc tx len = rd_plc ty len := by
  unfold rd_plc
  rw [rd_num_cong h]
theorem rd_cl_cong (h : ∀ i, i < len → re_q (tx i) (ty i)) (j : Nat) : rd_cl tx len j = rd_cl ty len j := by
  unfold rd_cl rd_c0 rd_c1 rd_c2 rd_c3 rd_c4 rd_c5 rd_c6 rd_c7
  rw [rd_num_cong h, rd_close_cong h, rd_plc_cong h]
theorem rd_find {p q : Nat → Bool} : ∀ l : List Nat, (∀ j ∈ l, p j = q j) → l.find? p = l.find? q
  | [], _ => rfl
  | x :: l, h => by
    rw [List.find?_cons, List.find?_cons, h x List.mem_cons_self, rd_find l (fun j hj => h j (List.mem_cons_of_mem _ hj))]
theorem tx_ch_lt : ∀ j, j < 8 → 1 ≤ cb_slen.getD j 0 ∧ ∀ k, k < cb_slen.getD j 0 → rd_lt (tx_ch j k) = true := by decide +kernel
theorem rd_w_cong (h : ∀ i, i < len → re_q (tx i) (ty i)) (a : Nat) : rd_w tx a (rd_end (rd_ls ty) len a) = rd_w ty a (rd_end (rd_ls ty) len a) := by
  unfold rd_w
  refine rd_find _ (fun j hj => ?_)
  have hj8 := List.mem_range.mp hj
  obtain ⟨h1, h2⟩ := tx_ch_lt j hj8
  unfold rd_is
  by_cases w : rd_end (rd_ls ty) len a - a = cb_slen.getD j 0
  · rw [decide_eq_true w, Bool.true_and, Bool.true_and]
    have hle : rd_end (rd_ls ty) len a ≤ len := by
      by_cases q : a ≤ len
      · exact rd_end_le q
      · have : rd_end (rd_ls ty) len a = a := rd_end_out (fun z => q (by omega))
        omega
    refine Bool.eq_iff_iff.mpr ⟨fun z => List.all_eq_true.mpr fun k hk => ?_, fun z => List.all_eq_true.mpr fun k hk => ?_⟩
    · have hk' := List.mem_range.mp hk
      rw [← re_q_ch (h (a + k) (by omega)) (h2 k hk')]
      exact List.all_eq_true.mp z k hk
    · have hk' := List.mem_range.mp hk
      rw [re_q_ch (h (a + k) (by omega)) (h2 k hk')]
      exact List.all_eq_true.mp z k hk
  · rw [decide_eq_false w, Bool.false_and, Bool.false_and]
theorem rd_clause_cong (h : ∀ i, i < len → re_q (tx i) (ty i)) (A : rd_P) (cnt a : Nat) : rd_clause tx len A cnt a = rd_clause ty len A cnt a := by
  unfold rd_clause
  rw [rd_ls_cong h, rd_w_cong h]
  split
  · rfl
  · rw [rd_cl_cong h]
theorem rd_loop_cong (h : ∀ i, i < len → re_q (tx i) (ty i)) : ∀ f A cnt a, rd_loop tx len f A cnt a = rd_loop ty len f A cnt a
  | 0, _, _, _ => rfl
  | f + 1, A, cnt, a => by
    rw [rd_loop, rd_loop, rd_bl_cong h, rd_clause_cong h]
    congr 2
    funext r
    exact rd_loop_cong h f r.1 (cnt + 1) r.2
end TXT
