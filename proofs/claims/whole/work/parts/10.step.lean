/-! ===== one instruction: what it asks is enough ===== -/
section STP
variable {tb : List cb_E} {d : cb_D} {X : cb_X} {jp : Nat → cb_Nx}
theorem cb_ald {kd : Nat} {st : List cb_V} {a : cb_A} {M : cb_M} {K : List cb_V → Prop} (h : cb_al tb kd st a M K) : ∃ (x : Int32) (t i : Nat) (r : List cb_V), st = cb_i x :: cb_r t i :: r ∧ a.1 t i = true ∧ cb_kd tb t = kd ∧ vp_in x (cb_len tb t i) ∧ K (cb_sv tb M t i x.toNatClampNeg :: r) := by
  unfold cb_al at h
  split at h
  · obtain ⟨h1, h⟩ := h.to
    obtain ⟨h2, h⟩ := h.to
    exact ⟨_, _, _, _, rfl, h1, Nat.eq_of_beq_eq_true h2, h.1, cb_pv.to h.2⟩
  · exact h.elim
theorem cb_asd {kd : Nat} {st : List cb_V} {a : cb_A} {M : cb_M} {K : List cb_V → cb_M → Prop} (h : cb_as tb kd st a M K) : ∃ (v : cb_V) (x : Int32) (t i : Nat) (r : List cb_V) (M' : cb_M), st = v :: cb_i x :: cb_r t i :: r ∧ a.1 t i = true ∧ cb_kd tb t = kd ∧ vp_in x (cb_len tb t i) ∧ cb_st tb M t i x.toNatClampNeg (cb_nr kd v) = some M' ∧ K r M' := by
  unfold cb_as at h
  split at h
  · obtain ⟨h1, h⟩ := h.to
    obtain ⟨h2, h⟩ := h.to
    obtain ⟨h3, h⟩ := h
    split at h
    · rename_i M' e
      exact ⟨_, _, _, _, _, M', rfl, h1, Nat.eq_of_beq_eq_true h2, h3, e, h⟩
    · exact h.elim
  · exact h.elim
theorem cb_b2d {st : List cb_V} {f : Int32 → Int32 → Int32} {K : List cb_V → Prop} (h : cb_b2 st f K) : ∃ x y r, st = cb_i y :: cb_i x :: r ∧ K (cb_i (f x y) :: r) := by
  unfold cb_b2 at h
  split at h
  · exact ⟨_, _, _, rfl, h⟩
  · exact h.elim
theorem cb_b1d {st : List cb_V} {f : Int32 → Int32} {K : List cb_V → Prop} (h : cb_b1 st f K) : ∃ x r, st = cb_i x :: r ∧ K (cb_i (f x) :: r) := by
  unfold cb_b1 at h
  split at h
  · exact ⟨_, _, rfl, h⟩
  · exact h.elim
theorem cb_d2d {st : List cb_V} {f : Int32 → Int32 → Int32} {K : List cb_V → Prop} (h : cb_d2 st f K) : ∃ x y r, st = cb_i y :: cb_i x :: r ∧ ¬ y = 0 ∧ K (cb_i (f x y) :: r) := by
  unfold cb_d2 at h
  split at h
  · exact ⟨_, _, _, rfl, h.1, h.2⟩
  · exact h.elim
theorem cb_c2d {st : List cb_V} {c : Int32 → Int32 → Prop} {Y N : List cb_V → Prop} (h : cb_c2 st c Y N) : ∃ x y r, st = cb_i y :: cb_i x :: r ∧ (c x y → Y r) ∧ (¬ c x y → N r) := by
  unfold cb_c2 at h
  split at h
  · exact ⟨_, _, _, rfl, h.1, h.2⟩
  · exact h.elim
theorem cb_c1d {st : List cb_V} {c : Int32 → Prop} {Y N : List cb_V → Prop} (h : cb_c1 st c Y N) : ∃ x r, st = cb_i x :: r ∧ (c x → Y r) ∧ (¬ c x → N r) := by
  unfold cb_c1 at h
  split at h
  · exact ⟨_, _, rfl, h.1, h.2⟩
  · exact h.elim
theorem cb_gfd {ci k : Nat} {st : List cb_V} {a : cb_A} {M : cb_M} {K : List cb_V → Prop} (h : cb_gf tb ci k st a M K) : ∃ (t i : Nat) (r : List cb_V), st = cb_r t i :: r ∧ a.1 t i = true ∧ cb_kd tb t = 0 ∧ cb_x tb t = ci ∧ K (cb_sv tb M t i k :: r) := by
  unfold cb_gf at h
  split at h
  · obtain ⟨h1, h⟩ := h.to
    obtain ⟨h2, h⟩ := h.to
    obtain ⟨h3, h⟩ := h.to
    exact ⟨_, _, _, rfl, h1, Nat.eq_of_beq_eq_true h2, Nat.eq_of_beq_eq_true h3, cb_pv.to h⟩
  · exact h.elim
theorem cb_pfd {ci k : Nat} {st : List cb_V} {a : cb_A} {M : cb_M} {K : List cb_V → cb_M → Prop} (h : cb_pf tb ci k st a M K) : ∃ (v : cb_V) (t i : Nat) (r : List cb_V) (M' : cb_M), st = v :: cb_r t i :: r ∧ a.1 t i = true ∧ cb_kd tb t = 0 ∧ cb_x tb t = ci ∧ cb_st tb M t i k v = some M' ∧ K r M' := by
  unfold cb_pf at h
  split at h
  · obtain ⟨h1, h⟩ := h.to
    obtain ⟨h2, h⟩ := h.to
    obtain ⟨h3, h⟩ := h.to
    split at h
    · rename_i M' e
      exact ⟨_, _, _, _, M', rfl, h1, Nat.eq_of_beq_eq_true h2, Nat.eq_of_beq_eq_true h3, e, h⟩
    · exact h.elim
  · exact h.elim
def cb_ke : Nat → Nat
  | 3 => 5
  | 4 => 4
  | _ => 0
theorem cb_tb_el (ht : cb_tok tb = true) {t c : Nat} (hk : cb_kd tb t = c + 1) (hc : c + 1 ≤ 4) (j : Nat) : ∃ T, cb_fk tb t j = (cb_ke (c + 1), T) := by
  have hlt : t < tb.length := by
    rcases Nat.lt_or_ge t tb.length with h | h
    · exact h
    · exfalso
      have : ∀ (l : List cb_E) (n : Nat), l.length ≤ n → cb_nth l n (9, 0, []) = (9, 0, []) := by
        intro l
        induction l with
        | nil => intro n _; rfl
        | cons x l ih =>
          intro n hn
          cases n with
          | zero => simp at hn
          | succ n => exact ih n (by simpa using hn)
      unfold cb_kd at hk
      rw [this tb t h] at hk
      simp only [] at hk
      omega
  have hm := List.all_eq_true.mp ht _ (cb_nth_mem (d := (9, 0, [])) hlt)
  unfold cb_fk
  unfold cb_kd at hk
  generalize cb_nth tb t (9, 0, []) = e at hk hm ⊢
  obtain ⟨c0, c1, ks⟩ := e
  simp only [] at hk
  subst hk
  have key : ∀ z : Nat, ks.map (·.1) = [z] → ∃ T, cb_nth ks 0 (9, 0) = (z, T) := by
    intro z hz
    match ks, hz with
    | [(a, b)], hz =>
      simp only [List.map_cons, List.map_nil, List.cons.injEq, and_true] at hz
      subst hz
      exact ⟨b, rfl⟩
  match c, hm with
  | 0, hm => exact key 0 (of_decide_eq_true hm)
  | 1, hm => exact key 0 (of_decide_eq_true hm)
  | 2, hm => exact key 5 (of_decide_eq_true hm)
  | 3, hm => exact key 4 (of_decide_eq_true hm)
  | c + 4, hm => omega
theorem cb_st_bool {t i j T : Nat} {M : cb_M} {y : Int32} {M' : cb_M} (hT : cb_fk tb t j = (cb_ke 3, T)) (hs : cb_st tb M t i j (cb_nr 3 (cb_i y)) = some M') : y = 0 ∨ y = 1 := by
  unfold cb_st at hs
  rw [hT] at hs
  simp only [cb_ke, cb_nr] at hs
  split at hs
  · assumption
  · cases hs
/-- a call, whichever -/
theorem cb_calld (C : cb_Cx tb d X) (hjp : ∀ pc ls st a M k n, jp pc ls st a M k n → cb_Gd tb d X pc ls st a M k n) {ls : cb_Ls} {st : List cb_V} {a : cb_A} {M : cb_M} {k n pc ea : Nat} (hlt : ea < d.ga.length) {g : cb_Ga} (hg : cb_nth d.ga ea (9, 0, 0, 0, 0, fun _ _ _ _ => False) = g)
    (hd : decode d.cc pc = .ok (cb_iv g.1 g.2.1, 3))
    (h : cb_pop g.2.2.1 st [] fun As r => cb_ck (Nat.ble (k + g.2.2.2.1) d.mc) (cb_ck (Nat.ble (n + g.2.2.2.2.1) d.ms) (cb_ck (Nat.ble (cb_cat r) 8) (g.2.2.2.2.2 As a M (cb_ko (fun v a M => jp (pc + 3) ls (v ++ r) a M (k + g.2.2.2.1) (n + g.2.2.2.2.1)) (fun x a M => X.K (.inr x) a M))))))
    {H : Heap} {locs : List Loc} {lc : Array Slot} (hP : cb_P X.G tb a M H) (hS : X.fm H locs) (hL : cb_L X.G.ad lc d.nL ls) : X.go H locs k n (F0 X.m pc lc (cb_cs X.G.ad st)) := by
  obtain ⟨hx, hb, hml, hown, hK, hs0, hRe, hTh, hTs, hCS, hR⟩ := id C
  obtain ⟨As, r, rfl, h2, h⟩ := cb_pop.to h
  obtain ⟨c1, h⟩ := h.to
  obtain ⟨c2, h⟩ := h.to
  obtain ⟨c3, h⟩ := h.to
  have hm : g ∈ d.ga := by rw [← hg]; exact cb_nth_mem hlt
  have := hCS g hm a M (As.reverse ++ []) _ H locs k n pc lc r (by simp [h2]) h hP hS hL.1 (Nat.le_of_ble_eq_true c3) (Nat.le_of_ble_eq_true c1) (Nat.le_of_ble_eq_true c2) hd
    (fun v a' M' H' locs' hv hP' hS' => by
      cases v with
      | none => exact hjp _ _ _ _ _ _ _ hv C H' locs' lc hP' hS' hL
      | some v => exact hjp _ _ _ _ _ _ _ hv C H' locs' lc hP' hS' hL)
    (fun x a' M' H' locs' q ce hv hP' hS' e1 e2 e3 => hTh H' locs' a' M' _ _ pc lc _ x q ce hP' hS' hv (Nat.le_of_ble_eq_true c1) (Nat.le_of_ble_eq_true c2) e1 e2 e3)
  simpa using this
set_option maxHeartbeats 4000000 in
theorem cb_step (htb : cb_tok tb = true) {o : cb_O} (ho : o ∈ d.cd) (hv : cb_vE d o = true) (hjp : ∀ pc ls st a M k n, jp pc ls st a M k n → cb_Gd tb d X pc ls st a M k n) {ls : cb_Ls} {st : List cb_V} {a : cb_A} {M : cb_M} {k n : Nat} (h : cb_S tb d X.K o jp ls st a M k n) : cb_Gd tb d X o.1 ls st a M k n := by
  obtain ⟨pc, ins, len, cv, ea, eb, ed⟩ := o
  intro C H locs lc hP hS hL
  obtain ⟨hx, hb, hml, hown, hK, hs0, hRe, hTh, hTs, hCS, hR⟩ := id C
  have go : ∀ {pc ls st a M k n H locs lc}, jp pc ls st a M k n → cb_P X.G tb a M H → X.fm H locs → cb_L X.G.ad lc d.nL ls → X.go H locs k n (F0 X.m pc lc (cb_cs X.G.ad st)) := fun h h1 h2 h3 => hjp _ _ _ _ _ _ _ h C _ _ _ h1 h2 h3
  simp only [cb_vE, Bool.and_eq_true, decide_eq_true_eq] at hv
  obtain ⟨hd, hv⟩ := hv
  show X.go H locs k n (F0 X.m pc lc (cb_cs X.G.ad st))
  cases ins
  all_goals simp only [Bool.and_eq_true, decide_eq_true_eq] at hv
  all_goals dsimp only [cb_S] at h
  case iconst m => obtain ⟨rfl, e⟩ := hv; exact lv_iconst hx hb hd e (go h hP hS hL)
  case bipush m => obtain ⟨rfl, e⟩ := hv; exact lv_bipush hx hb hd e (go h hP hS hL)
  case sipush m => obtain ⟨rfl, e⟩ := hv; exact lv_sipush hx hb hd e (go h hP hS hL)
  case ldc m =>
    obtain ⟨rfl, e⟩ := hv
    match eb, h, e with
    | 0, h, e => exact lv_ldc hx hb hown (cb_w hK (of_decide_eq_true e) rfl X.args) hd (go h hP hS hL)
    | eb + 1, h, e =>
      obtain ⟨q, hq, e⟩ := List.any_eq_true.mp e
      simp only [Bool.and_eq_true, decide_eq_true_eq] at e
      obtain ⟨⟨e1, e2⟩, e3⟩ := e
      have hs := hK.2.2.2.2.2.1 q hq
      rw [e1, e2, e3] at hs
      intro T hT Y
      obtain ⟨vm', Y', st9⟩ : ∃ vm', Stand X.p X.l X.e X.R X.s X.m X.args X.below X.meth X.c (T.setVm vm') locs k n ∧ ∀ tg, Steps X.p.tables X.e X.below ((T.setVm vm').setTop (F0 X.m (pc + 2) lc (.ref (X.G.ad 91 ea) :: cb_cs X.G.ad st))) tg → Steps X.p.tables X.e X.below (T.setTop (F0 X.m pc lc (cb_cs X.G.ad st))) tg :=
        ⟨T.vm, Y, fun tg ht => Y.ldcString hx (own := d.own) (text := q.2.2.1) (index := m) (a := X.G.ad 91 ea) hown ((vk_R.warm (State.WarmedH.refl X.s) hs).1) ((vk_R.warm (State.WarmedH.refl X.s) hs).2) (g := F0 X.m pc lc (cb_cs X.G.ad st)) rfl (by rw [hb]; exact hd) tg ht⟩
      obtain ⟨t2, a1, b1⟩ := go h hP hS hL (T.setVm vm') hT Y'
      exact ⟨t2, st9 t2 a1, b1⟩
  case ldc_w m => obtain ⟨rfl, e⟩ := hv; exact lv_ldcw hx hb hown (cb_w hK e rfl X.args) hd (go h hP hS hL)
  case lconst m => subst hv; exact lv_lconst hx hb hd rfl (go h hP hS hL)
  case iload m =>
    obtain ⟨rfl, rfl⟩ := hv
    obtain ⟨v, h1, h⟩ := cb_get.to h
    match v, h1, h with
    | .inl x, h1, h => exact lv_iload hx hb hd (hL.2.2 _ _ h1) (go h hP hS hL)
  case iload_n m =>
    obtain ⟨rfl, rfl⟩ := hv
    obtain ⟨v, h1, h⟩ := cb_get.to h
    match v, h1, h with
    | .inl x, h1, h => exact lv_iload_n hx hb hd rfl (hL.2.2 _ _ h1) (go h hP hS hL)
  case lload m =>
    obtain ⟨rfl, rfl⟩ := hv
    obtain ⟨v, h1, h⟩ := cb_get.to h
    match v, h1, h with
    | .inr (.inl x), h1, h => exact lv_lload hx hb hd (hL.2.2 _ _ h1) (go h hP hS hL)
  case lload_n m =>
    obtain ⟨rfl, rfl⟩ := hv
    obtain ⟨v, h1, h⟩ := cb_get.to h
    match v, h1, h with
    | .inr (.inl x), h1, h => exact lv_lload_n hx hb hd rfl (hL.2.2 _ _ h1) (go h hP hS hL)
  case aload m =>
    obtain ⟨rfl, rfl⟩ := hv
    obtain ⟨v, h1, h⟩ := cb_get.to h
    match v, h1, h with
    | .inr (.inr none), h1, h => exact lv_aloadN hx hb hd (hL.2.2 _ _ h1) (go h hP hS hL)
    | .inr (.inr (some (t, i))), h1, h => exact lv_aload hx hb hd (hL.2.2 _ _ h1) (go h hP hS hL)
  case aload_n m =>
    obtain ⟨rfl, rfl⟩ := hv
    obtain ⟨v, h1, h⟩ := cb_get.to h
    match v, h1, h with
    | .inr (.inr none), h1, h => exact lv_aload_nN hx hb hd rfl (hL.2.2 _ _ h1) (go h hP hS hL)
    | .inr (.inr (some (t, i))), h1, h => exact lv_aload_n hx hb hd rfl (hL.2.2 _ _ h1) (go h hP hS hL)
  case istore m =>
    obtain ⟨rfl, rfl⟩ := hv
    match st, h with
    | .inl x :: r, h =>
      obtain ⟨c1, h⟩ := cb_ck.to h
      exact lv_istore hx hb hd hL.has (by simpa using c1) rfl (fun ls' h' => go h hP hS (cb_L.one (lc := lc) (v := cb_i x) rfl h'))
  case istore_n m =>
    obtain ⟨rfl, rfl⟩ := hv
    match st, h with
    | .inl x :: r, h =>
      obtain ⟨c1, h⟩ := cb_ck.to h
      exact lv_istore_n hx hb hd rfl hL.has (by simpa using c1) rfl (fun ls' h' => go h hP hS (cb_L.one (lc := lc) (v := cb_i x) rfl h'))
  case astore m =>
    obtain ⟨rfl, rfl⟩ := hv
    match st, h with
    | .inr (.inr none) :: r, h =>
      obtain ⟨c1, h⟩ := cb_ck.to h
      exact lv_astoreN hx hb hd hL.has (by simpa using c1) rfl (fun ls' h' => go h hP hS (cb_L.one (lc := lc) (v := cb_n) rfl h'))
    | .inr (.inr (some (t, i))) :: r, h =>
      obtain ⟨c1, h⟩ := cb_ck.to h
      exact lv_astore hx hb hd hL.has (by simpa using c1) rfl (fun ls' h' => go h hP hS (cb_L.one (lc := lc) (v := cb_r t i) rfl h'))
  case astore_n m =>
    obtain ⟨rfl, rfl⟩ := hv
    match st, h with
    | .inr (.inr none) :: r, h =>
      obtain ⟨c1, h⟩ := cb_ck.to h
      exact lv_astore_nN hx hb hd rfl hL.has (by simpa using c1) rfl (fun ls' h' => go h hP hS (cb_L.one (lc := lc) (v := cb_n) rfl h'))
    | .inr (.inr (some (t, i))) :: r, h =>
      obtain ⟨c1, h⟩ := cb_ck.to h
      exact lv_astore_n hx hb hd rfl hL.has (by simpa using c1) rfl (fun ls' h' => go h hP hS (cb_L.one (lc := lc) (v := cb_r t i) rfl h'))
  case lstore m =>
    obtain ⟨rfl, rfl⟩ := hv
    match st, h with
    | .inr (.inl x) :: r, h =>
      obtain ⟨c1, h⟩ := cb_ck.to h
      exact lv_lstore hx hb hd hL.has (by simpa using c1) rfl (fun ls' h' => go h hP hS (cb_L.two (lc := lc) (v := cb_l x) rfl h'))
  case lstore_n m =>
    obtain ⟨rfl, rfl⟩ := hv
    match st, h with
    | .inr (.inl x) :: r, h =>
      obtain ⟨c1, h⟩ := cb_ck.to h
      exact lv_lstore_n hx hb hd rfl hL.has (by simpa using c1) rfl (fun ls' h' => go h hP hS (cb_L.two (lc := lc) (v := cb_l x) rfl h'))
  case iinc m c =>
    obtain ⟨⟨rfl, rfl⟩, rfl⟩ := hv
    obtain ⟨v, h1, h⟩ := cb_get.to h
    match v, h1, h with
    | .inl x, h1, h =>
      obtain ⟨c1, h⟩ := cb_ck.to h
      obtain ⟨q, hq⟩ := List.getElem?_of_mem (cb_als_of X.G.ad ls 0 _ _ h1)
      exact lv_iinc hx hb hd hL.has (k := q) (by rw [hq]; simp [cb_c]) rfl (by simpa using c1) rfl (fun ls' h' => go h hP hS (cb_L.one (lc := lc) (v := cb_i _) rfl h'))
  case iadd => subst hv; obtain ⟨x, y, r, rfl, h⟩ := cb_b2d h; exact lv_iadd hx hb hd (go h hP hS hL)
  case isub => subst hv; obtain ⟨x, y, r, rfl, h⟩ := cb_b2d h; exact lv_isub hx hb hd (go h hP hS hL)
  case imul => subst hv; obtain ⟨x, y, r, rfl, h⟩ := cb_b2d h; exact lv_imul hx hb hd (go h hP hS hL)
  case iand => subst hv; obtain ⟨x, y, r, rfl, h⟩ := cb_b2d h; exact lv_iand hx hb hd (go h hP hS hL)
  case ior => subst hv; obtain ⟨x, y, r, rfl, h⟩ := cb_b2d h; exact lv_ior hx hb hd (go h hP hS hL)
  case ixor => subst hv; obtain ⟨x, y, r, rfl, h⟩ := cb_b2d h; exact lv_ixor hx hb hd (go h hP hS hL)
  case ishl => subst hv; obtain ⟨x, y, r, rfl, h⟩ := cb_b2d h; exact lv_ishl hx hb hd (go h hP hS hL)
  case ishr => subst hv; obtain ⟨x, y, r, rfl, h⟩ := cb_b2d h; exact lv_ishr hx hb hd (go h hP hS hL)
  case iushr => subst hv; obtain ⟨x, y, r, rfl, h⟩ := cb_b2d h; exact lv_iushr hx hb hd rfl (go h hP hS hL)
  case idiv => subst hv; obtain ⟨x, y, r, rfl, h0, h⟩ := cb_d2d h; exact lv_idiv hx hb hd h0 (go h hP hS hL)
  case irem => subst hv; obtain ⟨x, y, r, rfl, h0, h⟩ := cb_d2d h; exact lv_irem hx hb hd h0 (go h hP hS hL)
  case ineg => subst hv; obtain ⟨x, r, rfl, h⟩ := cb_b1d h; exact lv_ineg hx hb hd (go h hP hS hL)
  case i2b => subst hv; obtain ⟨x, r, rfl, h⟩ := cb_b1d h; exact lv_i2b hx hb hd rfl (go h hP hS hL)
  case i2l =>
    subst hv
    match st, h with
    | .inl x :: r, h => exact lv_i2l hx hb hd rfl (go h hP hS hL)
  case lshl =>
    subst hv
    match st, h with
    | .inl y :: .inr (.inl x) :: r, h => exact lv_lshl hx hb hd rfl (go h hP hS hL)
  case lor =>
    subst hv
    match st, h with
    | .inr (.inl y) :: .inr (.inl x) :: r, h => exact lv_lor hx hb hd (go h hP hS hL)
  case lcmp =>
    subst hv
    match st, h with
    | .inr (.inl y) :: .inr (.inl x) :: r, h => exact W.lcmp hx hb hd (go h hP hS hL)
  case dup =>
    subst hv
    match st, h with
    | .inl x :: r, h => exact lv_dup hx hb hd rfl (go h hP hS hL)
    | .inr (.inr none) :: r, h => exact lv_dup hx hb hd rfl (go h hP hS hL)
    | .inr (.inr (some (t, i))) :: r, h => exact lv_dup hx hb hd rfl (go h hP hS hL)
  case dup2 =>
    subst hv
    match st, h with
    | .inl x :: .inr (.inr none) :: r, h => exact lv_dup2_11 hx hb hd rfl rfl (go h hP hS hL)
    | .inl x :: .inr (.inr (some (t, i))) :: r, h => exact lv_dup2_11 hx hb hd rfl rfl (go h hP hS hL)
  case pop =>
    subst hv
    match st, h with
    | .inl x :: r, h => exact lv_pop hx hb hd rfl (go h hP hS hL)
    | .inr (.inr none) :: r, h => exact lv_pop hx hb hd rfl (go h hP hS hL)
    | .inr (.inr (some (t, i))) :: r, h => exact lv_pop hx hb hd rfl (go h hP hS hL)
  case iaload =>
    subst hv
    obtain ⟨x, t, i, r, rfl, ha, hk, hi, h⟩ := cb_ald h
    obtain ⟨c1, c2⟩ := cb_1arr C hP ha hk (by omega)
    exact W.iald hx hb c1 c2 (fun q => by cases q) (cb_1in hi) (cb_1rd hi) rfl rfl hd (go h hP hS hL)
  case laload =>
    subst hv
    obtain ⟨x, t, i, r, rfl, ha, hk, hi, h⟩ := cb_ald h
    obtain ⟨c1, c2⟩ := cb_1arr C hP ha hk (by omega)
    exact W.lald hx hb c1 c2 (fun q => by cases q) (cb_1in hi) (cb_1rd hi) rfl rfl hd (go h hP hS hL)
  case baload =>
    subst hv
    split at h
    · obtain ⟨x, t, i, r, rfl, ha, hk, hi, h⟩ := cb_ald h
      obtain ⟨c1, c2⟩ := cb_1arr C hP ha hk (by omega)
      exact W.bald hx hb c1 c2 (fun q => by cases q) (cb_1in hi) (cb_1rd hi) rfl rfl hd (go h hP hS hL)
    · obtain ⟨x, t, i, r, rfl, ha, hk, hi, h⟩ := cb_ald h
      obtain ⟨c1, c2⟩ := cb_1arr C hP ha hk (by omega)
      exact W.zald hx hb c1 c2 (fun q => by cases q) (cb_1in hi) (cb_1rd hi) rfl rfl hd (go h hP hS hL)
    · exact h.elim
  case aaload =>
    subst hv
    split at h
    · obtain ⟨x, t, i, r, rfl, ha, hk, hi, h⟩ := cb_ald h
      obtain ⟨c1, c2⟩ := cb_1arr C hP ha hk (by omega)
      exact W.aald hx hb c1 c2 rfl (fun q => by cases q) (cb_1in hi) (cb_1rd hi) rfl rfl hd (go h hP hS hL)
    · obtain ⟨x, t, i, r, rfl, ha, hk, hi, h⟩ := cb_ald h
      obtain ⟨c1, c2⟩ := cb_1arr C hP ha hk (by omega)
      exact W.aald hx hb c1 c2 rfl (fun q => by cases q) (cb_1in hi) (cb_1rd hi) rfl rfl hd (go h hP hS hL)
    · exact h.elim
  case iastore =>
    subst hv
    obtain ⟨v, x, t, i, r, M', rfl, ha, hk, hi, hs, h9⟩ := cb_asd h
    obtain ⟨c1, c2⟩ := cb_1arr C hP ha hk (by omega)
    obtain ⟨T, hT⟩ := cb_tb_el htb hk (by omega) x.toNatClampNeg
    match v, hs with
    | .inl y, hs =>
      refine W.iast hx hb c1 c2 (fun q => by cases q) (cb_1in hi) rfl rfl hd fun H' e1 e2 e3 => ?_
      obtain ⟨hP', hS'⟩ := cb_1st hP hS ha hk hs rfl e1 e2 e3
      exact go h9 hP' hS' hL
    | .inr (.inl y), hs => simp [cb_st, hT, cb_nr, cb_ke] at hs
    | .inr (.inr none), hs => simp [cb_st, hT, cb_nr, cb_ke] at hs
    | .inr (.inr (some y)), hs => simp [cb_st, hT, cb_nr, cb_ke] at hs
  case lastore =>
    subst hv
    obtain ⟨v, x, t, i, r, M', rfl, ha, hk, hi, hs, h9⟩ := cb_asd h
    obtain ⟨c1, c2⟩ := cb_1arr C hP ha hk (by omega)
    obtain ⟨T, hT⟩ := cb_tb_el htb hk (by omega) x.toNatClampNeg
    match v, hs with
    | .inr (.inl y), hs =>
      refine W.last hx hb c1 c2 (fun q => by cases q) (cb_1in hi) rfl rfl hd fun H' e1 e2 e3 => ?_
      obtain ⟨hP', hS'⟩ := cb_1st hP hS ha hk hs rfl e1 e2 e3
      exact go h9 hP' hS' hL
    | .inl y, hs => simp [cb_st, hT, cb_nr, cb_ke] at hs
    | .inr (.inr none), hs => simp [cb_st, hT, cb_nr, cb_ke] at hs
    | .inr (.inr (some y)), hs => simp [cb_st, hT, cb_nr, cb_ke] at hs
  case bastore =>
    subst hv
    split at h
    · obtain ⟨v, x, t, i, r, M', rfl, ha, hk, hi, hs, h9⟩ := cb_asd h
      obtain ⟨c1, c2⟩ := cb_1arr C hP ha hk (by omega)
      obtain ⟨T, hT⟩ := cb_tb_el htb hk (by omega) x.toNatClampNeg
      match v, hs with
      | .inl y, hs =>
        refine W.bast hx hb c1 c2 (fun q => by cases q) (cb_1in hi) rfl rfl hd fun H' e1 e2 e3 => ?_
        obtain ⟨hP', hS'⟩ := cb_1st hP hS ha hk hs rfl e1 e2 e3
        exact go h9 hP' hS' hL
      | .inr (.inl y), hs => simp [cb_st, hT, cb_nr, cb_ke] at hs
      | .inr (.inr none), hs => simp [cb_st, hT, cb_nr, cb_ke] at hs
      | .inr (.inr (some y)), hs => simp [cb_st, hT, cb_nr, cb_ke] at hs
    · obtain ⟨v, x, t, i, r, M', rfl, ha, hk, hi, hs, h9⟩ := cb_asd h
      obtain ⟨c1, c2⟩ := cb_1arr C hP ha hk (by omega)
      obtain ⟨T, hT⟩ := cb_tb_el htb hk (by omega) x.toNatClampNeg
      match v, hs with
      | .inl y, hs =>
        refine W.zast hx hb c1 c2 (fun q => by cases q) (cb_1in hi) rfl rfl hd fun H' e1 e2 e3 => ?_
        have hy : y = 0 ∨ y = 1 := cb_st_bool hT hs
        obtain ⟨hP', hS'⟩ := cb_1st hP hS ha hk hs (by rcases hy with rfl | rfl <;> rfl) e1 e2 e3
        exact go h9 hP' hS' hL
      | .inr (.inl y), hs => simp [cb_st, hT, cb_nr, cb_ke] at hs
      | .inr (.inr none), hs => simp [cb_st, hT, cb_nr, cb_ke] at hs
      | .inr (.inr (some y)), hs => simp [cb_st, hT, cb_nr, cb_ke] at hs
    · exact h.elim
  case arraylength =>
    subst hv
    match st, h with
    | .inr (.inr (some (t, i))) :: r, h =>
      obtain ⟨ha, h⟩ := cb_av.to h
      obtain ⟨k1, h⟩ := cb_ck.to h
      obtain ⟨k2, h⟩ := cb_ck.to h
      obtain ⟨c, hc⟩ : ∃ c, cb_kd tb t = c + 1 := ⟨cb_kd tb t - 1, by have : 0 < cb_kd tb t := by simpa using k1
                                                                      omega⟩
      obtain ⟨c1, c2⟩ := cb_1arr C hP ha hc (by rw [← hc]; exact Nat.le_of_ble_eq_true k2)
      exact W.alen hx hb c1 c2 (by rw [arrV_size]; rfl) rfl rfl hd (go h hP hS hL)
  case getfield m =>
    obtain ⟨rfl, e⟩ := hv
    obtain ⟨t, i, r, rfl, ha, hk, hci, h9⟩ := cb_gfd h
    subst hci
    split at e
    · rename_i C0 T N hq
      simp only [Bool.and_eq_true, decide_eq_true_eq] at e
      exact cb_1get C hP ha hk hq e.1 e.2 hd (go h9 hP hS hL)
    · cases e
  case putfield m =>
    obtain ⟨rfl, e⟩ := hv
    obtain ⟨v, t, i, r, M', rfl, ha, hk, hci, hs, h9⟩ := cb_pfd h
    subst hci
    split at e
    · rename_i C0 T N hq
      simp only [Bool.and_eq_true, decide_eq_true_eq] at e
      exact cb_1put htb C hP hS ha hk hq e.1.1 e.1.2 e.2 hs hd (fun H1 locs1 hP1 hS1 => go h9 hP1 hS1 hL)
    · cases e
  case if_icmp c off =>
    obtain ⟨rfl, e⟩ := hv
    obtain ⟨x, y, r, rfl, h1, h2⟩ := cb_c2d h
    cases c
    · exact lv_icmp_eq hx hb hd e (fun q => go (h1 q) hP hS hL) (fun q => go (h2 q) hP hS hL)
    · exact lv_icmp_ne hx hb hd e (fun q => go (h1 q) hP hS hL) (fun q => go (h2 fun z => z q) hP hS hL)
    · exact lv_icmp_lt hx hb hd e (fun q => go (h1 q) hP hS hL) (fun q => go (h2 q) hP hS hL)
    · exact lv_icmp_ge hx hb hd e (fun q => go (h1 q) hP hS hL) (fun q => go (h2 q) hP hS hL)
    · exact lv_icmp_gt hx hb hd e (fun q => go (h1 q) hP hS hL) (fun q => go (h2 q) hP hS hL)
    · exact lv_icmp_le hx hb hd e (fun q => go (h1 q) hP hS hL) (fun q => go (h2 q) hP hS hL)
  case ifCond c off =>
    obtain ⟨rfl, e⟩ := hv
    obtain ⟨x, r, rfl, h1, h2⟩ := cb_c1d h
    cases c
    · exact lv_if_eq hx hb hd e (fun q => go (h1 q) hP hS hL) (fun q => go (h2 q) hP hS hL)
    · exact lv_if_ne hx hb hd e (fun q => go (h1 q) hP hS hL) (fun q => go (h2 fun z => z q) hP hS hL)
    · exact lv_if_lt hx hb hd e (fun q => go (h1 q) hP hS hL) (fun q => go (h2 q) hP hS hL)
    · exact lv_if_ge hx hb hd e (fun q => go (h1 q) hP hS hL) (fun q => go (h2 q) hP hS hL)
    · exact lv_if_gt hx hb hd e (fun q => go (h1 q) hP hS hL) (fun q => go (h2 q) hP hS hL)
    · exact lv_if_le hx hb hd e (fun q => go (h1 q) hP hS hL) (fun q => go (h2 q) hP hS hL)
  case ifnull off =>
    obtain ⟨rfl, e⟩ := hv
    match st, h with
    | .inr (.inr none) :: r, h => exact lv_ifnullN hx hb hd e (go h hP hS hL)
    | .inr (.inr (some (t, i))) :: r, h => exact lv_ifnull hx hb hd (go h hP hS hL)
  case ifnonnull off =>
    obtain ⟨rfl, e⟩ := hv
    match st, h with
    | .inr (.inr none) :: r, h => exact lv_ifnonnullN hx hb hd (go h hP hS hL)
    | .inr (.inr (some (t, i))) :: r, h => exact lv_ifnonnull hx hb hd e (go h hP hS hL)
  case goto off => obtain ⟨rfl, e⟩ := hv; exact lv_goto hx hb hd e (go h hP hS hL)
  case tableswitch df lo hi offs =>
    obtain ⟨⟨e1, e2⟩, e3⟩ := hv
    match st, h with
    | .inl x :: r, h =>
      rcases cb_sw_in e3 h with ⟨j, o, t, h1, h2, h3, h4⟩ | ⟨h1, h2⟩
      · have hj : j < offs.size := by
          have := (List.getElem?_eq_some_iff.mp h2).1
          simpa using this
        exact lv_tableIn hx hb hd (by omega) (by omega) (off := o) (by rw [h1, show (lo + (j : Int) - lo).toNat = j by omega, ← Array.getElem?_toList]; exact h2) h3 (go h4 hP hS hL)
      · exact lv_tableOut hx hb hd (by simp only [Array.length_toList] at h1; omega) e1 (go h2 hP hS hL)
  case lookupswitch df ps =>
    obtain ⟨⟨e1, e2⟩, e3⟩ := hv
    match st, h with
    | .inl x :: r, h =>
      obtain ⟨o, t, h1, h2, h3⟩ := cb_sw_look e1 e3 h
      exact lv_lookup hx hb hd e2 h1 h2 (go h3 hP hS hL)
  case ireturn =>
    subst hv
    match st, h with
    | [.inl x], h =>
      obtain ⟨h1, h⟩ := h
      obtain ⟨c1, h⟩ := cb_ck.to h
      obtain ⟨c2, h⟩ := cb_ck.to h
      exact hRe H locs a M k n pc lc (some (cb_i x)) hP hS h (Nat.le_of_ble_eq_true c1) (Nat.le_of_ble_eq_true c2) ⟨h1, hd⟩
  case lreturn =>
    subst hv
    match st, h with
    | [.inr (.inl x)], h =>
      obtain ⟨h1, h⟩ := h
      obtain ⟨c1, h⟩ := cb_ck.to h
      obtain ⟨c2, h⟩ := cb_ck.to h
      exact hRe H locs a M k n pc lc (some (cb_l x)) hP hS h (Nat.le_of_ble_eq_true c1) (Nat.le_of_ble_eq_true c2) ⟨h1, hd⟩
  case areturn =>
    subst hv
    match st, h with
    | [.inr (.inr x)], h =>
      obtain ⟨h1, h⟩ := h
      obtain ⟨c1, h⟩ := cb_ck.to h
      obtain ⟨c2, h⟩ := cb_ck.to h
      exact hRe H locs a M k n pc lc (some (.inr (.inr x))) hP hS h (Nat.le_of_ble_eq_true c1) (Nat.le_of_ble_eq_true c2) ⟨h1, hd⟩
  case return_ =>
    subst hv
    match st, h with
    | [], h =>
      obtain ⟨h1, h⟩ := h
      obtain ⟨c1, h⟩ := cb_ck.to h
      obtain ⟨c2, h⟩ := cb_ck.to h
      exact hRe H locs a M k n pc lc none hP hS h (Nat.le_of_ble_eq_true c1) (Nat.le_of_ble_eq_true c2) ⟨h1, hd⟩
  case new m =>
    obtain ⟨⟨⟨⟨⟨⟨rfl, rfl⟩, rfl⟩, e4⟩, e5⟩, e6⟩, e7⟩ := hv
    obtain ⟨-, h⟩ := cb_ck.to h
    obtain ⟨c1, h⟩ := cb_ck.to h
    obtain ⟨c2, h⟩ := cb_ck.to h
    obtain ⟨c3, h⟩ := cb_ck.to h
    split at e6
    · rename_i is hi
      split at e7
      · rename_i ic hc
        exact hTs H locs a M k n pc lc st ea eb m is ic hP hS hL.1 h (Nat.le_of_ble_eq_true c1) (Nat.le_of_ble_eq_true c2) (Nat.le_of_ble_eq_true c3) ho hd e4 hi hc e5
      · cases e7
    · cases e6
  case invokevirtual m =>
    obtain ⟨⟨rfl, e2⟩, e3, e4⟩ := hv
    exact cb_calld C hjp e2 rfl (by rw [e3, e4]; exact hd) h hP hS hL
  case invokestatic m =>
    obtain ⟨⟨rfl, e2⟩, e3, e4⟩ := hv
    exact cb_calld C hjp e2 rfl (by rw [e3, e4]; exact hd) h hP hS hL
  case invokespecial m =>
    obtain ⟨⟨rfl, e2⟩, e3, e4⟩ := hv
    exact cb_calld C hjp e2 rfl (by rw [e3, e4]; exact hd) h hP hS hL
  all_goals exact h.elim
end STP
