/-! ===== a method as a whole: its contract out of its code ===== -/
theorem cb_fet_to : ∀ {cd : List cb_O} {pc : Nat} {o : cb_O}, cb_fet cd pc = some o → o ∈ cd ∧ o.1 = pc
  | [], pc, o, h => by cases h
  | q :: r, pc, o, h => by
    unfold cb_fet at h
    split at h
    · rename_i e
      cases h
      exact ⟨List.mem_cons_self, Nat.eq_of_beq_eq_true e⟩
    · obtain ⟨h1, h2⟩ := cb_fet_to h
      exact ⟨List.mem_cons_of_mem _ h1, h2⟩
/-- what a stretch asks is enough -/
theorem cb_run {tb : List cb_E} {d : cb_D} {X : cb_X} (htb : cb_tok tb = true) (hv : d.cd.all (cb_vE d) = true) {cuts : List Nat} : ∀ (f : Nat) {pc : Nat} {ls : cb_Ls} {st : List cb_V} {a : cb_A} {M : cb_M} {k n : Nat}, cb_wp tb d X cuts f pc ls st a M k n → cb_Gd tb d X pc ls st a M k n
  | 0, _, _, _, _, _, _, _, h => h
  | f + 1, pc, ls, st, a, M, k, n, h => by
    unfold cb_wp at h
    cases e : cb_fet d.cd pc with
    | none => rw [e] at h; exact h.elim
    | some o =>
      rw [e] at h
      obtain ⟨h1, h2⟩ := cb_fet_to e
      subst h2
      refine cb_step htb h1 (List.all_eq_true.mp hv o h1) (fun pc' ls st a M k n hh => ?_) h
      cases e9 : cb_mem pc' cuts with
      | true => rw [e9] at hh; exact hh
      | false => rw [e9] at hh; exact cb_run htb hv f hh
/-- what is known where a method begins, and where it ends -/
def cb_WS (tb : List cb_E) (G : cb_G) (a : cb_A) (M : cb_M) (U : State) : Prop := G.1 ≤ U.heap.size ∧ cb_K G U ∧ cb_P G tb a M U.heap
def cb_Qc (tb : List cb_E) (G : cb_G) (K : cb_Out → cb_A → cb_M → Prop) : Array Value → State → Outcome → State → Prop := fun _ st o t => (∃ (v : Option cb_V) (a : cb_A) (M : cb_M), o = .returned (v.map (cb_c G.ad)) ∧ K (.inl v) a M ∧ cb_P G tb a M t.heap) ∧ va_F G.A st t
def cb_XC (tb : List cb_E) (G : cb_G) (K : cb_Out → cb_A → cb_M → Prop) : String → State → State → Prop := fun E st t => (∃ (x : Nat) (a : cb_A) (M : cb_M), E = cb_xn x ∧ K (.inr x) a M ∧ cb_P G tb a M t.heap) ∧ va_F G.A st t
abbrev cb_rm (d : cb_D) : Room := { frames := d.fr, cells := d.mc, slots := d.ms, locals := d.lo }
/-- the contract of a method: what it asks (PT) is enough -/
def cb_MOK (tb : List cb_E) (y : MethodName) (d : cb_D) (PT : cb_PT) : Prop := ∀ (l : Launch), l.stackTraces = false → ∀ (G : cb_G) (a : cb_A) (M : cb_M) (As : List cb_V) (K : cb_Out → cb_A → cb_M → Prop), PT As a M K →
  vx_Met l y [.code y d.cc d.nL d.ret] (cb_rm d) (va_Pc (As.map (cb_c G.ad)) (cb_WS tb G a M)) (cb_Qc tb G K) (cb_XC tb G K) d.mc d.ms G.A
theorem cb_args : ∀ (As : List cb_V) (ad : Nat → Nat → Nat) (n i : Nat) (v : cb_V), (As.flatMap fun v => if cb_lg v then [some v, none] else [some v])[i]? = some (some v) → (n + i, cb_c ad v) ∈ lv_args n (As.map (cb_c ad))
  | [], ad, n, i, v, h => by simp at h
  | w :: As, ad, n, i, v, h => by
    rw [List.map_cons, lv_args, cb_lg_cat]
    rw [List.flatMap_cons] at h
    cases hw : cb_lg w with
    | true =>
      simp only [hw, if_true] at h ⊢
      match i, h with
      | 0, h =>
        simp at h
        subst h
        exact List.mem_cons_self
      | 1, h => simp at h
      | i + 2, h =>
        have := cb_args As ad (n + 2) i v (by simpa using h)
        rw [show n + 2 + i = n + (i + 2) by omega] at this
        exact List.mem_cons_of_mem _ this
    | false =>
      simp only [hw, Bool.false_eq_true, if_false] at h ⊢
      match i, h with
      | 0, h =>
        simp at h
        subst h
        exact List.mem_cons_self
      | i + 1, h =>
        have := cb_args As ad (n + 1) i v (by simpa using h)
        rw [show n + 1 + i = n + (i + 1) by omega] at this
        exact List.mem_cons_of_mem _ (by simpa using this)
/-- the locals at the start -/
def cb_l0 (As : List cb_V) (nL : Nat) : cb_Ls := (As.flatMap fun v => if cb_lg v then [some v, none] else [some v]) ++ List.replicate (nL - (As.flatMap fun v => if cb_lg v then [some v, none] else [some v]).length) none
theorem cb_l0_L (As : List cb_V) (ad : Nat → Nat → Nat) (nL : Nat) {lc : Array Slot} (h : lv_has lc nL (lv_args 0 (As.map (cb_c ad)))) : cb_L ad lc nL (cb_l0 As nL) := by
  refine ⟨h.1, h.2.1, fun i v hi => ?_⟩
  unfold cb_l0 at hi
  generalize hL : (As.flatMap fun v => if cb_lg v then [some v, none] else [some v]) = L at hi
  by_cases hlt : i < L.length
  · rw [List.getElem?_append_left hlt, ← hL] at hi
    have := cb_args As ad 0 i v hi
    rw [Nat.zero_add] at this
    exact h.2.2 _ this
  · rw [List.getElem?_append_right (by omega), List.getElem?_replicate] at hi
    split at hi
    · cases hi
    · cases hi
theorem cb_len0 (ad : Nat → Nat → Nat) : ∀ As : List cb_V, (lg_sl (As.map (cb_c ad))).length = (As.flatMap fun v => if cb_lg v then [some v, none] else [some v]).length
  | [] => rfl
  | w :: As => by
    have := cb_len0 ad As
    simp only [List.map_cons, lg_sl, List.flatMap_cons, List.length_append] at this ⊢
    rw [this, cb_lg_cat]
    cases cb_lg w <;> simp
/-- nobody throws here -/
def cb_noT (d : cb_D) : Bool := d.cd.all fun o => match o.2.1 with
  | .new _ => false
  | _ => true
theorem cb_Ts0 {tb : List cb_E} {d : cb_D} {X : cb_X} (h : cb_noT d = true) : cb_Ts tb d X := by
  intro H locs a M k n pc lc st x j ik is ic _ _ _ _ _ _ _ hm
  have := List.all_eq_true.mp h _ hm
  simp at this
