/-! ===== an entry of the code tables is what it says ===== -/
def cb_swL (pc : Nat) : Int → List Int → List (Int32 × Nat) → Bool
  | _, [], [] => true
  | lo, o :: os, (v, t) :: r => decide (v.toInt = lo) && decide ((pc : Int) + o = (t : Int)) && cb_swL pc (lo + 1) os r
  | _, _, _ => false
def cb_swP (pc : Nat) : List (Int × Int) → List (Int32 × Nat) → Bool
  | [], [] => true
  | (x, o) :: os, (v, t) :: r => decide (v.toInt = x) && decide ((pc : Int) + o = (t : Int)) && cb_swP pc os r
  | _, _ => false
def cb_vE (d : cb_D) (o : cb_O) : Bool := decide (decode d.cc o.1 = .ok (o.2.1, o.2.2.1)) && match o with
  | (pc, ins, len, cv, ea, eb, ed) => match ins with
    | .iconst n => decide (len = 1) && decide (Int32.ofInt n = cv)
    | .bipush n => decide (len = 2) && decide ((Int8.ofInt n).toInt32 = cv)
    | .sipush n => decide (len = 3) && decide ((Int16.ofInt n).toInt32 = cv)
    | .ldc i => decide (len = 2) && (match eb with
      | 0 => decide (tables_1[ed]? = some (.constant d.own i cv))
      | _ => cb_str.any fun q => decide (q.1 = d.own) && decide (q.2.1 = i) && decide (q.2.2.2 = ea))
    | .ldc_w i => decide (len = 3) && decide (tables_1[ed]? = some (.constant d.own i cv))
    | .iload i => decide (len = 2) && decide (ea = i)
    | .aload i => decide (len = 2) && decide (ea = i)
    | .lload i => decide (len = 2) && decide (ea = i)
    | .istore i => decide (len = 2) && decide (ea = i)
    | .astore i => decide (len = 2) && decide (ea = i)
    | .lstore i => decide (len = 2) && decide (ea = i)
    | .iload_n i => decide (len = 1) && decide (ea = i.val)
    | .aload_n i => decide (len = 1) && decide (ea = i.val)
    | .lload_n i => decide (len = 1) && decide (ea = i.val)
    | .istore_n i => decide (len = 1) && decide (ea = i.val)
    | .astore_n i => decide (len = 1) && decide (ea = i.val)
    | .lstore_n i => decide (len = 1) && decide (ea = i.val)
    | .iinc i n => decide (len = 3) && decide (ea = i) && decide (cv = Int32.ofInt n)
    | .getfield i => decide (len = 3) && (match cb_cl[ea]? with
      | some (_, T, N) => decide (eb < N) && decide (tables_1[ed]? = some (.fieldLink d.own i (T eb).1 (T eb).2.1 (T eb).2.2.1))
      | none => false)
    | .putfield i => decide (len = 3) && (match cb_cl[ea]? with
      | some (_, T, N) => decide (eb < N) && decide (tables_1[ed]? = some (.fieldLink d.own i (T eb).1 (T eb).2.1 (T eb).2.2.1)) && decide ((T eb).2.2.2 = false)
      | none => false)
    | .if_icmp _ off => decide (len = 3) && decide ((pc : Int) + off = (ea : Int))
    | .ifCond _ off => decide (len = 3) && decide ((pc : Int) + off = (ea : Int))
    | .ifnull off => decide (len = 3) && decide ((pc : Int) + off = (ea : Int))
    | .ifnonnull off => decide (len = 3) && decide ((pc : Int) + off = (ea : Int))
    | .goto off => decide (len = 3) && decide ((pc : Int) + off = (ea : Int))
    | .tableswitch df lo hi offs => (match cb_nth d.sw ea (0, [], 0) with | (_, cs, t) => decide ((pc : Int) + df = (t : Int)) && decide (lo + offs.size = hi + 1) && cb_swL pc lo offs.toList cs)
    | .lookupswitch df ps => (match cb_nth d.sw ea (0, [], 0) with | (_, cs, t) => decide ((pc : Int) + df = (t : Int)) && (ps.toList.zip (ps.toList.drop 1)).all (fun (a, next) => a.1 < next.1) && cb_swP pc ps.toList cs)
    | .invokevirtual i => decide (len = 3) && decide (ea < d.ga.length) && (match cb_nth d.ga ea (9, 0, 0, 0, 0, fun _ _ _ _ => False) with | (k, i', _) => decide (k = 0) && decide (i' = i))
    | .invokestatic i => decide (len = 3) && decide (ea < d.ga.length) && (match cb_nth d.ga ea (9, 0, 0, 0, 0, fun _ _ _ _ => False) with | (k, i', _) => decide (k = 1) && decide (i' = i))
    | .invokespecial i => decide (len = 3) && decide (ea < d.ga.length) && (match cb_nth d.ga ea (9, 0, 0, 0, 0, fun _ _ _ _ => False) with | (k, i', _) => decide (k = 2) && decide (i' = i))
    | .new _ => decide (len = 3) && decide (cv = 7) && decide (ed = 0) && decide (decode d.cc (pc + 3) = .ok (.dup, 1)) && decide (decode d.cc (pc + 10) = .ok (.athrow, 1)) && (match decode d.cc (pc + 4) with
      | .ok (.ldc_w _, 3) => true
      | _ => false) && (match decode d.cc (pc + 7) with
      | .ok (.invokespecial _, 3) => true
      | _ => false)
    | _ => decide (len = 1)
/-- the table's slots are of the fields' kinds -/
def cb_tf (ty : FieldType) (k : Nat) : Bool := match ty with
  | .int => Nat.beq k 0
  | .boolean => Nat.beq k 5
  | .long => Nat.beq k 4
  | .object _ => Nat.beq k 1 || Nat.beq k 2
  | .array _ => Nat.beq k 1 || Nat.beq k 2
  | _ => false
/-- fields of a class: their types, their words -/
abbrev cb_ty : List (Nat → FieldType) := [tyX0, tyX1, tyX2, tyX3, tyX4, tyX5, tyX6, tyX7, tyX8, tyX9, tyX10]
def cb_tok (tb : List cb_E) : Bool := tb.all fun e => match e with
  | (0, c, ks) => (match cb_cl[c]? with
    | some (_, _, N) => decide (ks.length = N) && (List.range N).all fun k => cb_tf ((cb_ty.getD c (fun _ => .double)) k) (cb_nth ks k (9, 0)).1
    | none => false)
  | (1, _, ks) => decide (ks.map (·.1) = [0])
  | (2, _, ks) => decide (ks.map (·.1) = [0])
  | (3, _, ks) => decide (ks.map (·.1) = [5])
  | (4, _, ks) => decide (ks.map (·.1) = [4])
  | (5, _, ks) => decide (ks.map (·.1) = [1])
  | (6, _, ks) => decide (ks.map (·.1) = [1]) || decide (ks.map (·.1) = [3])
  | _ => false
theorem cb_w {G : cb_G} {U : State} (h : cb_K G U) {i : Nat} {w : Cond} (hi : tables_1[i]? = some w) (hg : goodWord w = true) (a : Array Value) : w.before a U = true := h.1 w (by unfold lw_tbl; exact List.mem_append_right _ (List.mem_of_getElem? hi)) hg a
/-- what the tables say of the classes' fields -/
def cb_clsOk (c : Nat) (q : vw_C) : Prop := (∀ w ∈ u_ws q.1 q.2.1 q.2.2, w ∈ lw_tbl ∧ goodWord w = true) ∧ (∀ k, k < q.2.2 → parseFieldDescriptor (q.2.1 k).2.2.1 = some ((cb_ty.getD c (fun _ => .double)) k)) ∧ (∀ a, a < q.2.2 → ∀ b, b < q.2.2 → a ≠ b → (q.2.1 a).2.1 ≠ (q.2.1 b).2.1)
theorem cb_cok0 : cb_clsOk 0 (RX0, TX0, 2) := ⟨by decide +kernel, tyX0_ok, nmX0⟩
theorem cb_cok1 : cb_clsOk 1 (RX1, TX1, 4) := ⟨by decide +kernel, tyX1_ok, nmX1⟩
theorem cb_cok2 : cb_clsOk 2 (RX2, TX2, 2) := ⟨by decide +kernel, tyX2_ok, nmX2⟩
theorem cb_cok3 : cb_clsOk 3 (RX3, TX3, 8) := ⟨by decide +kernel, tyX3_ok, nmX3⟩
theorem cb_cok4 : cb_clsOk 4 (RX4, TX4, 17) := ⟨by decide +kernel, tyX4_ok, nmX4⟩
theorem cb_cok5 : cb_clsOk 5 (RX5, TX5, 1) := ⟨by decide +kernel, tyX5_ok, nmX5⟩
theorem cb_cok6 : cb_clsOk 6 (RX6, TX6, 6) := ⟨by decide +kernel, tyX6_ok, nmX6⟩
theorem cb_cok7 : cb_clsOk 7 (RX7, TX7, 18) := ⟨by decide +kernel, tyX7_ok, nmX7⟩
theorem cb_cok8 : cb_clsOk 8 (RX8, TX8, 1) := ⟨by decide +kernel, tyX8_ok, nmX8⟩
theorem cb_cok9 : cb_clsOk 9 (RX9, TX9, 15) := ⟨by decide +kernel, tyX9_ok, nmX9⟩
theorem cb_cok10 : cb_clsOk 10 (RX10, TX10, 54) := ⟨by decide +kernel, tyX10_ok, nmX10⟩
theorem cb_cok : ∀ {c : Nat} {q : vw_C}, cb_cl[c]? = some q → cb_clsOk c q
  | 0, q, h => by cases h; exact cb_cok0
  | 1, q, h => by cases h; exact cb_cok1
  | 2, q, h => by cases h; exact cb_cok2
  | 3, q, h => by cases h; exact cb_cok3
  | 4, q, h => by cases h; exact cb_cok4
  | 5, q, h => by cases h; exact cb_cok5
  | 6, q, h => by cases h; exact cb_cok6
  | 7, q, h => by cases h; exact cb_cok7
  | 8, q, h => by cases h; exact cb_cok8
  | 9, q, h => by cases h; exact cb_cok9
  | 10, q, h => by cases h; exact cb_cok10
  | c + 11, q, h => by simp [cb_cl] at h
theorem cb_hts {G : cb_G} {U : State} (h : cb_K G U) {c : Nat} {q : vw_C} (hc : cb_cl[c]? = some q) (a : Array Value) : ∀ w ∈ u_ws q.1 q.2.1 q.2.2, w.before a U = true := fun w hw => h.1 w ((cb_cok hc).1 w hw).1 ((cb_cok hc).1 w hw).2 a
theorem cb_apart {G : cb_G} {U : State} (h : cb_K G U) {c : Nat} {q : vw_C} (hc : cb_cl[c]? = some q) : ∀ x y, x < q.2.2 → y < q.2.2 → x ≠ y → G.dI c x ≠ G.dI c y := by
  intro x y hx hy hne
  obtain ⟨hS, -⟩ := h.2.2.1 c q hc
  obtain ⟨_, _, _, fa, hia, ea⟩ := hS x hx
  obtain ⟨_, _, _, fb, hib, eb⟩ := hS y hy
  rw [← ea, ← eb]
  have hts := cb_hts h hc #[]
  refine u_apart (u_lays hts (fun _ h => h) hx) (u_lays hts (fun _ h => h) hy) hia hib ?_
  rw [(State.fieldFound?_type hia ((cb_cok hc).2.1 x hx)).1, (State.fieldFound?_type hib ((cb_cok hc).2.1 y hy)).1]
  exact (cb_cok hc).2.2 x hx y hy hne
theorem cb_sw_in {x : Int32} {pc : Nat} {J : Nat → Prop} {df : Nat} : ∀ {os : List Int} {cs : List (Int32 × Nat)} {lo : Int}, cb_swL pc lo os cs = true → cb_sw x cs df J →
    (∃ (j : Nat) (o : Int) (t : Nat), x.toInt = lo + j ∧ os[j]? = some o ∧ (pc : Int) + o = (t : Int) ∧ J t) ∨ ((x.toInt < lo ∨ lo + os.length ≤ x.toInt) ∧ J df)
  | [], [], lo, _, h => Or.inr ⟨by simp; omega, h⟩
  | [], _ :: _, lo, h1, _ => by simp [cb_swL] at h1
  | _ :: _, [], lo, h1, _ => by simp [cb_swL] at h1
  | o :: os, (v, t) :: r, lo, h1, h => by
    simp only [cb_swL, Bool.and_eq_true, decide_eq_true_eq] at h1
    obtain ⟨⟨e1, e2⟩, e3⟩ := h1
    by_cases hx : x = v
    · exact Or.inl ⟨0, o, t, by subst hx; omega, rfl, e2, h.1 hx⟩
    · have hne : ¬ x.toInt = lo := fun q => hx (Int32.toInt_inj.mp (by rw [e1]; exact q))
      rcases cb_sw_in e3 (h.2 hx) with ⟨j, o', t', h2, h3, h4, h5⟩ | ⟨h2, h3⟩
      · exact Or.inl ⟨j + 1, o', t', by omega, h3, h4, h5⟩
      · refine Or.inr ⟨?_, h3⟩
        simp only [List.length_cons]
        omega
theorem cb_sw_look {x : Int32} {pc : Nat} {J : Nat → Prop} {df : Nat} {dfo : Int} (hd : (pc : Int) + dfo = (df : Int)) : ∀ {os : List (Int × Int)} {cs : List (Int32 × Nat)}, cb_swP pc os cs = true → cb_sw x cs df J → ∃ (o : Int) (t : Nat), Op.lookupswitch.offset os dfo x.toInt = o ∧ (pc : Int) + o = (t : Int) ∧ J t
  | [], [], _, h => ⟨dfo, df, rfl, hd, h⟩
  | [], _ :: _, h1, _ => by simp [cb_swP] at h1
  | _ :: _, [], h1, _ => by simp [cb_swP] at h1
  | (a, o) :: os, (v, t) :: r, h1, h => by
    simp only [cb_swP, Bool.and_eq_true, decide_eq_true_eq] at h1
    obtain ⟨⟨e1, e2⟩, e3⟩ := h1
    by_cases hx : x = v
    · refine ⟨o, t, ?_, e2, h.1 hx⟩
      subst hx
      simp [Op.lookupswitch.offset, e1]
    · obtain ⟨o', t', h2, h3, h4⟩ := cb_sw_look hd e3 (h.2 hx)
      exact ⟨o', t', by rw [lv_osw hx e1]; exact h2, h3, h4⟩
