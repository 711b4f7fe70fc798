/-! ===== what a piece of code asks: straight on from a place, up to the places where it's cut ===== -/
/-- an instruction: its place, itself, its length; a constant; three numbers: local, target, field, call -/
abbrev cb_O : Type := Nat × Instr × Nat × Int32 × Nat × Nat × Nat
/-- an end: a value, or a throw by its number -/
abbrev cb_Out : Type := Option cb_V ⊕ Nat
abbrev cb_PT : Type := List cb_V → cb_A → cb_M → (cb_Out → cb_A → cb_M → Prop) → Prop
/-- a call: 0 virtual, 1 static, 2 special; its entry of the pool; how many values it takes; its new cells and slots; what it asks -/
abbrev cb_Ga : Type := Nat × Nat × Nat × Nat × Nat × cb_PT
abbrev cb_Ls : Type := List (Option cb_V)
abbrev cb_Nx : Type := cb_Ls → List cb_V → cb_A → cb_M → Nat → Nat → Prop
def cb_ck (b : Bool) (P : Prop) : Prop := match b with
  | true => P
  | false => False
theorem cb_ck.of {b : Bool} {P : Prop} (h : b = true) (p : P) : cb_ck b P := by
  subst h
  exact p
theorem cb_ck.to {b : Bool} {P : Prop} (h : cb_ck b P) : b = true ∧ P := by
  cases b
  · exact h.elim
  · exact ⟨rfl, h⟩
/-- as cb_ck, of a thing that must be there -/
def cb_av (b : Bool) (P : Prop) : Prop := match b with
  | true => P
  | false => False
theorem cb_av.of {b : Bool} {P : Prop} (h : b = true) (p : P) : cb_av b P := by
  subst h
  exact p
theorem cb_av.to {b : Bool} {P : Prop} (h : cb_av b P) : b = true ∧ P := by
  cases b
  · exact h.elim
  · exact ⟨rfl, h⟩
def cb_get : cb_Ls → Nat → (cb_V → Prop) → Prop
  | some v :: _, 0, K => K v
  | _ :: l, n + 1, K => cb_get l n K
  | _, _, _ => False
def cb_kil (v : Option cb_V) : Option cb_V := match v with
  | some (.inr (.inl _)) => none
  | v => v
def cb_pu0 (v : cb_V) (l : cb_Ls) : cb_Ls := match v, l with
  | .inr (.inl _), _ :: l' => some v :: none :: l'
  | _, l => some v :: l
def cb_put : cb_Ls → Nat → cb_V → cb_Ls
  | [], _, _ => []
  | _ :: l, 0, v => cb_pu0 v l
  | a :: l, 1, v => cb_kil a :: cb_put l 0 v
  | a :: l, n + 2, v => a :: cb_put l (n + 1) v
def cb_pop : Nat → List cb_V → List cb_V → (List cb_V → List cb_V → Prop) → Prop
  | 0, st, acc, K => K acc st
  | n + 1, v :: st, acc, K => cb_pop n st (v :: acc) K
  | _ + 1, [], _, _ => False
def cb_cat : List cb_V → Nat
  | [] => 0
  | .inr (.inl _) :: l => cb_cat l + 2
  | _ :: l => cb_cat l + 1
def cb_ko (K : List cb_V → cb_A → cb_M → Prop) (T : Nat → cb_A → cb_M → Prop) : cb_Out → cb_A → cb_M → Prop := fun o a M => match o with
  | .inl none => K [] a M
  | .inl (some v) => K [v] a M
  | .inr x => T x a M
def cb_b2 (st : List cb_V) (f : Int32 → Int32 → Int32) (K : List cb_V → Prop) : Prop := match st with
  | .inl y :: .inl x :: r => K (cb_i (f x y) :: r)
  | _ => False
def cb_b1 (st : List cb_V) (f : Int32 → Int32) (K : List cb_V → Prop) : Prop := match st with
  | .inl x :: r => K (cb_i (f x) :: r)
  | _ => False
def cb_d2 (st : List cb_V) (f : Int32 → Int32 → Int32) (K : List cb_V → Prop) : Prop := match st with
  | .inl y :: .inl x :: r => ¬ y = 0 ∧ K (cb_i (f x y) :: r)
  | _ => False
def cb_c2 (st : List cb_V) (c : Int32 → Int32 → Prop) (Y N : List cb_V → Prop) : Prop := match st with
  | .inl y :: .inl x :: r => (c x y → Y r) ∧ (¬ c x y → N r)
  | _ => False
def cb_c1 (st : List cb_V) (c : Int32 → Prop) (Y N : List cb_V → Prop) : Prop := match st with
  | .inl x :: r => (c x → Y r) ∧ (¬ c x → N r)
  | _ => False
def cb_cc (c : Jvm.ClassFile.Cond) (x y : Int32) : Prop := match c with
  | .eq => x = y
  | .ne => ¬ x = y
  | .lt => x < y
  | .ge => y ≤ x
  | .gt => y < x
  | .le => x ≤ y
def cb_rem (x y : Int32) : Int32 := x - x / y * y
def cb_ush (x y : Int32) : Int32 := (x.toUInt32 >>> (y.toUInt32 &&& Int32.toUInt32 31)).toInt32
def cb_sw (x : Int32) : List (Int32 × Nat) → Nat → (Nat → Prop) → Prop
  | [], d, J => J d
  | (v, t) :: r, d, J => (x = v → J t) ∧ (¬ x = v → cb_sw x r d J)
/-- what stands at a place, laid on the stack; a reference that may be null must be known -/
def cb_pv (tb : List cb_E) (M : cb_M) (t i j : Nat) (K : cb_V → Prop) : Prop := match cb_fk tb t j with
  | (0, _) => K (cb_i (cb_gI M t i j))
  | (1, T) => ∃ o : Option Nat, cb_gR M t i j = o ∧ (match o with
    | none => K cb_n
    | some k => K (cb_r T k))
  | (2, T) => K (cb_r T i)
  | (3, T) => K (cb_r T j)
  | (4, _) => K (cb_l (cb_gL M t i j))
  | _ => K (cb_i (cb_gI M t i j))
theorem cb_pv.to {tb : List cb_E} {M : cb_M} {t i j : Nat} {K : cb_V → Prop} (h : cb_pv tb M t i j K) : K (cb_sv tb M t i j) := by
  unfold cb_pv at h
  unfold cb_sv
  generalize cb_fk tb t j = fk at h ⊢
  obtain ⟨c, T⟩ := fk
  match c, h with
  | 0, h => exact h
  | 1, h =>
    obtain ⟨o, h1, h2⟩ := h
    subst h1
    show K (Sum.inr (Sum.inr ((cb_gR M t i j).map fun k => (T, k))))
    generalize cb_gR M t i j = o at h2 ⊢
    cases o with
    | none => exact h2
    | some k => exact h2
  | 2, h => exact h
  | 3, h => exact h
  | 4, h => exact h
  | c + 5, h => exact h
/-- a value of a kind of array, as it is laid -/
def cb_nr (kd : Nat) (v : cb_V) : cb_V := match kd, v with
  | 2, .inl x => cb_i (vp_nar .byte x)
  | _, v => v
def cb_al (tb : List cb_E) (kd : Nat) (st : List cb_V) (a : cb_A) (M : cb_M) (K : List cb_V → Prop) : Prop := match st with
  | .inl x :: .inr (.inr (some (t, i))) :: r => cb_av (a.1 t i) (cb_ck (Nat.beq (cb_kd tb t) kd) (vp_in x (cb_len tb t i) ∧ cb_pv tb M t i x.toNatClampNeg fun v => K (v :: r)))
  | _ => False
def cb_as (tb : List cb_E) (kd : Nat) (st : List cb_V) (a : cb_A) (M : cb_M) (K : List cb_V → cb_M → Prop) : Prop := match st with
  | v :: .inl x :: .inr (.inr (some (t, i))) :: r => cb_av (a.1 t i) (cb_ck (Nat.beq (cb_kd tb t) kd) (vp_in x (cb_len tb t i) ∧ (match cb_st tb M t i x.toNatClampNeg (cb_nr kd v) with | some M' => K r M' | none => False)))
  | _ => False
/-- bytes and booleans have one instruction -/
def cb_kb (tb : List cb_E) (st : List cb_V) (j : Nat) : Nat := match st, j with
  | _ :: .inr (.inr (some (t, _))) :: _, 1 => cb_kd tb t
  | _ :: _ :: .inr (.inr (some (t, _))) :: _, 2 => cb_kd tb t
  | _, _ => 9
def cb_gf (tb : List cb_E) (ci k : Nat) (st : List cb_V) (a : cb_A) (M : cb_M) (K : List cb_V → Prop) : Prop := match st with
  | .inr (.inr (some (t, i))) :: r => cb_av (a.1 t i) (cb_ck (Nat.beq (cb_kd tb t) 0) (cb_ck (Nat.beq (cb_x tb t) ci) (cb_pv tb M t i k fun v => K (v :: r))))
  | _ => False
def cb_pf (tb : List cb_E) (ci k : Nat) (st : List cb_V) (a : cb_A) (M : cb_M) (K : List cb_V → cb_M → Prop) : Prop := match st with
  | v :: .inr (.inr (some (t, i))) :: r => cb_av (a.1 t i) (cb_ck (Nat.beq (cb_kd tb t) 0) (cb_ck (Nat.beq (cb_x tb t) ci) (match cb_st tb M t i k v with | some M' => K r M' | none => False)))
  | _ => False
/-- a method: its class, bytes, locals, answer; its cells, slots, frames, words of locals; its code, its calls, its switches -/
abbrev cb_D : Type := String × ByteArray × Nat × Option FieldType × (Nat × Nat × Nat × Nat) × List cb_O × List cb_Ga × List (Nat × List (Int32 × Nat) × Nat)
abbrev cb_D.own (d : cb_D) : String := d.1
abbrev cb_D.cc (d : cb_D) : ByteArray := d.2.1
abbrev cb_D.nL (d : cb_D) : Nat := d.2.2.1
abbrev cb_D.ret (d : cb_D) : Option FieldType := d.2.2.2.1
abbrev cb_D.mc (d : cb_D) : Nat := d.2.2.2.2.1.1
abbrev cb_D.ms (d : cb_D) : Nat := d.2.2.2.2.1.2.1
abbrev cb_D.fr (d : cb_D) : Nat := d.2.2.2.2.1.2.2.1
abbrev cb_D.lo (d : cb_D) : Nat := d.2.2.2.2.1.2.2.2
abbrev cb_D.cd (d : cb_D) : List cb_O := d.2.2.2.2.2.1
abbrev cb_D.ga (d : cb_D) : List cb_Ga := d.2.2.2.2.2.2.1
abbrev cb_D.sw (d : cb_D) : List (Nat × List (Int32 × Nat) × Nat) := d.2.2.2.2.2.2.2
/-- where a method is walked: the machine, the addresses, the end of the walk, the end in the layer's words -/
abbrev cb_X : Type := Program × Launch × Env × Room × State × MethodId × Array Value × List Frame × Method × Code × cb_G × (State → Prop) × (cb_Out → cb_A → cb_M → Prop)
abbrev cb_X.p (X : cb_X) : Program := X.1
abbrev cb_X.l (X : cb_X) : Launch := X.2.1
abbrev cb_X.e (X : cb_X) : Env := X.2.2.1
abbrev cb_X.R (X : cb_X) : Room := X.2.2.2.1
abbrev cb_X.s (X : cb_X) : State := X.2.2.2.2.1
abbrev cb_X.m (X : cb_X) : MethodId := X.2.2.2.2.2.1
abbrev cb_X.args (X : cb_X) : Array Value := X.2.2.2.2.2.2.1
abbrev cb_X.below (X : cb_X) : List Frame := X.2.2.2.2.2.2.2.1
abbrev cb_X.meth (X : cb_X) : Method := X.2.2.2.2.2.2.2.2.1
abbrev cb_X.c (X : cb_X) : Code := X.2.2.2.2.2.2.2.2.2.1
abbrev cb_X.G (X : cb_X) : cb_G := X.2.2.2.2.2.2.2.2.2.2.1
abbrev cb_X.Q (X : cb_X) : State → Prop := X.2.2.2.2.2.2.2.2.2.2.2.1
abbrev cb_X.K (X : cb_X) : cb_Out → cb_A → cb_M → Prop := X.2.2.2.2.2.2.2.2.2.2.2.2
abbrev cb_X.go (X : cb_X) (H : Heap) (locs : List Loc) (k n : Nat) (g : JFrame) : Prop := W X.p X.l X.e X.R X.s X.m X.args X.below X.meth X.c H locs k n X.Q g
abbrev cb_X.ex (X : cb_X) (H : Heap) (locs : List Loc) (k n : Nat) (g : JFrame) (q : Addr) : Prop := vx_W X.p X.l X.e X.R X.s X.m X.args X.below X.meth X.c H locs k n X.Q g q
abbrev cb_X.fm (X : cb_X) (H : Heap) (locs : List Loc) : Prop := va_S X.G.A X.s.heap H locs
abbrev cb_cs (ad : Nat → Nat → Nat) (st : List cb_V) : List Value := st.map (cb_c ad)
/-- the locals -/
def cb_L (ad : Nat → Nat → Nat) (lc : Array Slot) (nL : Nat) (ls : cb_Ls) : Prop := lc.size = nL ∧ lv_wf lc ∧ ∀ (i : Nat) (v : cb_V), ls[i]? = some (some v) → lc[i]? = some (.val (cb_c ad v))
def cb_rv (ret : Option FieldType) (x : Int32) : Prop := match ret with
  | some .int => True
  | some .boolean => x = 0 ∨ x = 1
  | some .byte => x.toInt8.toInt32 = x
  | some .char => x.toUInt32.toUInt16.toUInt32.toInt32 = x
  | _ => False
def cb_xn : Nat → String
  | 0 => "java/util/NoSuchElementException"
  | _ => "java/lang/IllegalArgumentException"
def cb_iv (k idx : Nat) : Instr := match k with
  | 0 => .invokevirtual idx
  | 1 => .invokestatic idx
  | _ => .invokespecial idx
/-- the method's own end -/
def cb_Re (tb : List cb_E) (d : cb_D) (X : cb_X) : Prop := ∀ (H : Heap) (locs : List Loc) (a : cb_A) (M : cb_M) (k n pc : Nat) (lc : Array Slot) (v : Option cb_V), cb_P X.G tb a M H → X.fm H locs → X.K (.inl v) a M → k ≤ d.mc → n ≤ d.ms →
  (match v with
    | none => d.ret = none ∧ decode d.cc pc = .ok (.return_, 1)
    | some (.inl x) => cb_rv d.ret x ∧ decode d.cc pc = .ok (.ireturn, 1)
    | some (.inr (.inl _)) => d.ret = some .long ∧ decode d.cc pc = .ok (.lreturn, 1)
    | some (.inr (.inr _)) => ((∃ n, d.ret = some (.object n)) ∨ ∃ t, d.ret = some (.array t)) ∧ decode d.cc pc = .ok (.areturn, 1)) →
  X.go H locs k n (F0 X.m pc lc (cb_cs X.G.ad v.toList))
/-- a throw that comes out of a call and isn't caught here -/
def cb_Th (tb : List cb_E) (d : cb_D) (X : cb_X) : Prop := ∀ (H : Heap) (locs : List Loc) (a : cb_A) (M : cb_M) (k n pc : Nat) (lc : Array Slot) (rest : List Value) (x : Nat) (q : Addr) (ce : Cell), cb_P X.G tb a M H → X.fm H locs → X.K (.inr x) a M → k ≤ d.mc → n ≤ d.ms →
  H[q]? = some ce → ce.vm = .none → X.s.vm.findClass (cb_xn x) = some ce.cls → X.ex H locs k n (F0 X.m pc lc rest) q
/-- a throw made here: class, its text, the entries -/
def cb_Ts (tb : List cb_E) (d : cb_D) (X : cb_X) : Prop := ∀ (H : Heap) (locs : List Loc) (a : cb_A) (M : cb_M) (k n pc : Nat) (lc : Array Slot) (st : List cb_V) (x j ik is ic : Nat), cb_P X.G tb a M H → X.fm H locs → lc.size = d.nL → X.K (.inr x) (a.1, none) M → k + 1 ≤ d.mc → n + 6 ≤ d.ms → cb_cat st ≤ 8 →
  (pc, Instr.new ik, 3, (7 : Int32), x, j, 0) ∈ d.cd → decode d.cc pc = .ok (.new ik, 3) → decode d.cc (pc + 3) = .ok (.dup, 1) → decode d.cc (pc + 4) = .ok (.ldc_w is, 3) → decode d.cc (pc + 7) = .ok (.invokespecial ic, 3) → decode d.cc (pc + 10) = .ok (.athrow, 1) →
  X.go H locs k n (F0 X.m pc lc (cb_cs X.G.ad st))
/-- a call -/
def cb_CS (tb : List cb_E) (d : cb_D) (X : cb_X) (g : cb_Ga) : Prop := ∀ (a : cb_A) (M : cb_M) (As : List cb_V) (K : cb_Out → cb_A → cb_M → Prop) (H : Heap) (locs : List Loc) (k n pc : Nat) (lc : Array Slot) (rest : List cb_V), As.length = g.2.2.1 → g.2.2.2.2.2 As a M K → cb_P X.G tb a M H → X.fm H locs → lc.size = d.nL → cb_cat rest ≤ 8 →
  k + g.2.2.2.1 ≤ d.mc → n + g.2.2.2.2.1 ≤ d.ms → decode d.cc pc = .ok (cb_iv g.1 g.2.1, 3) →
  (∀ (v : Option cb_V) (a' : cb_A) (M' : cb_M) (H' : Heap) (locs' : List Loc), K (.inl v) a' M' → cb_P X.G tb a' M' H' → X.fm H' locs' → X.go H' locs' (k + g.2.2.2.1) (n + g.2.2.2.2.1) (F0 X.m (pc + 3) lc (cb_cs X.G.ad (v.toList ++ rest)))) →
  (∀ (x : Nat) (a' : cb_A) (M' : cb_M) (H' : Heap) (locs' : List Loc) (q : Addr) (ce : Cell), K (.inr x) a' M' → cb_P X.G tb a' M' H' → X.fm H' locs' → H'[q]? = some ce → ce.vm = .none → X.s.vm.findClass (cb_xn x) = some ce.cls → X.ex H' locs' (k + g.2.2.2.1) (n + g.2.2.2.2.1) (F0 X.m pc lc (cb_cs X.G.ad rest)) q) →
  X.go H locs k n (F0 X.m pc lc (cb_cs X.G.ad (As.reverse ++ rest)))
def cb_Cx (tb : List cb_E) (d : cb_D) (X : cb_X) : Prop :=
  X.p.tables.exec = Jvm.exec ∧ X.c.code = d.cc ∧ X.c.maxLocals = d.nL ∧ X.s.vm.findClass d.own = some X.m.cls ∧ cb_K X.G X.s ∧ X.G.1 ≤ X.s.heap.size ∧
  cb_Re tb d X ∧ cb_Th tb d X ∧ cb_Ts tb d X ∧ (∀ g ∈ d.ga, cb_CS tb d X g) ∧ (X.R.frames = d.fr ∧ X.R.cells = d.mc ∧ X.R.slots = d.ms ∧ X.R.locals = d.lo)
/-- from here the machine comes to its end -/
def cb_Gd (tb : List cb_E) (d : cb_D) (X : cb_X) (pc : Nat) : cb_Nx := fun ls st a M k n =>
  cb_Cx tb d X → ∀ (H : Heap) (locs : List Loc) (lc : Array Slot), cb_P X.G tb a M H → X.fm H locs → cb_L X.G.ad lc d.nL ls → X.go H locs k n (F0 X.m pc lc (cb_cs X.G.ad st))
/-- one instruction -/
def cb_S (tb : List cb_E) (d : cb_D) (K : cb_Out → cb_A → cb_M → Prop) (o : cb_O) (jp : Nat → cb_Nx) : cb_Nx := fun ls st a M k n => match o with
  | (pc, ins, len, cv, ea, eb, _) => match ins with
    | .iconst _ => jp (pc + len) ls (cb_i cv :: st) a M k n
    | .bipush _ => jp (pc + len) ls (cb_i cv :: st) a M k n
    | .sipush _ => jp (pc + len) ls (cb_i cv :: st) a M k n
    | .ldc _ => match eb with
      | 0 => jp (pc + len) ls (cb_i cv :: st) a M k n
      | _ => jp (pc + len) ls (cb_r 91 ea :: st) a M k n
    | .ldc_w _ => jp (pc + len) ls (cb_i cv :: st) a M k n
    | .lconst n' => jp (pc + len) ls (cb_l (Int64.ofNat n'.val) :: st) a M k n
    | .iload _ => cb_get ls ea fun v => match v with | .inl x => jp (pc + len) ls (cb_i x :: st) a M k n | _ => False
    | .iload_n _ => cb_get ls ea fun v => match v with | .inl x => jp (pc + len) ls (cb_i x :: st) a M k n | _ => False
    | .aload _ => cb_get ls ea fun v => match v with | .inr (.inr r) => jp (pc + len) ls (.inr (.inr r) :: st) a M k n | _ => False
    | .aload_n _ => cb_get ls ea fun v => match v with | .inr (.inr r) => jp (pc + len) ls (.inr (.inr r) :: st) a M k n | _ => False
    | .lload _ => cb_get ls ea fun v => match v with | .inr (.inl x) => jp (pc + len) ls (cb_l x :: st) a M k n | _ => False
    | .lload_n _ => cb_get ls ea fun v => match v with | .inr (.inl x) => jp (pc + len) ls (cb_l x :: st) a M k n | _ => False
    | .istore _ => match st with | .inl x :: r => cb_ck (Nat.blt ea d.nL) (jp (pc + len) (cb_put ls ea (cb_i x)) r a M k n) | _ => False
    | .istore_n _ => match st with | .inl x :: r => cb_ck (Nat.blt ea d.nL) (jp (pc + len) (cb_put ls ea (cb_i x)) r a M k n) | _ => False
    | .astore _ => match st with | .inr (.inr x) :: r => cb_ck (Nat.blt ea d.nL) (jp (pc + len) (cb_put ls ea (.inr (.inr x))) r a M k n) | _ => False
    | .astore_n _ => match st with | .inr (.inr x) :: r => cb_ck (Nat.blt ea d.nL) (jp (pc + len) (cb_put ls ea (.inr (.inr x))) r a M k n) | _ => False
    | .lstore _ => match st with | .inr (.inl x) :: r => cb_ck (Nat.blt (ea + 1) d.nL) (jp (pc + len) (cb_put ls ea (cb_l x)) r a M k n) | _ => False
    | .lstore_n _ => match st with | .inr (.inl x) :: r => cb_ck (Nat.blt (ea + 1) d.nL) (jp (pc + len) (cb_put ls ea (cb_l x)) r a M k n) | _ => False
    | .iinc _ _ => cb_get ls ea fun v => match v with | .inl x => cb_ck (Nat.blt ea d.nL) (jp (pc + len) (cb_put ls ea (cb_i (x + cv))) st a M k n) | _ => False
    | .iadd => cb_b2 st (· + ·) fun st => jp (pc + len) ls st a M k n
    | .isub => cb_b2 st (· - ·) fun st => jp (pc + len) ls st a M k n
    | .imul => cb_b2 st (· * ·) fun st => jp (pc + len) ls st a M k n
    | .iand => cb_b2 st (· &&& ·) fun st => jp (pc + len) ls st a M k n
    | .ior => cb_b2 st (· ||| ·) fun st => jp (pc + len) ls st a M k n
    | .ixor => cb_b2 st (· ^^^ ·) fun st => jp (pc + len) ls st a M k n
    | .ishl => cb_b2 st (fun x y => x <<< (y &&& 31)) fun st => jp (pc + len) ls st a M k n
    | .ishr => cb_b2 st (fun x y => x >>> (y &&& 31)) fun st => jp (pc + len) ls st a M k n
    | .iushr => cb_b2 st cb_ush fun st => jp (pc + len) ls st a M k n
    | .idiv => cb_d2 st (· / ·) fun st => jp (pc + len) ls st a M k n
    | .irem => cb_d2 st cb_rem fun st => jp (pc + len) ls st a M k n
    | .ineg => cb_b1 st (fun x => -x) fun st => jp (pc + len) ls st a M k n
    | .i2b => cb_b1 st (fun x => x.toInt8.toInt32) fun st => jp (pc + len) ls st a M k n
    | .i2l => match st with | .inl x :: r => jp (pc + len) ls (cb_l x.toInt64 :: r) a M k n | _ => False
    | .lshl => match st with | .inl y :: .inr (.inl x) :: r => jp (pc + len) ls (cb_l (x <<< (y.toInt64 &&& 63)) :: r) a M k n | _ => False
    | .lor => match st with | .inr (.inl y) :: .inr (.inl x) :: r => jp (pc + len) ls (cb_l (x ||| y) :: r) a M k n | _ => False
    | .lcmp => match st with | .inr (.inl y) :: .inr (.inl x) :: r => jp (pc + len) ls (cb_i (lg_cmp x y) :: r) a M k n | _ => False
    | .dup => match st with | .inl x :: r => jp (pc + len) ls (cb_i x :: cb_i x :: r) a M k n | .inr (.inr x) :: r => jp (pc + len) ls (.inr (.inr x) :: .inr (.inr x) :: r) a M k n | _ => False
    | .dup2 => match st with | .inl x :: .inr (.inr y) :: r => jp (pc + len) ls (cb_i x :: .inr (.inr y) :: cb_i x :: .inr (.inr y) :: r) a M k n | _ => False
    | .pop => match st with | .inl _ :: r => jp (pc + len) ls r a M k n | .inr (.inr _) :: r => jp (pc + len) ls r a M k n | _ => False
    | .iaload => cb_al tb 1 st a M fun st => jp (pc + len) ls st a M k n
    | .baload => match cb_kb tb st 1 with
      | 2 => cb_al tb 2 st a M fun st => jp (pc + len) ls st a M k n
      | 3 => cb_al tb 3 st a M fun st => jp (pc + len) ls st a M k n
      | _ => False
    | .laload => cb_al tb 4 st a M fun st => jp (pc + len) ls st a M k n
    | .aaload => match cb_kb tb st 1 with
      | 5 => cb_al tb 5 st a M fun st => jp (pc + len) ls st a M k n
      | 6 => cb_al tb 6 st a M fun st => jp (pc + len) ls st a M k n
      | _ => False
    | .iastore => cb_as tb 1 st a M fun st M => jp (pc + len) ls st a M k n
    | .bastore => match cb_kb tb st 2 with
      | 2 => cb_as tb 2 st a M fun st M => jp (pc + len) ls st a M k n
      | 3 => cb_as tb 3 st a M fun st M => jp (pc + len) ls st a M k n
      | _ => False
    | .lastore => cb_as tb 4 st a M fun st M => jp (pc + len) ls st a M k n
    | .arraylength => match st with
      | .inr (.inr (some (t, i))) :: r => cb_av (a.1 t i) (cb_ck (Nat.blt 0 (cb_kd tb t)) (cb_ck (Nat.ble (cb_kd tb t) 6) (jp (pc + len) ls (cb_i (nI (cb_len tb t i)) :: r) a M k n)))
      | _ => False
    | .getfield _ => cb_gf tb ea eb st a M fun st => jp (pc + len) ls st a M k n
    | .putfield _ => cb_pf tb ea eb st a M fun st M => jp (pc + len) ls st a M k n
    | .if_icmp c _ => cb_c2 st (cb_cc c) (fun r => jp ea ls r a M k n) (fun r => jp (pc + len) ls r a M k n)
    | .ifCond c _ => cb_c1 st (fun x => cb_cc c x 0) (fun r => jp ea ls r a M k n) (fun r => jp (pc + len) ls r a M k n)
    | .ifnull _ => match st with | .inr (.inr none) :: r => jp ea ls r a M k n | .inr (.inr (some _)) :: r => jp (pc + len) ls r a M k n | _ => False
    | .ifnonnull _ => match st with | .inr (.inr none) :: r => jp (pc + len) ls r a M k n | .inr (.inr (some _)) :: r => jp ea ls r a M k n | _ => False
    | .goto _ => jp ea ls st a M k n
    | .tableswitch _ _ _ _ => match st with
      | .inl x :: r => match cb_nth d.sw ea (0, [], 0) with | (_, cs, df) => cb_sw x cs df fun t => jp t ls r a M k n
      | _ => False
    | .lookupswitch _ _ => match st with
      | .inl x :: r => match cb_nth d.sw ea (0, [], 0) with | (_, cs, df) => cb_sw x cs df fun t => jp t ls r a M k n
      | _ => False
    | .ireturn => match st with | [.inl x] => cb_rv d.ret x ∧ cb_ck (Nat.ble k d.mc) (cb_ck (Nat.ble n d.ms) (K (.inl (some (cb_i x))) a M)) | _ => False
    | .lreturn => match st with | [.inr (.inl x)] => d.ret = some .long ∧ cb_ck (Nat.ble k d.mc) (cb_ck (Nat.ble n d.ms) (K (.inl (some (cb_l x))) a M)) | _ => False
    | .areturn => match st with | [.inr (.inr x)] => ((∃ n, d.ret = some (.object n)) ∨ ∃ t, d.ret = some (.array t)) ∧ cb_ck (Nat.ble k d.mc) (cb_ck (Nat.ble n d.ms) (K (.inl (some (.inr (.inr x)))) a M)) | _ => False
    | .return_ => match st with | [] => d.ret = none ∧ cb_ck (Nat.ble k d.mc) (cb_ck (Nat.ble n d.ms) (K (.inl none) a M)) | _ => False
    | .new _ => cb_ck (decide (cv = 7)) (cb_ck (Nat.ble (k + 1) d.mc) (cb_ck (Nat.ble (n + 6) d.ms) (cb_ck (Nat.ble (cb_cat st) 8) (K (.inr ea) (a.1, none) M))))
    | .invokevirtual _ => match cb_nth d.ga ea (9, 0, 0, 0, 0, fun _ _ _ _ => False) with
      | (_, _, na, mc, ms, PT) => cb_pop na st [] fun As r => cb_ck (Nat.ble (k + mc) d.mc) (cb_ck (Nat.ble (n + ms) d.ms) (cb_ck (Nat.ble (cb_cat r) 8) (PT As a M (cb_ko (fun v a M => jp (pc + len) ls (v ++ r) a M (k + mc) (n + ms)) (fun x a M => K (.inr x) a M)))))
    | .invokestatic _ => match cb_nth d.ga ea (9, 0, 0, 0, 0, fun _ _ _ _ => False) with
      | (_, _, na, mc, ms, PT) => cb_pop na st [] fun As r => cb_ck (Nat.ble (k + mc) d.mc) (cb_ck (Nat.ble (n + ms) d.ms) (cb_ck (Nat.ble (cb_cat r) 8) (PT As a M (cb_ko (fun v a M => jp (pc + len) ls (v ++ r) a M (k + mc) (n + ms)) (fun x a M => K (.inr x) a M)))))
    | .invokespecial _ => match cb_nth d.ga ea (9, 0, 0, 0, 0, fun _ _ _ _ => False) with
      | (_, _, na, mc, ms, PT) => cb_pop na st [] fun As r => cb_ck (Nat.ble (k + mc) d.mc) (cb_ck (Nat.ble (n + ms) d.ms) (cb_ck (Nat.ble (cb_cat r) 8) (PT As a M (cb_ko (fun v a M => jp (pc + len) ls (v ++ r) a M (k + mc) (n + ms)) (fun x a M => K (.inr x) a M)))))
    | _ => False
def cb_fet : List cb_O → Nat → Option cb_O
  | [], _ => none
  | o :: r, pc => match Nat.beq o.1 pc with
    | true => some o
    | false => cb_fet r pc
def cb_mem : Nat → List Nat → Bool
  | _, [] => false
  | x, y :: r => match Nat.beq x y with
    | true => true
    | false => cb_mem x r
def cb_wp (tb : List cb_E) (d : cb_D) (X : cb_X) (cuts : List Nat) : Nat → Nat → cb_Nx
  | 0, pc => cb_Gd tb d X pc
  | f + 1, pc => fun ls st a M k n => match cb_fet d.cd pc with
    | none => False
    | some o => cb_S tb d X.K o (fun pc' => match cb_mem pc' cuts with
      | true => cb_Gd tb d X pc'
      | false => cb_wp tb d X cuts f pc') ls st a M k n
