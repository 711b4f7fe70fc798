/-! ===== calls, and a method's contract out of its body ===== -/
/-- what is known of a walk apart from its calls and ends -/
def cb_Bs (d : cb_D) (X : cb_X) : Prop :=
  X.p.tables.exec = Jvm.exec ∧ X.c.code = d.cc ∧ X.c.maxLocals = d.nL ∧ X.s.vm.findClass d.own = some X.m.cls ∧ cb_K X.G X.s ∧ X.G.1 ≤ X.s.heap.size ∧ X.l.stackTraces = false ∧
  (X.R.frames = d.fr ∧ X.R.cells = d.mc ∧ X.R.slots = d.ms ∧ X.R.locals = d.lo)
theorem cb_WS.blind {tb : List cb_E} {G : cb_G} {a : cb_A} {M : cb_M} {av : List Value} : FrameBlind (va_Pc av (cb_WS tb G a M)) := by
  intro v U g mk h
  obtain ⟨h1, h2, h3, h4⟩ := h
  exact ⟨h1, h2, cb_K.moved (s := U) (U := U.calling g mk v) (State.WarmedH.refl U) (fun _ _ _ => rfl) h3, h4⟩
section AFT
variable {tb : List cb_E} {d : cb_D} {X : cb_X} {H : Heap} {locs : List Loc} {k n pc mc ms : Nat} {lc : Array Slot} {st0 : List Value} {rest : List cb_V} {K : cb_Out → cb_A → cb_M → Prop} {a0 : Array Value}
theorem cb_after (hr : vx_Run X.p X.l X.e X.R X.s X.m X.args X.below X.meth X.c H locs k n mc ms (F0 X.m pc lc st0) (cb_cs X.G.ad rest) (cb_Qc tb X.G K a0) (cb_XC tb X.G K) X.G.A) (hS : X.fm H locs)
    (kv : ∀ (v : Option cb_V) (a' : cb_A) (M' : cb_M) (H' : Heap) (locs' : List Loc), K (.inl v) a' M' → cb_P X.G tb a' M' H' → X.fm H' locs' → X.go H' locs' (k + mc) (n + ms) (F0 X.m (pc + 3) lc (cb_cs X.G.ad (v.toList ++ rest))))
    (kx : ∀ (x : Nat) (a' : cb_A) (M' : cb_M) (H' : Heap) (locs' : List Loc) (q : Addr) (ce : Cell), K (.inr x) a' M' → cb_P X.G tb a' M' H' → X.fm H' locs' → H'[q]? = some ce → ce.vm = .none → X.s.vm.findClass (cb_xn x) = some ce.cls → X.ex H' locs' (k + mc) (n + ms) (F0 X.m pc lc (cb_cs X.G.ad rest)) q) :
    X.go H locs k n (F0 X.m pc lc st0) := by
  intro T hT Y
  rcases hr T hT Y with ⟨v, st₀, t, T', L, h0, X', hL, e1, e2, ⟨⟨v', a', M', hv, hK', hP'⟩, hF⟩, st⟩ | ⟨q, st₀, t, T', L, E, ce, h0, X', hL, e1, e2, ⟨⟨x, a', M', hE, hK', hP'⟩, hF⟩, hce, hcv, hcl, st⟩
  · obtain ⟨k1, k2, k3⟩ := vx_keep h0 e1 hS (fun _ _ h => h) (fun _ h => h) hL hF
    obtain ⟨t2, a1, b1⟩ := kv v' a' M' T'.heap (locs ++ L) hK' (by rw [e1]; exact hP') k3 T' rfl X'
    have ev : v = v'.map (cb_c X.G.ad) := by
      have := hv
      injection this
    refine ⟨t2, st t2 ?_, b1⟩
    subst ev
    cases v' with
    | none => exact a1
    | some w => exact a1
  · subst hE
    obtain ⟨k1, k2, k3⟩ := vx_keep h0 e1 hS (fun _ _ h => h) (fun _ h => h) hL hF
    obtain ⟨t2, a1, b1⟩ := kx x a' M' T'.heap (locs ++ L) q ce hK' (by rw [e1]; exact hP') k3 (by rw [e1]; exact hce) hcv hcl T' rfl X'
    exact ⟨t2, st.trans a1, b1⟩
end AFT
/-- the words of a method: its code, its class -/
def cb_wd (y : MethodName) (d : cb_D) : Prop := (Cond.code y d.cc d.nL d.ret ∈ lw_tbl) ∧ Cond.initialized y.cls ∈ lw_tbl ∧ y.cls ≠ "java/lang/invoke/MethodHandle" ∧ y.cls ≠ "java/lang/invoke/VarHandle"
theorem cb_wcode {G : cb_G} {U s : State} (hK : cb_K G s) {y : MethodName} {d : cb_D} (hw : cb_wd y d) : ∀ w ∈ [Cond.code y d.cc d.nL d.ret], ∀ (a' : Array Value) (U : State), s.WarmedH U.vm → w.before a' U = true := by
  intro w h a' U hW
  rw [List.mem_singleton.mp h]
  exact word_at hW (Or.inl rfl) (hK.1 _ hw.1 rfl #[])
theorem cb_ws_at {tb : List cb_E} {d : cb_D} {X : cb_X} (B : cb_Bs d X) {H : Heap} {locs : List Loc} {a : cb_A} {M : cb_M} (hP : cb_P X.G tb a M H) (hS : X.fm H locs) {av : List Value} : ∀ U : State, U.heap = H → X.s.WarmedH U.vm → va_Pc av (cb_WS tb X.G a M) av.toArray U := by
  intro U hU hW
  obtain ⟨-, -, -, -, hK, hs0, -⟩ := B
  exact ⟨rfl, by rw [hU]; exact Nat.le_trans hs0 hS.1, cb_K.moved hW (fun q h1 h2 => by rw [hU]; exact hS.2.1 q h1 h2) hK, by rw [hU]; exact hP⟩
/-- the receiver of a virtual call -/
def cb_rc (tb : List cb_E) (C : String) (PT : cb_PT) : Prop := ∀ As a M K, PT As a M K → ∃ (t i : Nat) (r : List cb_V) (q : vw_C), As = cb_r t i :: r ∧ a.1 t i = true ∧ cb_kd tb t = 0 ∧ cb_cl[cb_x tb t]? = some q ∧ q.1 = C
theorem cb_csV {tb : List cb_E} {d : cb_D} {X : cb_X} (B : cb_Bs d X) {y : MethodName} {dy : cb_D} {PT : cb_PT} (hM : cb_MOK tb y dy PT) (hw : cb_wd y dy) {idx na : Nat} (hl : Cond.methodLink d.own idx y ∈ lw_tbl) (hin : Cond.instanceMethod y ∈ lw_tbl) (hse : Cond.selects y.cls y y ∈ lw_tbl)
    (hrc : cb_rc tb y.cls PT) (hR : dy.fr + 1 ≤ d.fr ∧ 8 + (dy.nL + 11) + dy.lo ≤ d.lo) (hd : (parseMethodDescriptor y.desc).map (fun d => d.parameters.length + 1) = some na) : cb_CS tb d X (0, idx, na, dy.mc, dy.ms, PT) := by
  intro a M As K H locs k n pc lc rest hn hPT hP hS hsz hcat hk hms hdg kv kx
  obtain ⟨hx, hb, hml, hown, hK, hs0, hl0, hR1, hR2, hR3, hR4⟩ := id B
  obtain ⟨t, i, r, q, rfl, ha, hkd, hq, hqC⟩ := hrc As a M K hPT
  have hM' := hM X.l hl0 X.G a M (cb_r t i :: r) K hPT
  obtain ⟨rr, h1, cell, q1, q2, q3, -⟩ := ((hP.1 t i ha).1).obj hkd
  refine cb_after (a0 := (Value.ref (X.G.ad t i) :: cb_cs X.G.ad r).toArray) (vx_runV (Ts := []) (C := y.cls) (bytes := dy.cc) (maxL := dy.nL) (nL := d.nL) (ret := dy.ret) (index := idx) (b := X.G.ad t i) (As := cb_cs X.G.ad r) (n := r.length) (rest := cb_cs X.G.ad rest)
    ⟨hx, hb, hml, hown, fun _ h => nomatch h⟩ hM' ⟨⟨rfl, rfl, by rw [hR1]; exact hR.1, by rw [hR4]; exact hR.2, cb_wcode (U := X.s) hK hw, List.mem_singleton.mpr rfl, hK.1 _ hw.1 rfl _, hK.1 _ hw.2.1 rfl _, hw.2.2, fun sig hs => ?_, hK.1 _ hl rfl _⟩, hK.1 _ hin rfl _, hK.1 _ hse rfl _⟩
    ⟨cb_WS.blind, ⟨cell, q1, by rw [q3]; rfl, by rw [q2, ← hqC]; exact (hK.2.2.1 _ q hq).2.1⟩, fun U hU hW => cb_ws_at B hP hS U hU hW⟩ rfl (by simp) hsz (by simp [cb_cs, cb_c]) ?_ hdg ⟨by rw [hR2]; exact hk, by rw [hR3]; exact hms⟩) hS kv kx
  · rw [hs] at hd
    have hd : sig.parameters.length + 1 = na := Option.some.inj hd
    have hn : r.length + 1 = na := hn
    show r.length = sig.parameters.length
    omega
  · have := cb_cat_sum X.G.ad rest
    have e0 : 2 * (F0 X.m pc lc (cb_cs X.G.ad ((cb_r t i :: r).reverse ++ rest))).monitorRoom = 0 := rfl
    rw [e0, this]
    omega
theorem cb_csS {tb : List cb_E} {d : cb_D} {X : cb_X} (B : cb_Bs d X) {y : MethodName} {dy : cb_D} {PT : cb_PT} (hM : cb_MOK tb y dy PT) (hw : cb_wd y dy) {idx na : Nat} (hl : Cond.methodLink d.own idx y ∈ lw_tbl) (hst : Cond.static y ∈ lw_tbl)
    (hR : dy.fr + 1 ≤ d.fr ∧ 8 + (dy.nL + 11) + dy.lo ≤ d.lo) (hd : (parseMethodDescriptor y.desc).map (fun d => d.parameters.length) = some na) : cb_CS tb d X (1, idx, na, dy.mc, dy.ms, PT) := by
  intro a M As K H locs k n pc lc rest hn hPT hP hS hsz hcat hk hms hdg kv kx
  obtain ⟨hx, hb, hml, hown, hK, hs0, hl0, hR1, hR2, hR3, hR4⟩ := id B
  have hM' := hM X.l hl0 X.G a M As K hPT
  refine cb_after (a0 := (cb_cs X.G.ad As).toArray) (vx_runS (Ts := []) (bytes := dy.cc) (maxL := dy.nL) (nL := d.nL) (ret := dy.ret) (index := idx) (As := cb_cs X.G.ad As) (n := As.length) (rest := cb_cs X.G.ad rest)
    ⟨hx, hb, hml, hown, fun _ h => nomatch h⟩ hM' ⟨⟨rfl, rfl, by rw [hR1]; exact hR.1, by rw [hR4]; exact hR.2, cb_wcode (U := X.s) hK hw, List.mem_singleton.mpr rfl, hK.1 _ hw.1 rfl _, hK.1 _ hw.2.1 rfl _, hw.2.2, fun sig hs => ?_, hK.1 _ hl rfl _⟩, hK.1 _ hst rfl _⟩
    ⟨cb_WS.blind, fun U hU hW => cb_ws_at B hP hS U hU hW⟩ rfl (by simp) hsz (by simp [cb_cs]) ?_ hdg ⟨by rw [hR2]; exact hk, by rw [hR3]; exact hms⟩) hS kv kx
  · rw [hs] at hd
    have hd : sig.parameters.length = na := Option.some.inj hd
    have hn : As.length = na := hn
    show As.length = sig.parameters.length
    omega
  · have := cb_cat_sum X.G.ad rest
    have e0 : 2 * (F0 X.m pc lc (cb_cs X.G.ad (As.reverse ++ rest))).monitorRoom = 0 := rfl
    rw [e0, this]
    omega
/-- nobody throws out of it -/
def cb_nt (PT : cb_PT) : Prop := ∀ As a M K, PT As a M K → PT As a M (fun o a M => match o with | .inl v => K (.inl v) a M | .inr _ => False)
theorem cb_met {tb : List cb_E} {y : MethodName} {dy : cb_D} {PT : cb_PT} (hM : cb_MOK tb y dy PT) (hn : cb_nt PT) {l : Launch} (hl : l.stackTraces = false) (G : cb_G) (a : cb_A) (M : cb_M) (As : List cb_V) (K : cb_Out → cb_A → cb_M → Prop) (h : PT As a M K) :
    Met l y [.code y dy.cc dy.nL dy.ret] (cb_rm dy) (va_Pc (As.map (cb_c G.ad)) (cb_WS tb G a M)) (cb_Qc tb G K) dy.mc dy.ms G.A := by
  intro p e h1 h2 h3 s m args below h4 h5 h6 h7
  obtain ⟨n, o, r1, r2, r3, r4⟩ := hM l hl G a M As _ (hn As a M K h) p e h1 h2 h3 s m args below h4 h5 h6 h7
  refine ⟨n, o, r1, r2, r3, ?_⟩
  rcases r4 with ⟨⟨⟨v, a', M', q1, q2, q3⟩, q4⟩, q5⟩ | ⟨q, -, E, ce, L, ⟨⟨x, a', M', -, q2, -⟩, -⟩, -⟩
  · exact ⟨⟨⟨v, a', M', q1, q2, q3⟩, q4⟩, q5⟩
  · exact q2.elim
/-- a call of a static method of a nest mate -/
theorem cb_csN {tb : List cb_E} {d : cb_D} {X : cb_X} (B : cb_Bs d X) {y : MethodName} {dy : cb_D} {PT : cb_PT} (hM : cb_MOK tb y dy PT) (hnt : cb_nt PT) (hw : cb_wd y dy) {idx na : Nat} {host : String} (hl : Cond.methodLinkNest d.own idx y host ∈ lw_tbl) (hst : Cond.static y ∈ lw_tbl)
    (hR : dy.fr + 1 ≤ d.fr ∧ 8 + (dy.nL + 11) + dy.lo ≤ d.lo) (hd : (parseMethodDescriptor y.desc).map (fun d => d.parameters.length) = some na) : cb_CS tb d X (1, idx, na, dy.mc, dy.ms, PT) := by
  intro a M As K H locs k n pc lc rest hn hPT hP hS hsz hcat hk hms hdg kv kx
  obtain ⟨hx, hb, hml, hown, hK, hs0, hl0, hR1, hR2, hR3, hR4⟩ := id B
  have hM' := cb_met hM hnt hl0 X.G a M As K hPT
  have hrun := va_runSN (p := X.p) (l := X.l) (e := X.e) (R := X.R) (s := X.s) (m := X.m) (args := X.args) (below := X.below) (meth := X.meth) (c := X.c) (H := H) (locs := locs) (cells := k) (slots := n) (cc := d.cc) (own := d.own) (host := host) (Ts := []) (bytes := dy.cc) (maxL := dy.nL) (nL := d.nL) (ret := dy.ret) (index := idx) (As := cb_cs X.G.ad As) (n := As.length) (rest := cb_cs X.G.ad rest) (g := F0 X.m pc lc (cb_cs X.G.ad (As.reverse ++ rest)))
    ⟨hx, hb, hml, hown, fun _ h => nomatch h⟩ hM' ⟨⟨⟨rfl, rfl, by rw [hR1]; exact hR.1, by rw [hR4]; exact hR.2, cb_wcode (U := X.s) hK hw, List.mem_singleton.mpr rfl⟩, hK.1 _ hw.1 rfl _, hK.1 _ hw.2.1 rfl _, hw.2.2, fun sig hs => by
      rw [hs] at hd
      have hd : sig.parameters.length = na := Option.some.inj hd
      have hn : As.length = na := hn
      show As.length = sig.parameters.length
      omega, va_Nw.use rfl (hK.2.1 _ hl rfl)⟩, hK.1 _ hst rfl _, trivial⟩
    ⟨cb_WS.blind, fun U hU hW => cb_ws_at B hP hS U hU hW⟩ rfl (by simp) hsz (by simp [cb_cs]) (by
      have := cb_cat_sum X.G.ad rest
      have e0 : 2 * (F0 X.m pc lc (cb_cs X.G.ad (As.reverse ++ rest))).monitorRoom = 0 := rfl
      rw [e0, this]
      omega) hdg ⟨by rw [hR2]; exact hk, by rw [hR3]; exact hms⟩
  intro T hT Y
  obtain ⟨v, st₀, t, T', L, h0, X', hL, e1, e2, ⟨⟨v', a', M', hv, hK', hP'⟩, hF⟩, st⟩ := hrun T hT Y
  obtain ⟨k1, k2, k3⟩ := vx_keep h0 e1 hS (fun _ _ h => h) (fun _ h => h) hL hF
  obtain ⟨t2, a1, b1⟩ := kv v' a' M' T'.heap (locs ++ L) hK' (by rw [e1]; exact hP') k3 T' rfl X'
  have ev : v = v'.map (cb_c X.G.ad) := by
    have := hv
    injection this
  refine ⟨t2, st t2 ?_, b1⟩
  subst ev
  cases v' with
  | none => exact a1
  | some w => exact a1
/-- as vx_ofW, for a method that no native's row stands for -/
theorem cb_ofW {l : Launch} {y : MethodName} {rm : Room} {Pc : Array Value → State → Prop} {Qc : Array Value → State → Outcome → State → Prop} {XC : String → State → State → Prop} {mc ms : Nat} {free : Addr → Prop} {cc : ByteArray} {maxL : Nat} {ret : Option FieldType}
    (hy : plainFor y = true)
    (body : ∀ p e s m args below meth c s₁, BodyLoose p l y (headSpec [Cond.code y cc maxL ret] rm) cc maxL ret e s m args below meth c s₁ → c.maxLocals = maxL → (∀ x ∈ c.exceptionTable.toList, False) → Pc args s →
      W p l e (headSpec [Cond.code y cc maxL ret] rm).room s m args below meth c s.heap [] 0 0 (vx_MQ below Qc XC args s mc ms free) (entryFrame m args maxL)) : vx_Met l y [Cond.code y cc maxL ret] rm Pc Qc XC mc ms free := by
  refine MetFree.of_bodySF (code := cc) (maxLocals := maxL) (ret := ret) hy ?_ ?_
  · intro args s m h hn
    obtain ⟨meth, c, h1, h2, h3, h4, h5, h6, -, -⟩ := Cond.code_spec hn (atoms_spec (ws := [Cond.code y cc maxL ret]) h _ List.mem_cons_self)
    exact ⟨meth, c, h1, h2, h3, h4, h5, h6⟩
  · intro p e s m args below meth c s₁ B hml hP _
    have hh0 : s₁.heap = s.heap := by rw [B.state]; rfl
    have ht : ∀ x ∈ c.exceptionTable.toList, False := by
      have h7 := B.noHandlers (atoms_spec (ws := [Cond.code y cc maxL ret]) B.pre _ List.mem_cons_self)
      intro x hx
      have : c.exceptionTable = #[] := by simpa using h7
      rw [this] at hx
      simp at hx
    obtain ⟨t, a1, o, b1, b2, b3⟩ := body p e s m args below meth c s₁ B hml ht hP s₁ hh0 (Stand.of_body B)
    exact ⟨t, o, a1, b1, b2, b3⟩
/-- a method's contract out of its body -/
theorem cb_of {tb : List cb_E} {y : MethodName} {d : cb_D} {PT : cb_PT} (hy : plainFor y = true ∧ y.cls = d.own) (hnL : ∀ As a M K, PT As a M K → (As.flatMap fun v => if cb_lg v then [some v, none] else [some v]).length ≤ d.nL)
    (hcs : ∀ X, cb_Bs d X → ∀ g ∈ d.ga, cb_CS tb d X g) (hts : ∀ X, cb_Bs d X → (∀ x ∈ X.c.exceptionTable.toList, False) → X.meth.locks = false → X.Q = vx_MQ X.below (cb_Qc tb X.G X.K) (cb_XC tb X.G X.K) X.args X.s d.mc d.ms X.G.A → cb_Ts tb d X)
    (hbody : ∀ X As a M, PT As a M X.K → cb_Gd tb d X 0 (cb_l0 As d.nL) [] a M 0 0) : cb_MOK tb y d PT := by
  intro l hl G a M As K hPT
  refine cb_ofW (cc := d.cc) (maxL := d.nL) (ret := d.ret) hy.1 ?_
  intro p e s m args below meth c s₁ B hml hno hPc
  obtain ⟨rfl, hs0, hK, hP⟩ := hPc
  have hr := B.returns
  have hlocks := B.notSynchronized
  have hown : s.vm.findClass d.own = some m.cls := by rw [← hy.2]; exact findClass_of_methodNamed B.named
  obtain ⟨X, hX⟩ : ∃ X : cb_X, X = (p, l, e, (headSpec [Cond.code y d.cc d.nL d.ret] (cb_rm d)).room, s, m, (As.map (cb_c G.ad)).toArray, below, meth, c, G, vx_MQ below (cb_Qc tb G K) (cb_XC tb G K) (As.map (cb_c G.ad)).toArray s d.mc d.ms G.A, K) := ⟨_, rfl⟩
  have hB : cb_Bs d X := by
    subst hX
    exact ⟨B.exec, B.bytes, hml, hown, hK, hs0, hl, rfl, rfl, rfl, rfl⟩
  have hC : cb_Cx tb d X := by
    obtain ⟨b1, b2, b3, b4, b5, b6, b7, b8⟩ := id hB
    refine ⟨b1, b2, b3, b4, b5, b6, ?_, ?_, hts X hB (by subst hX; exact hno) (by subst hX; exact hlocks) (by subst hX; rfl), hcs X hB, b8⟩
    · subst hX
      intro H locs a M k n pc lc v hP hS hKv h1 h2 hv
      refine vx_ret (W.widen h1 h2 ?_)
      match v, hKv, hv with
      | none, hKv, hv =>
        exact W.vret B.exec B.bytes (by rw [hr]; exact hv.1) (fun t ht hW => ⟨⟨none, a, M, rfl, hKv, by rw [ht]; exact hP⟩, hS.F ht⟩) (fun q hq => hS.2.2 q hq) hv.2 hlocks
      | some (.inl x), hKv, hv =>
        have hv1 := hv.1
        unfold cb_rv at hv1
        split at hv1
        · rename_i e1
          exact W.zret B.exec B.bytes (by rw [hr]; exact e1) rfl (fun t ht hW => ⟨⟨some (cb_i x), a, M, rfl, hKv, by rw [ht]; exact hP⟩, hS.F ht⟩) (fun q hq => hS.2.2 q hq) hv.2 hlocks
        · rename_i e1
          exact W.zret B.exec B.bytes (by rw [hr]; exact e1) (by rcases hv1 with rfl | rfl <;> rfl) (fun t ht hW => ⟨⟨some (cb_i x), a, M, rfl, hKv, by rw [ht]; exact hP⟩, hS.F ht⟩) (fun q hq => hS.2.2 q hq) hv.2 hlocks
        · rename_i e1
          exact W.zret B.exec B.bytes (by rw [hr]; exact e1) (show narrow .byte (.int x) = .int x from congrArg Value.int hv1) (fun t ht hW => ⟨⟨some (cb_i x), a, M, rfl, hKv, by rw [ht]; exact hP⟩, hS.F ht⟩) (fun q hq => hS.2.2 q hq) hv.2 hlocks
        · rename_i e1
          exact W.zret B.exec B.bytes (by rw [hr]; exact e1) (show narrow .char (.int x) = .int x from congrArg Value.int hv1) (fun t ht hW => ⟨⟨some (cb_i x), a, M, rfl, hKv, by rw [ht]; exact hP⟩, hS.F ht⟩) (fun q hq => hS.2.2 q hq) hv.2 hlocks
        · exact hv1.elim
      | some (.inr (.inl x)), hKv, hv =>
        exact W.lret B.exec B.bytes (by rw [hr]; exact hv.1) (fun t ht hW => ⟨⟨some (cb_l x), a, M, rfl, hKv, by rw [ht]; exact hP⟩, hS.F ht⟩) (fun q hq => hS.2.2 q hq) hv.2 hlocks
      | some (.inr (.inr x)), hKv, hv =>
        rcases hv.1 with ⟨nm, e1⟩ | ⟨ty, e1⟩
        · exact W.aret (v := cb_c G.ad (.inr (.inr x))) B.exec B.bytes (by rw [hr]; exact e1) (Or.inl ⟨_, rfl⟩) (by match x with | none => exact Or.inl rfl | some (t, i) => exact Or.inr ⟨_, rfl⟩) (fun t ht hW => ⟨⟨some (.inr (.inr x)), a, M, rfl, hKv, by rw [ht]; exact hP⟩, hS.F ht⟩) (fun q hq => hS.2.2 q hq) hv.2 hlocks
        · exact W.aret (v := cb_c G.ad (.inr (.inr x))) B.exec B.bytes (by rw [hr]; exact e1) (Or.inr ⟨_, rfl⟩) (by match x with | none => exact Or.inl rfl | some (t, i) => exact Or.inr ⟨_, rfl⟩) (fun t ht hW => ⟨⟨some (.inr (.inr x)), a, M, rfl, hKv, by rw [ht]; exact hP⟩, hS.F ht⟩) (fun q hq => hS.2.2 q hq) hv.2 hlocks
    · subst hX
      intro H locs a M k n pc lc rest x q ce hP hS hKx h1 h2 e1 e2 e3
      exact vx_out (fun z hz => (hno z hz).elim) hlocks e1 e2 e3 (fun t ht hW => ⟨⟨x, a, M, rfl, hKx, by rw [ht]; exact hP⟩, hS.F ht⟩) (fun z hz => hS.2.2 z hz) h1 h2
  have hle := lv_entry (As.map (cb_c G.ad)) (n := d.nL) (by rw [cb_len0]; exact hnL As a M K hPT)
  rw [lg_entry_eq]
  have := hbody X As a M (by subst hX; exact hPT) hC s.heap [] _ (by subst hX; exact hP) (by subst hX; exact va_S.rf) (by subst hX; exact cb_l0_L As G.ad d.nL hle)
  subst hX
  exact this
