/-! ===== the law's helpers: a call whose throws are caught ===== -/
abbrev cb_NSE : String := "java/util/NoSuchElementException"
abbrev cb_IAE : String := "java/lang/IllegalArgumentException"
def cb_NC (U : State) : Prop := va_Nc cb_IAE cb_NSE U
def cb_MC (y : MethodName) (d : cb_D) (hh : List (Nat × Nat × Nat × Nat)) (PT : cb_PT) : Prop := ∀ (l : Launch), l.stackTraces = false → ∀ (G : cb_G) (a : cb_A) (M : cb_M) (As : List cb_V) (K : cb_Out → cb_A → cb_M → Prop), (∀ x a M, ¬ K (.inr x) a M) → PT As a M K →
  Met l y [.codeWith y d.cc d.nL d.ret hh] (cb_rm d) (va_Pc (As.map (cb_c G.ad)) (fun U => cb_WS cb_tb G a M U ∧ cb_NC U)) (cb_Qc cb_tb G K) d.mc d.ms G.A
theorem cb_WSc.blind {G : cb_G} {a : cb_A} {M : cb_M} {av : List Value} : FrameBlind (va_Pc av (fun U => cb_WS cb_tb G a M U ∧ cb_NC U)) := by
  intro v U g mk h
  obtain ⟨h1, ⟨h2, h3, h4⟩, h5⟩ := h
  exact ⟨h1, ⟨h2, cb_K.moved (s := U) (U := U.calling g mk v) (State.WarmedH.refl U) (fun _ _ _ => rfl) h3, h4⟩, va_Nc.moved (u := U) (U := U.calling g mk v) (State.WarmedH.refl U).alike h5⟩
theorem cb_ofc {y : MethodName} {d : cb_D} {hh : List (Nat × Nat × Nat × Nat)} {PT : cb_PT} (hy : plainName y.cls = true ∧ y.cls = d.own) (hnL : ∀ As a M K, PT As a M K → (As.flatMap fun v => if cb_lg v then [some v, none] else [some v]).length ≤ d.nL) (hret : d.ret = some .int) (hga : d.ga = []) (hT : cb_noT d = true)
    (hbody : ∀ X As a M, PT As a M X.K → cb_Bs d X → X.c.exceptionTable.toList = tableOf hh → cb_NC X.s → cb_Gd cb_tb d X 0 (cb_l0 As d.nL) [] a M 0 0) : cb_MC y d hh PT := by
  intro l hl G a M As K hKx hPT
  refine vx_toMet (XC := cb_XC cb_tb G K) ?_ (fun E st t h => by
    obtain ⟨⟨x, a', M', -, hK', -⟩, -⟩ := h
    exact hKx _ _ _ hK')
  refine vx_ofWH (cc := d.cc) (maxL := d.nL) (ret := d.ret) (hh := hh) (ws' := []) hy.1 rfl ?_
  intro p e s m args below meth c s₁ B hml hPc
  obtain ⟨rfl, ⟨hs0, hK, hP⟩, hNC⟩ := hPc
  have hr := B.returns
  have hlocks := B.notSynchronized
  have htab : c.exceptionTable.toList = tableOf hh := vx_table (x := y) B (atoms_spec (ws := [Cond.codeWith y d.cc d.nL d.ret hh]) B.pre _ List.mem_cons_self)
  have hown : s.vm.findClass d.own = some m.cls := by rw [← hy.2]; exact findClass_of_methodNamed B.named
  obtain ⟨X, hX⟩ : ∃ X : cb_X, X = (p, l, e, (headSpec [Cond.codeWith y d.cc d.nL d.ret hh] (cb_rm d)).room, s, m, (As.map (cb_c G.ad)).toArray, below, meth, c, G, vx_MQ below (cb_Qc cb_tb G K) (cb_XC cb_tb G K) (As.map (cb_c G.ad)).toArray s d.mc d.ms G.A, K) := ⟨_, rfl⟩
  have hB : cb_Bs d X := by
    subst hX
    exact ⟨B.exec, B.bytes, hml, hown, hK, hs0, hl, rfl, rfl, rfl, rfl⟩
  have hC : cb_Cx cb_tb d X := by
    obtain ⟨b1, b2, b3, b4, b5, b6, b7, b8⟩ := id hB
    refine ⟨b1, b2, b3, b4, b5, b6, ?_, ?_, cb_Ts0 hT, (fun g hg => by rw [hga] at hg; cases hg), b8⟩
    · subst hX
      intro H locs a M k n pc lc v hP hS hKv h1 h2 hv
      refine vx_ret (W.widen h1 h2 ?_)
      match v, hKv, hv with
      | none, hKv, hv =>
        have := hv.1
        rw [hret] at this
        cases this
      | some (.inl x), hKv, hv => exact W.zret B.exec B.bytes (hr.trans hret) rfl (fun t ht hW => ⟨⟨some (cb_i x), a, M, rfl, hKv, by rw [ht]; exact hP⟩, hS.F ht⟩) (fun q hq => hS.2.2 q hq) hv.2 hlocks
      | some (.inr (.inl x)), hKv, hv =>
        have := hv.1
        rw [hret] at this
        cases this
      | some (.inr (.inr x)), hKv, hv =>
        rcases hv.1 with ⟨nm, e1⟩ | ⟨ty, e1⟩
        · rw [hret] at e1
          cases e1
        · rw [hret] at e1
          cases e1
    · subst hX
      intro H locs a M k n pc lc rest x q ce hP hS hKx' h1 h2 e1 e2 e3
      exact absurd hKx' (hKx _ _ _)
  have hle := lv_entry (As.map (cb_c G.ad)) (n := d.nL) (by rw [cb_len0]; exact hnL As a M K hPT)
  rw [lg_entry_eq]
  have := hbody X As a M (by subst hX; exact hPT) hB (by subst hX; exact htab) (by subst hX; exact hNC) hC s.heap [] _ (by subst hX; exact hP) (by subst hX; exact va_S.rf) (by subst hX; exact cb_l0_L As G.ad d.nL hle)
  subst hX
  exact this
/-- the handler of a throw: the rows ahead, its row, what is given back -/
def cb_hx (d : cb_D) (X : cb_X) (pc x : Nat) (r : Int32) : Prop := ∃ (pre : List ExceptionTableEntry) (h : ExceptionTableEntry) (suf : List ExceptionTableEntry) (j len : Nat), X.c.exceptionTable.toList = pre ++ h :: suf ∧ (∀ z ∈ pre, covers z pc = false ∨ (z.catchType ≠ 0 ∧ ∃ nm : String, (Cond.classLink d.own z.catchType nm).before X.args X.s = true ∧ va_Nc (cb_xn x) nm X.s)) ∧ covers h pc = true ∧ h.catchType ≠ 0 ∧ (Cond.classLink d.own h.catchType (cb_xn x)).before X.args X.s = true ∧ (Cond.castable (cb_xn x) (cb_xn x)).before X.args X.s = true ∧
  ((len = 1 ∧ ∃ jn : Fin 4, (jn : Nat) = j ∧ decode d.cc h.handlerPc = .ok (.astore_n jn, 1)) ∨ (len = 2 ∧ decode d.cc h.handlerPc = .ok (.astore j, 2))) ∧ j < d.nL ∧ (∃ ic : Int, decode d.cc (h.handlerPc + len) = .ok (.iconst ic, 1) ∧ Int32.ofInt ic = r) ∧ decode d.cc (h.handlerPc + len + 1) = .ok (.ireturn, 1)
theorem ch_call {d : cb_D} {X : cb_X} {pc : Nat} {ls : cb_Ls} {st : List cb_V} {a : cb_A} {M : cb_M} {k n idx na mc ms : Nat} {PT : cb_PT} {As : List cb_V} (hcs : cb_CS cb_tb d X (0, idx, na, mc, ms, PT)) (hn : As.length = na) (hcat : cb_cat st ≤ 8) (hk : k + mc ≤ d.mc) (hms : n + ms ≤ d.ms) (hd : decode d.cc pc = .ok (.invokevirtual idx, 3)) (hret : d.ret = some .int)
    {K : cb_Out → cb_A → cb_M → Prop} (h : PT As a M K) (hv : ∀ v a' M', K (.inl v) a' M' → cb_Gd cb_tb d X (pc + 3) ls (v.toList ++ st) a' M' (k + mc) (n + ms)) (hxx : ∀ x a' M', K (.inr x) a' M' → ∃ r, cb_hx d X pc x r ∧ X.K (.inl (some (cb_i r))) a' M') : cb_Gd cb_tb d X pc ls (As.reverse ++ st) a M k n := by
  intro C H locs lc hP hS hL
  obtain ⟨hx, hb, hml, hown, hK, hs0, hRe, -⟩ := id C
  refine hcs a M As _ H locs k n pc lc st hn h hP hS hL.1 hcat hk hms hd (fun v a' M' H' locs' hK hP' hS' => hv v a' M' hK C H' locs' lc hP' hS' hL) (fun x a' M' H' locs' q ce hK hP' hS' e1 e2 e3 => ?_)
  obtain ⟨r, ⟨pre, hrow, suf, j, len, t1, t2, t3, t4, t5, t6, t7, t8, ⟨ic, t9, t10⟩, t11⟩, hKr⟩ := hxx x a' M' hK
  refine vx_catch hown pre hrow suf t1 t2 t3 t4 t5 t6 e1 e2 e3 ?_
  have fin : ∀ lc' : Array Slot, X.go H' locs' (k + mc) (n + ms) (F0 X.m (hrow.handlerPc + len) lc' []) := fun lc' => lv_iconst hx hb t9 t10 (hRe H' locs' a' M' (k + mc) (n + ms) _ lc' (some (cb_i r)) hP' hS' hKr hk hms ⟨by rw [hret]; trivial, t11⟩)
  rcases t7 with ⟨rfl, jn, ej, dj⟩ | ⟨rfl, dj⟩
  · exact lv_astore_n hx hb dj ej hL.has t8 rfl (fun ls' _ => fin ls')
  · exact lv_astore hx hb dj hL.has t8 rfl (fun ls' _ => fin ls')
