/-! ===== constructors: their contracts, their calls ===== -/
/-- the contract of a method that makes things: it sees where they will lie -/
def cb_MG (y : MethodName) (d : cb_D) (PT : cb_G → cb_PT) : Prop := ∀ (l : Launch), l.stackTraces = false → ∀ (G : cb_G) (a : cb_A) (M : cb_M) (As : List cb_V) (K : cb_Out → cb_A → cb_M → Prop), PT G As a M K →
  vx_Met l y [.code y d.cc d.nL d.ret] (cb_rm d) (va_Pc (As.map (cb_c G.ad)) (fun U => cb_WS cb_sd G a M U ∧ cb_AO U)) (cb_Qc cb_sd G K) (cb_XC cb_sd G K) d.mc d.ms G.A
theorem cb_WSg.blind {G : cb_G} {a : cb_A} {M : cb_M} {av : List Value} : FrameBlind (va_Pc av (fun U => cb_WS cb_sd G a M U ∧ cb_AO U)) := by
  intro v U g mk h
  obtain ⟨h1, ⟨h2, h3, h4⟩, h5⟩ := h
  exact ⟨h1, ⟨h2, cb_K.moved (s := U) (U := U.calling g mk v) (State.WarmedH.refl U) (fun _ _ _ => rfl) h3, h4⟩, cb_AO.moved (u := U) (U := U.calling g mk v) (State.WarmedH.refl U).alike h5⟩
theorem cb_ofg {y : MethodName} {d : cb_D} {PT : cb_G → cb_PT} (hy : plainFor y = true ∧ y.cls = d.own) (hnL : ∀ G As a M K, PT G As a M K → (As.flatMap fun v => if cb_lg v then [some v, none] else [some v]).length ≤ d.nL)
    (hga : d.ga = []) (hT : cb_noT d = true) (hbody : ∀ X As a M, PT X.G As a M X.K → cb_AO X.s → X.l.stackTraces = false → X.meth.name = y.name → cb_Gd cb_sd d X 0 (cb_l0 As d.nL) [] a M 0 0) : cb_MG y d PT := by
  intro l hl G a M As K hPT
  refine cb_ofW (cc := d.cc) (maxL := d.nL) (ret := d.ret) hy.1 ?_
  intro p e s m args below meth c s₁ B hml hno hPc
  obtain ⟨rfl, ⟨hs0, hK, hP⟩, hAO⟩ := hPc
  have hnm : meth.name = y.name := (name_of_methodNamed B.named B.method).1
  have hr := B.returns
  have hlocks := B.notSynchronized
  have hown : s.vm.findClass d.own = some m.cls := by rw [← hy.2]; exact findClass_of_methodNamed B.named
  obtain ⟨X, hX⟩ : ∃ X : cb_X, X = (p, l, e, (headSpec [Cond.code y d.cc d.nL d.ret] (cb_rm d)).room, s, m, (As.map (cb_c G.ad)).toArray, below, meth, c, G, vx_MQ below (cb_Qc cb_sd G K) (cb_XC cb_sd G K) (As.map (cb_c G.ad)).toArray s d.mc d.ms G.A, K) := ⟨_, rfl⟩
  have hB : cb_Bs d X := by
    subst hX
    exact ⟨B.exec, B.bytes, hml, hown, hK, hs0, hl, rfl, rfl, rfl, rfl⟩
  have hC : cb_Cx cb_sd d X := by
    obtain ⟨b1, b2, b3, b4, b5, b6, b7, b8⟩ := id hB
    refine ⟨b1, b2, b3, b4, b5, b6, ?_, ?_, cb_Ts0 hT, (fun g hg => by rw [hga] at hg; cases hg), b8⟩
    · subst hX
      intro H locs a M k n pc lc v hP hS hKv h1 h2 hv
      refine vx_ret (W.widen h1 h2 ?_)
      match v, hKv, hv with
      | none, hKv, hv =>
        exact W.vret B.exec B.bytes (by rw [hr]; exact hv.1) (fun t ht hW => ⟨⟨none, a, M, rfl, hKv, by rw [ht]; exact hP⟩, hS.F ht⟩) (fun q hq => hS.2.2 q hq) hv.2 hlocks
      | some (.inl x), hKv, hv =>
        have hv1 := hv.1
        unfold cb_rv at hv1
        split at hv1
        · rename_i e1
          exact W.zret B.exec B.bytes (by rw [hr]; exact e1) rfl (fun t ht hW => ⟨⟨some (cb_i x), a, M, rfl, hKv, by rw [ht]; exact hP⟩, hS.F ht⟩) (fun q hq => hS.2.2 q hq) hv.2 hlocks
        · rename_i e1
          exact W.zret B.exec B.bytes (by rw [hr]; exact e1) (by rcases hv1 with rfl | rfl <;> rfl) (fun t ht hW => ⟨⟨some (cb_i x), a, M, rfl, hKv, by rw [ht]; exact hP⟩, hS.F ht⟩) (fun q hq => hS.2.2 q hq) hv.2 hlocks
        · rename_i e1
          exact W.zret B.exec B.bytes (by rw [hr]; exact e1) (show narrow .byte (.int x) = .int x from congrArg Value.int hv1) (fun t ht hW => ⟨⟨some (cb_i x), a, M, rfl, hKv, by rw [ht]; exact hP⟩, hS.F ht⟩) (fun q hq => hS.2.2 q hq) hv.2 hlocks
        · rename_i e1
          exact W.zret B.exec B.bytes (by rw [hr]; exact e1) (show narrow .char (.int x) = .int x from congrArg Value.int hv1) (fun t ht hW => ⟨⟨some (cb_i x), a, M, rfl, hKv, by rw [ht]; exact hP⟩, hS.F ht⟩) (fun q hq => hS.2.2 q hq) hv.2 hlocks
        · exact hv1.elim
      | some (.inr (.inl x)), hKv, hv =>
        exact W.lret B.exec B.bytes (by rw [hr]; exact hv.1) (fun t ht hW => ⟨⟨some (cb_l x), a, M, rfl, hKv, by rw [ht]; exact hP⟩, hS.F ht⟩) (fun q hq => hS.2.2 q hq) hv.2 hlocks
      | some (.inr (.inr x)), hKv, hv =>
        rcases hv.1 with ⟨nm, e1⟩ | ⟨ty, e1⟩
        · exact W.aret (v := cb_c G.ad (.inr (.inr x))) B.exec B.bytes (by rw [hr]; exact e1) (Or.inl ⟨_, rfl⟩) (by match x with | none => exact Or.inl rfl | some (t, i) => exact Or.inr ⟨_, rfl⟩) (fun t ht hW => ⟨⟨some (.inr (.inr x)), a, M, rfl, hKv, by rw [ht]; exact hP⟩, hS.F ht⟩) (fun q hq => hS.2.2 q hq) hv.2 hlocks
        · exact W.aret (v := cb_c G.ad (.inr (.inr x))) B.exec B.bytes (by rw [hr]; exact e1) (Or.inr ⟨_, rfl⟩) (by match x with | none => exact Or.inl rfl | some (t, i) => exact Or.inr ⟨_, rfl⟩) (fun t ht hW => ⟨⟨some (.inr (.inr x)), a, M, rfl, hKv, by rw [ht]; exact hP⟩, hS.F ht⟩) (fun q hq => hS.2.2 q hq) hv.2 hlocks
    · subst hX
      intro H locs a M k n pc lc rest x q ce hP hS hKx h1 h2 e1 e2 e3
      exact vx_out (fun z hz => (hno z hz).elim) hlocks e1 e2 e3 (fun t ht hW => ⟨⟨x, a, M, rfl, hKx, by rw [ht]; exact hP⟩, hS.F ht⟩) (fun z hz => hS.2.2 z hz) h1 h2
  have hle := lv_entry (As.map (cb_c G.ad)) (n := d.nL) (by rw [cb_len0]; exact hnL G As a M K hPT)
  rw [lg_entry_eq]
  have := hbody X As a M (by subst hX; exact hPT) (by subst hX; exact hAO) (by subst hX; exact hl) (by subst hX; exact hnm) hC s.heap [] _ (by subst hX; exact hP) (by subst hX; exact va_S.rf) (by subst hX; exact cb_l0_L As G.ad d.nL hle)
  subst hX
  exact this
theorem vx_toMet {l : Launch} {y : MethodName} {ws : List Cond} {rm : Room} {Pc : Array Value → State → Prop} {Qc : Array Value → State → Outcome → State → Prop} {XC : String → State → State → Prop} {mc ms : Nat} {free : Addr → Prop} (h : vx_Met l y ws rm Pc Qc XC mc ms free) (hx : ∀ E st t, ¬ XC E st t) : Met l y ws rm Pc Qc mc ms free := by
  intro p e ha hc hk s m args below hf hap hP hT
  obtain ⟨n, o, h1, h2, h3, hQ⟩ := h p e ha hc hk s m args below hf hap hP hT
  refine ⟨n, o, h1, h2, h3, ?_⟩
  rcases hQ with hQ | ⟨q, -, E, ce, L, hX, -⟩
  · exact hQ
  · exact absurd hX (hx _ _ _)
/-- a constructor is run: at the machine, by any table's end -/
theorem cg_init {d : cb_D} {X : cb_X} {y : MethodName} {dy : cb_D} {PG : cb_G → cb_PT} {G : cb_G} (hG : G.1 = X.G.1) (hx : X.p.tables.exec = Jvm.exec) (hb : X.c.code = d.cc) (hml : X.c.maxLocals = d.nL) (hown : X.s.vm.findClass d.own = some X.m.cls) (hK : cb_K G X.s) (hs0 : X.G.1 ≤ X.s.heap.size) (hR1 : X.R.frames = d.fr) (hR2 : X.R.cells = d.mc) (hR3 : X.R.slots = d.ms) (hR4 : X.R.locals = d.lo)
    (hM : cb_MG y dy PG) (hl0 : X.l.stackTraces = false) (hE : cb_AO X.s) (hname : y.name = "<init>") (hret : dy.ret = none) (hw : cb_wd y dy) {idx na : Nat} (hl : Cond.methodLink d.own idx y ∈ lw_tbl ∨ ∃ host, Cond.methodLinkNest d.own idx y host ∈ lw_tbl) (hin : Cond.instanceMethod y ∈ lw_tbl) (hR : dy.fr + 1 ≤ d.fr ∧ 8 + (dy.nL + 11) + dy.lo ≤ d.lo) (hd : (parseMethodDescriptor y.desc).map (fun d => d.parameters.length) = some na)
    {t i : Nat} {r : List cb_V} (hn : r.length = na) {a : cb_A} {M : cb_M} {K : cb_A → cb_M → Prop} (hPG : PG G (cb_r t i :: r) a M (fun o a' M' => match o with | .inl none => K a' M' | _ => False)) {H : Heap} {locs : List Loc} {k n pc : Nat} {lc : Array Slot} {rest : List Value} (hP : cb_P G cb_sd a M H) (hS : X.fm H locs) (hsz : lc.size = d.nL) (hcat : (rest.map fun v => v.category).sum ≤ 8) (hk : k + dy.mc ≤ d.mc) (hms : n + dy.ms ≤ d.ms) (hdg : decode d.cc pc = .ok (.invokespecial idx, 3))
    (kk : ∀ a' M' H' locs', K a' M' → cb_P G cb_sd a' M' H' → X.fm H' locs' → X.go H' locs' (k + dy.mc) (n + dy.ms) (F0 X.m (pc + 3) lc rest)) : X.go H locs k n (F0 X.m pc lc ((cb_cs G.ad r).reverse ++ .ref (G.ad t i) :: rest)) := by
  have hM' := vx_toMet (hM X.l hl0 G a M (cb_r t i :: r) _ hPG) (fun E st t h => by
    obtain ⟨⟨x, a', M', -, hK', -⟩, -⟩ := h
    exact hK')
  have hA : G.A = X.G.A := by
    unfold cb_G.A
    rw [hG]
  have pre : PreS X.s H (va_Pc ((cb_r t i :: r).map (cb_c G.ad)) (fun U => cb_WS cb_sd G a M U ∧ cb_AO U)) (.ref (G.ad t i) :: cb_cs G.ad r) := ⟨cb_WSg.blind, fun U hU hW => ⟨rfl, ⟨by rw [hU, hG]; exact Nat.le_trans hs0 hS.1, cb_K.moved hW (fun q h1 h2 => by rw [hU]; exact hS.2.1 q h1 (by rw [← hA]; exact h2)) hK, by rw [hU]; exact hP⟩, cb_AO.moved hW.alike hE⟩⟩
  have hlen : ∀ sig, parseMethodDescriptor y.desc = some sig → (cb_cs G.ad r).length = sig.parameters.length := fun sig hs => by
    rw [hs] at hd
    have hd : sig.parameters.length = na := Option.some.inj hd
    unfold cb_cs
    rw [List.length_map]
    omega
  have hmon : 2 * (F0 X.m pc lc ((cb_cs G.ad r).reverse ++ .ref (G.ad t i) :: rest)).monitorRoom + (rest.map fun v => v.category).sum ≤ 8 := by
    have e0 : 2 * (F0 X.m pc lc ((cb_cs G.ad r).reverse ++ .ref (G.ad t i) :: rest)).monitorRoom = 0 := rfl
    rw [e0]
    omega
  have hrun : va_Run X.p X.l X.e X.R X.s X.m X.args X.below X.meth X.c H locs k n dy.mc dy.ms (F0 X.m pc lc ((cb_cs G.ad r).reverse ++ .ref (G.ad t i) :: rest)) rest (cb_Qc cb_sd G (fun o a' M' => match o with | .inl none => K a' M' | _ => False) (Value.ref (G.ad t i) :: cb_cs G.ad r).toArray) G.A := by
    rcases hl with hl | ⟨host, hl⟩
    · exact va_runI (cc := d.cc) (own := d.own) (Ts := []) (bytes := dy.cc) (maxL := dy.nL) (nL := d.nL) (index := idx) (As := cb_cs G.ad r) (n := (cb_cs G.ad r).length) (rest := rest) ⟨hx, hb, hml, hown, fun _ h => nomatch h⟩ hM' ⟨⟨rfl, rfl, by rw [hR1]; exact hR.1, by rw [hR4]; exact hR.2, cb_wcode (U := X.s) hK hw, List.mem_singleton.mpr (by rw [hret]), by rw [← hret]; exact hK.1 _ hw.1 rfl _, hK.1 _ hw.2.1 rfl _, hw.2.2, hlen, hK.1 _ hl rfl _⟩, hname, hK.1 _ hin rfl _⟩ pre rfl rfl hsz rfl hmon hdg ⟨by rw [hR2]; exact hk, by rw [hR3]; exact hms⟩
    · exact va_runIN (cc := d.cc) (own := d.own) (host := host) (Ts := []) (bytes := dy.cc) (maxL := dy.nL) (nL := d.nL) (index := idx) (As := cb_cs G.ad r) (n := (cb_cs G.ad r).length) (rest := rest) ⟨hx, hb, hml, hown, fun _ h => nomatch h⟩ hM' ⟨⟨⟨rfl, rfl, by rw [hR1]; exact hR.1, by rw [hR4]; exact hR.2, cb_wcode (U := X.s) hK hw, List.mem_singleton.mpr (by rw [hret])⟩, by rw [← hret]; exact hK.1 _ hw.1 rfl _, hK.1 _ hw.2.1 rfl _, hw.2.2, hlen, va_Nw.use rfl (hK.2.1 _ hl rfl)⟩, hname, hK.1 _ hin rfl _⟩ pre rfl rfl hsz rfl hmon hdg ⟨by rw [hR2]; exact hk, by rw [hR3]; exact hms⟩
  intro T hT Y
  obtain ⟨v, st₀, t9, T', L, h0, X', hL, e1, e2, ⟨⟨v', a', M', hv, hK', hP'⟩, hF⟩, st⟩ := hrun T hT Y
  obtain ⟨k1, k2, k3⟩ := vx_keep h0 e1 hS (A1 := G.A) (free := G.A) (fun _ _ h => by rw [← hA]; exact h) (fun _ h => by rw [← hA]; exact h) hL hF
  match v', hv, hK' with
  | none, hv, hK' =>
    obtain ⟨t2, a1, b1⟩ := kk a' M' T'.heap (locs ++ L) hK' (by rw [e1]; exact hP') k3 T' rfl X'
    have ev : v = none := by
      have := hv
      injection this
    subst ev
    exact ⟨t2, st t2 a1, b1⟩
  | some w, hv, hK' => exact hK'.elim
theorem ct_init {d : cb_D} {X : cb_X} {pc : Nat} {ls : cb_Ls} {st : List cb_V} {a : cb_A} {M : cb_M} {k n : Nat} {y : MethodName} {dy : cb_D} {PG : cb_G → cb_PT} (hM : cb_MG y dy PG) (hl0 : X.l.stackTraces = false) (hE : cb_AO X.s) (hname : y.name = "<init>") (hret : dy.ret = none) (hw : cb_wd y dy) {idx na : Nat} (hl : Cond.methodLink d.own idx y ∈ lw_tbl ∨ ∃ host, Cond.methodLinkNest d.own idx y host ∈ lw_tbl) (hin : Cond.instanceMethod y ∈ lw_tbl) (hR : dy.fr + 1 ≤ d.fr ∧ 8 + (dy.nL + 11) + dy.lo ≤ d.lo) (hd : (parseMethodDescriptor y.desc).map (fun d => d.parameters.length) = some na)
    {t i : Nat} {r : List cb_V} (hn : r.length = na) (hcat : cb_cat st ≤ 8) (hk : k + dy.mc ≤ d.mc) (hms : n + dy.ms ≤ d.ms) (hdg : decode d.cc pc = .ok (.invokespecial idx, 3))
    (h : PG X.G (cb_r t i :: r) a M (fun o a' M' => match o with | .inl none => cb_Gd cb_sd d X (pc + 3) ls st a' M' (k + dy.mc) (n + dy.ms) | _ => False)) : cb_Gd cb_sd d X pc ls (r.reverse ++ cb_r t i :: st) a M k n := by
  intro C H locs lc hP hS hL
  obtain ⟨hx, hb, hml, hown, hK, hs0, -, -, -, -, hR1, hR2, hR3, hR4⟩ := id C
  have := cg_init (G := X.G) (K := fun a' M' => cb_Gd cb_sd d X (pc + 3) ls st a' M' (k + dy.mc) (n + dy.ms)) rfl hx hb hml hown hK hs0 hR1 hR2 hR3 hR4 hM hl0 hE hname hret hw hl hin hR hd hn (t := t) (i := i) h hP hS (lc := lc) (rest := cb_cs X.G.ad st) hL.1 (by rw [cb_cat_sum]; exact hcat) hk hms hdg (fun a' M' H' locs' hG hP' hS' => hG C H' locs' lc hP' hS' hL)
  have e : cb_cs X.G.ad (r.reverse ++ cb_r t i :: st) = (cb_cs X.G.ad r).reverse ++ .ref (X.G.ad t i) :: cb_cs X.G.ad st := by simp [cb_cs, cb_c]
  rw [e]
  exact this
