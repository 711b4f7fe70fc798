/-! ===== a method behind which the addresses are others ===== -/
def cb_alk (G G' : cb_G) : Prop := G'.1 = G.1 ∧ G'.2.2 = G.2.2 ∧ ∀ t i, (t < 16 ∨ 23 < t ∨ i = 0) → G'.2.1 t i = G.2.1 t i
theorem cb_alk.refl (G : cb_G) : cb_alk G G := ⟨rfl, rfl, fun _ _ _ => rfl⟩
theorem cb_alk.trans {G G1 G2 : cb_G} (h : cb_alk G G1) (h2 : cb_alk G1 G2) : cb_alk G G2 := ⟨h2.1.trans h.1, h2.2.1.trans h.2.1, fun t i w => (h2.2.2 t i w).trans (h.2.2 t i w)⟩
theorem cb_alk.A {G G' : cb_G} (h : cb_alk G G') : G'.A = G.A := by
  unfold cb_G.A
  rw [h.1]
theorem cb_alk.gm (G : cb_G) {q : Nat} (hq : ¬ q = 0) (z : Nat) : cb_alk G (cb_gm G q z) := ⟨rfl, rfl, fun t i w => if_neg fun e => by
  have := cb_mz_iff.mp e
  omega⟩
theorem cb_K.alk {G G' : cb_G} {U : State} (h : cb_alk G G') (hK : cb_K G U) : cb_K G' U := by
  obtain ⟨s, ad, r⟩ := G
  obtain ⟨s', ad', r'⟩ := G'
  obtain ⟨e1, e2, e3⟩ := h
  have e1 : s' = s := e1
  have e2 : r' = r := e2
  subst e1 e2
  have e3 : ∀ t i, (t < 16 ∨ 23 < t ∨ i = 0) → ad' t i = ad t i := e3
  obtain ⟨h1, h2, h3, h4, h5, h6, h7, h8, h9⟩ := hK
  have e91 : (fun j => ad' 91 j) = fun j => ad 91 j := funext fun j => e3 91 j (by omega)
  have e92 : (fun j => ad' 92 j) = fun j => ad 92 j := funext fun j => e3 92 j (by omega)
  have e93 : ad' 93 0 = ad 93 0 := e3 93 0 (by omega)
  refine ⟨h1, h2, h3, h4, h5, fun q hq => ?_, ?_, h8, ?_⟩
  · show vk_R q.1 q.2.1 q.2.2.1 (ad' 91 q.2.2.2) U
    rw [e3 91 _ (by omega)]
    exact h6 q hq
  · show vk_S 8 cb_slen cb_sbyt (fun j => ad' 91 j) (fun j => ad' 92 j) _ U U.heap
    rw [e91, e92]
    exact h7
  · show _ ∨ va_Z "jdk/internal/util/Preconditions" "SIOOBE_FORMATTER" "Ljava/util/function/BiFunction;" (.ref (ad' 93 0)) _ U U.heap
    rw [e93]
    exact h9
def cb_wg (X : cb_X) (G : cb_G) : cb_X := (X.p, X.l, X.e, X.R, X.s, X.m, X.args, X.below, X.meth, X.c, G, X.Q, X.K)
def cb_Qi (G : cb_G) (K : cb_Out → cb_A → cb_M → Prop) : Array Value → State → Outcome → State → Prop := fun _ st o t => (∃ G', cb_alk G G' ∧ ∃ (v : Option cb_V) (a : cb_A) (M : cb_M), o = .returned (v.map (cb_c G'.ad)) ∧ K (.inl v) a M ∧ cb_P G' cb_tb a M t.heap) ∧ va_F G.A st t
def cb_Xi (G : cb_G) (K : cb_Out → cb_A → cb_M → Prop) : String → State → State → Prop := fun E st t => (∃ G', cb_alk G G' ∧ ∃ (x : Nat) (a : cb_A) (M : cb_M), E = cb_xn x ∧ K (.inr x) a M ∧ cb_P G' cb_tb a M t.heap) ∧ va_F G.A st t
def cb_MI (y : MethodName) (d : cb_D) (PT : cb_PT) : Prop := ∀ (l : Launch), l.stackTraces = false → ∀ (G : cb_G) (a : cb_A) (M : cb_M) (As : List cb_V) (K : cb_Out → cb_A → cb_M → Prop), PT As a M K →
  vx_Met l y [.code y d.cc d.nL d.ret] (cb_rm d) (va_Pc (As.map (cb_c G.ad)) (fun U => cb_WS cb_tb G a M U ∧ cb_AO U)) (cb_Qi G K) (cb_Xi G K) d.mc d.ms G.A
theorem cb_ofi {y : MethodName} {d : cb_D} {PT : cb_PT} (hy : plainFor y = true ∧ y.cls = d.own) (hnL : ∀ As a M K, PT As a M K → (As.flatMap fun v => if cb_lg v then [some v, none] else [some v]).length ≤ d.nL) (hret : d.ret = some .int)
    (hcs : ∀ X, cb_Bs d X → ∀ g ∈ d.ga, cb_CS cb_tb d X g) (hT : cb_noT d = true) (hbody : ∀ X As a M, PT As a M X.K → cb_AO X.s → X.l.stackTraces = false → (∀ G', cb_alk X.G G' → cb_Cx cb_tb d (cb_wg X G')) → cb_Gd cb_tb d X 0 (cb_l0 As d.nL) [] a M 0 0) : cb_MI y d PT := by
  intro l hl G a M As K hPT
  refine cb_ofW (cc := d.cc) (maxL := d.nL) (ret := d.ret) hy.1 ?_
  intro p e s m args below meth c s₁ B hml hno hPc
  obtain ⟨rfl, ⟨hs0, hK, hP⟩, hAO⟩ := hPc
  have hr := B.returns
  have hlocks := B.notSynchronized
  have hown : s.vm.findClass d.own = some m.cls := by rw [← hy.2]; exact findClass_of_methodNamed B.named
  obtain ⟨X, hX⟩ : ∃ X : cb_X, X = (p, l, e, (headSpec [Cond.code y d.cc d.nL d.ret] (cb_rm d)).room, s, m, (As.map (cb_c G.ad)).toArray, below, meth, c, G, vx_MQ below (cb_Qi G K) (cb_Xi G K) (As.map (cb_c G.ad)).toArray s d.mc d.ms G.A, K) := ⟨_, rfl⟩
  have hC : ∀ G', cb_alk X.G G' → cb_Cx cb_tb d (cb_wg X G') := by
    intro G' hG
    subst hX
    have hG : cb_alk G G' := hG
    have hB : cb_Bs d (cb_wg (p, l, e, (headSpec [Cond.code y d.cc d.nL d.ret] (cb_rm d)).room, s, m, (As.map (cb_c G.ad)).toArray, below, meth, c, G, vx_MQ below (cb_Qi G K) (cb_Xi G K) (As.map (cb_c G.ad)).toArray s d.mc d.ms G.A, K) G') := ⟨B.exec, B.bytes, hml, hown, cb_K.alk hG hK, by show G'.1 ≤ _; rw [hG.1]; exact hs0, hl, rfl, rfl, rfl, rfl⟩
    obtain ⟨b1, b2, b3, b4, b5, b6, b7, b8⟩ := id hB
    refine ⟨b1, b2, b3, b4, b5, b6, ?_, ?_, cb_Ts0 hT, hcs _ hB, b8⟩
    · intro H locs a M k n pc lc v hP hS hKv h1 h2 hv
      have hS : va_S G'.A s.heap H locs := hS
      rw [hG.A] at hS
      refine vx_ret (W.widen h1 h2 ?_)
      match v, hKv, hv with
      | none, hKv, hv =>
        have := hv.1
        rw [hret] at this
        cases this
      | some (.inl x), hKv, hv => exact W.zret B.exec B.bytes (hr.trans hret) rfl (fun t ht hW => ⟨⟨G', hG, some (cb_i x), a, M, rfl, hKv, by rw [ht]; exact hP⟩, hS.F ht⟩) (fun q hq => hS.2.2 q hq) hv.2 hlocks
      | some (.inr (.inl x)), hKv, hv =>
        have := hv.1
        rw [hret] at this
        cases this
      | some (.inr (.inr x)), hKv, hv =>
        rcases hv.1 with ⟨nm, e1⟩ | ⟨ty, e1⟩
        · rw [hret] at e1
          cases e1
        · rw [hret] at e1
          cases e1
    · intro H locs a M k n pc lc rest x q ce hP hS hKx h1 h2 e1 e2 e3
      have hS : va_S G'.A s.heap H locs := hS
      rw [hG.A] at hS
      exact vx_out (fun z hz => (hno z hz).elim) hlocks e1 e2 e3 (fun t ht hW => ⟨⟨G', hG, x, a, M, rfl, hKx, by rw [ht]; exact hP⟩, hS.F ht⟩) (fun z hz => hS.2.2 z hz) h1 h2
  have hle := lv_entry (As.map (cb_c G.ad)) (n := d.nL) (by rw [cb_len0]; exact hnL As a M K hPT)
  rw [lg_entry_eq]
  have := hbody X As a M (by subst hX; exact hPT) (by subst hX; exact hAO) (by subst hX; exact hl) hC (hC X.G (cb_alk.refl _)) s.heap [] _ (by subst hX; exact hP) (by subst hX; exact va_S.rf) (by subst hX; exact cb_l0_L As G.ad d.nL hle)
  subst hX
  exact this
/-- a reference laid into the row of the images -/
theorem cg_aast {d : cb_D} {X : cb_X} {pc : Nat} {ls : cb_Ls} {st : List cb_V} {a : cb_A} {M : cb_M} {k n q j : Nat} {x : Int32} (h24 : a.1 24 0 = true) (h16 : a.1 16 q = true) (hi : vp_in x 3) (hj : x.toNatClampNeg = j) (hd : decode d.cc pc = .ok (.aastore, 1))
    (h : cb_Gd cb_tb d X (pc + 1) ls st a (cb_sR M 24 0 j (some q)) k n) : cb_Gd cb_tb d X pc ls (cb_r 16 q :: cb_i x :: cb_r 24 0 :: st) a M k n := by
  intro C H locs lc hP hS hL
  obtain ⟨hx, hb, hml, hown, hK, -⟩ := id C
  have h0 : ¬ x < 0 := fun w => hi (Or.inl w)
  have hlt : x.toNatClampNeg < 3 := Nat.not_le.mp fun w => hi (Or.inr w)
  obtain ⟨c1, c2⟩ := cb_1arr C hP h24 (kd := 4) rfl (by omega)
  obtain ⟨r, hr, cellV, g1, g2, g3, -⟩ := ((hP.1 16 q h16).1).obj rfl
  have hcl : cb_cl[3]? = some (RX3, TX3, 8) := rfl
  obtain ⟨hSl, hfc, kC, hkC, hkind⟩ := hK.2.2.1 3 _ hcl
  obtain ⟨kA, comp, k1, k2, k3, -⟩ := (hK.2.2.2.1 5 (by omega) (by omega)).2
  have hcomp : comp = X.G.dC 3 := Option.some.inj (k3.symm.trans hfc)
  subst hcomp
  have g2 : cellV.cls = X.G.dC 3 := g2
  subst hj
  refine W.aast hx hb c1 (fun q h => by cases h) (fun h => by cases h) k1 k2 rfl hkC ⟨h0, by show _ < (arrV _ _ _).slots.size; rw [arrV_size]; exact hlt⟩ g1 (fun q h => by rw [g3] at h; cases h) (by rw [g2]; exact hkC) (by rw [g2]; exact va_assign ⟨hfc, kC, hkC, hkind⟩) rfl rfl hd fun H' e1 e2 e3 => ?_
  have hs : cb_st cb_tb M 24 0 x.toNatClampNeg (cb_r 16 q) = some (cb_sR M 24 0 x.toNatClampNeg (some q)) := rfl
  obtain ⟨hP', hS'⟩ := cb_1st hP hS h24 (kd := 4) rfl hs rfl e1 e2 e3
  exact h C H' _ lc hP' hS' hL
