/-! ===== the law: its script, its helpers ===== -/
/-- the script lies outside: its address is that of 94 -/
def cl_X (L : Nat) (xs : Nat → Int32) (X : cb_X) : Prop := va_X (X.G.ad 94 0) L xs X.s X.s.heap ∧ X.G.ad 94 0 < X.s.heap.size ∧ ¬ X.G.A (X.G.ad 94 0)
theorem cl_X.at {L : Nat} {xs : Nat → Int32} {X : cb_X} (h : cl_X L xs X) {H : Heap} {locs : List Loc} (hS : X.fm H locs) : va_X (X.G.ad 94 0) L xs X.s H := h.1.kept (hS.2.1 _ h.2.1 h.2.2)
section LAW
variable {d : cb_D} {X : cb_X} {pc : Nat} {ls : cb_Ls} {st : List cb_V} {a : cb_A} {M : cb_M} {k n L : Nat} {xs : Nat → Int32}
theorem cl_ald (hX : cl_X L xs X) {x : Int32} (hi : vp_in x L) (hd : decode d.cc pc = .ok (.iaload, 1)) (h : cb_Gd cb_tb d X (pc + 1) ls (cb_i (xs x.toNatClampNeg) :: st) a M k n) : cb_Gd cb_tb d X pc ls (cb_i x :: cb_r 94 0 :: st) a M k n := by
  intro C H locs lc hP hS hL
  obtain ⟨hx, hb, -⟩ := id C
  obtain ⟨scr, h1, h2, h3, h4, h5⟩ := hX.at hS
  have hlt : x.toNatClampNeg < L := Nat.not_le.mp fun w => hi (Or.inr w)
  exact W.iald hx hb h1 h2 h3 (by rw [h4]; exact hi) (h5 _ hlt) rfl rfl hd (h C H locs lc hP hS hL)
theorem cl_len (hX : cl_X L xs X) (hd : decode d.cc pc = .ok (.arraylength, 1)) (h : cb_Gd cb_tb d X (pc + 1) ls (cb_i (nI L) :: st) a M k n) : cb_Gd cb_tb d X pc ls (cb_r 94 0 :: st) a M k n := by
  intro C H locs lc hP hS hL
  obtain ⟨hx, hb, -⟩ := id C
  obtain ⟨scr, h1, h2, h3, h4, h5⟩ := hX.at hS
  exact W.alen hx hb h1 h2 (by rw [h4]; rfl) rfl rfl hd (h C H locs lc hP hS hL)
/-- a helper is called -/
theorem cl_help {y : MethodName} {dy : cb_D} {hh : List (Nat × Nat × Nat × Nat)} {PT : cb_PT} (hM : cb_MC y dy hh PT) (hl0 : X.l.stackTraces = false) (hN : cb_NC X.s) (hw : Cond.codeWith y dy.cc dy.nL dy.ret hh ∈ lw_tbl) (hg : goodWord (Cond.codeWith y dy.cc dy.nL dy.ret hh) = true) (hini : Cond.initialized y.cls ∈ lw_tbl) (hy : y.cls ≠ "java/lang/invoke/MethodHandle" ∧ y.cls ≠ "java/lang/invoke/VarHandle") {idx na : Nat} (hl : Cond.methodLink d.own idx y ∈ lw_tbl) (hst : Cond.static y ∈ lw_tbl) (hR : dy.fr + 1 ≤ d.fr ∧ 8 + (dy.nL + 11) + dy.lo ≤ d.lo) (hd : (parseMethodDescriptor y.desc).map (fun d => d.parameters.length) = some na)
    {As : List cb_V} (hn : As.length = na) (hcat : cb_cat st ≤ 8) (hk : k + dy.mc ≤ d.mc) (hms : n + dy.ms ≤ d.ms) (hdg : decode d.cc pc = .ok (.invokestatic idx, 3)) {K : cb_Out → cb_A → cb_M → Prop} (hKx : ∀ x a M, ¬ K (.inr x) a M) (hPT : PT As a M K)
    (h : ∀ v a' M', K (.inl v) a' M' → cb_Gd cb_tb d X (pc + 3) ls (v.toList ++ st) a' M' (k + dy.mc) (n + dy.ms)) : cb_Gd cb_tb d X pc ls (As.reverse ++ st) a M k n := by
  intro C H locs lc hP hS hL
  obtain ⟨hx, hb, hml, hown, hK, hs0, -, -, -, -, hR1, hR2, hR3, hR4⟩ := id C
  have hM' := hM X.l hl0 X.G a M As K hKx hPT
  have hlen : ∀ sig, parseMethodDescriptor y.desc = some sig → As.length = sig.parameters.length := fun sig hs => by
    rw [hs] at hd
    have hd : sig.parameters.length = na := Option.some.inj hd
    omega
  have hrun : va_Run X.p X.l X.e X.R X.s X.m X.args X.below X.meth X.c H locs k n dy.mc dy.ms (F0 X.m pc lc (cb_cs X.G.ad (As.reverse ++ st))) (cb_cs X.G.ad st) (cb_Qc cb_tb X.G K (cb_cs X.G.ad As).toArray) X.G.A :=
    vx_runSW (cc := d.cc) (own := d.own) (Ts := []) (bytes := dy.cc) (maxL := dy.nL) (nL := d.nL) (ret := dy.ret) (hh := hh) (index := idx) (As := cb_cs X.G.ad As) (n := As.length) (rest := cb_cs X.G.ad st) ⟨hx, hb, hml, hown, fun _ h => nomatch h⟩ hM'
      ⟨⟨rfl, rfl, by rw [hR1]; exact hR.1, by rw [hR4]; exact hR.2, fun w hw' a' U hW => by
        cases List.mem_singleton.mp hw'
        exact word_at hW (good_of_word hg) (hK.1 _ hw hg #[]), List.mem_singleton.mpr rfl⟩, hK.1 _ hw hg _, hK.1 _ hini rfl _, hy, hlen, hK.1 _ hl rfl _, hK.1 _ hst rfl _⟩
      ⟨cb_WSc.blind, fun U hU hW => ⟨rfl, ⟨by rw [hU]; exact Nat.le_trans hs0 hS.1, cb_K.moved hW (fun q h1 h2 => by rw [hU]; exact hS.2.1 q h1 h2) hK, by rw [hU]; exact hP⟩, va_Nc.moved hW.alike hN⟩⟩ rfl (by simp) hL.1 (by simp [cb_cs]) (by
        have := cb_cat_sum X.G.ad st
        have e0 : 2 * (F0 X.m pc lc (cb_cs X.G.ad (As.reverse ++ st))).monitorRoom = 0 := rfl
        rw [e0, this]
        omega) hdg ⟨by rw [hR2]; exact hk, by rw [hR3]; exact hms⟩
  intro T hT Y
  obtain ⟨v, st₀, t, T', L', h0, X', hL', e1, e2, ⟨⟨v', a', M', hv, hK', hP'⟩, hF⟩, stp⟩ := hrun T hT Y
  obtain ⟨k1, k2, k3⟩ := vx_keep h0 e1 hS (fun _ _ h => h) (fun _ h => h) hL' hF
  obtain ⟨t2, a1, b1⟩ := h v' a' M' hK' C T'.heap (locs ++ L') lc (by rw [e1]; exact hP') k3 hL T' rfl X'
  have ev : v = v'.map (cb_c X.G.ad) := by
    have := hv
    injection this
  refine ⟨t2, stp t2 ?_, b1⟩
  subst ev
  cases v' with
  | none => exact a1
  | some w => exact a1
end LAW
