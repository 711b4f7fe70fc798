/-! ===== the law calls image ===== -/
def cb_sf (v : cb_V) : Bool := match v with
  | .inr (.inr (some (t, _))) => Nat.blt t 16 || Nat.blt 23 t
  | _ => true
theorem cb_sf_c {G G' : cb_G} (h : cb_alk G G') {v : cb_V} (hv : cb_sf v = true) : cb_c G'.ad v = cb_c G.ad v := by
  match v, hv with
  | .inl x, _ => rfl
  | .inr (.inl x), _ => rfl
  | .inr (.inr none), _ => rfl
  | .inr (.inr (some (t, i))), hv =>
    have hv : (Nat.blt t 16 || Nat.blt 23 t) = true := hv
    rw [Bool.or_eq_true, Nat.blt_eq, Nat.blt_eq] at hv
    exact congrArg Value.ref (h.2.2 t i (by omega))
theorem cb_sf_cs {G G' : cb_G} (h : cb_alk G G') : ∀ {st : List cb_V}, st.all cb_sf = true → cb_cs G'.ad st = cb_cs G.ad st
  | [], _ => rfl
  | v :: st, hv => by
    rw [List.all_cons, Bool.and_eq_true] at hv
    show cb_c G'.ad v :: cb_cs G'.ad st = cb_c G.ad v :: cb_cs G.ad st
    rw [cb_sf_c h hv.1, cb_sf_cs h hv.2]
theorem cb_sf_L {G G' : cb_G} (h : cb_alk G G') {lc : Array Slot} {nL : Nat} {ls : cb_Ls} (hl : (ls.all fun v => match v with | some v => cb_sf v | none => true) = true) (hL : cb_L G.ad lc nL ls) : cb_L G'.ad lc nL ls := ⟨hL.1, hL.2.1, fun i v hi => by
  have hv : cb_sf v = true := List.all_eq_true.mp hl (some v) (List.mem_of_getElem? hi)
  rw [cb_sf_c h hv]
  exact hL.2.2 i v hi⟩
theorem cl_img {d : cb_D} {X : cb_X} {pc : Nat} {ls : cb_Ls} {st : List cb_V} {a : cb_A} {M : cb_M} {k n idx : Nat} (hCC : ∀ G', cb_alk X.G G' → cb_Cx cb_tb d (cb_wg X G')) (hE : cb_AO X.s) (hl0 : X.l.stackTraces = false) (hl : Cond.methodLink d.own idx yX9_image ∈ lw_tbl) (hin : Cond.instanceMethod yX9_image ∈ lw_tbl) (hse : Cond.selects RX9 yX9_image yX9_image ∈ lw_tbl) (hR : 3 ≤ d.fr ∧ 102 ≤ d.lo) (hcat : cb_cat st ≤ 8) (hk : k + 8 ≤ d.mc) (hms : n + 3252 ≤ d.ms) (hdg : decode d.cc pc = .ok (.invokevirtual idx, 3)) (hsf : st.all cb_sf = true) (hlf : (ls.all fun v => match v with | some v => cb_sf v | none => true) = true)
    {K : cb_Out → cb_A → cb_M → Prop} (hKx : ∀ x a M, ¬ K (.inr x) a M) (hPT : pt_X9_image [cb_r 0 0] a M K) (h : ∀ G', cb_alk X.G G' → ∀ x a' M', K (.inl (some (cb_i x))) a' M' → cb_Gd cb_tb d (cb_wg X G') (pc + 3) ls (cb_i x :: st) a' M' (k + 8) (n + 3252)) (hKi : ∀ v a M, K (.inl v) a M → ∃ x, v = some (cb_i x)) : cb_Gd cb_tb d X pc ls (cb_r 0 0 :: st) a M k n := by
  intro C H locs lc hP hS hL
  obtain ⟨hx, hb, hml, hown, hK, hs0, -, -, -, -, hR1, hR2, hR3, hR4⟩ := id C
  obtain ⟨-, m, f, c, d0, rfl, -⟩ := id hPT
  have ha : cb_aS m 0 0 = true := rfl
  have hM' := vx_toMet (ok_X9_image X.l hl0 X.G (cb_aS m, f) M [cb_r 0 0] K hPT) (fun E st t h => by
    obtain ⟨⟨G', -, x, a', M', -, hK', -⟩, -⟩ := h
    exact hKx _ _ _ hK')
  obtain ⟨rr, h1, cell, q1, q2, q3, -⟩ := ((hP.1 0 0 ha).1).obj rfl
  have hq : cb_cl[9]? = some (RX9, TX9, 15) := rfl
  have q2 : cell.cls = X.G.dC 9 := q2
  have hrun : va_Run X.p X.l X.e X.R X.s X.m X.args X.below X.meth X.c H locs k n 8 3252 (F0 X.m pc lc (cb_cs X.G.ad (cb_r 0 0 :: st))) (cb_cs X.G.ad st) (cb_Qi X.G K (Value.ref (X.G.ad 0 0) :: []).toArray) X.G.A :=
    va_runV (cc := d.cc) (own := d.own) (Ts := []) (C := RX9) (bytes := cX9_image) (maxL := 2) (nL := d.nL) (ret := some .int) (index := idx) (b := X.G.ad 0 0) (As := []) (n := 0) (rest := cb_cs X.G.ad st) ⟨hx, hb, hml, hown, fun _ h => nomatch h⟩ hM'
      ⟨⟨rfl, rfl, by rw [hR1]; exact hR.1, by rw [hR4]; exact hR.2, cb_wcode (U := X.s) hK wd_X9_image, List.mem_singleton.mpr rfl, hK.1 _ wd_X9_image.1 rfl _, hK.1 _ wd_X9_image.2.1 rfl _, wd_X9_image.2.2, fun sig hs => by
        have : (parseMethodDescriptor yX9_image.desc).map (fun d => d.parameters.length) = some 0 := by decide +kernel
        rw [hs] at this
        exact (Option.some.inj this).symm, hK.1 _ hl rfl _⟩, hK.1 _ hin rfl _, hK.1 _ hse rfl _⟩
      ⟨by
        intro v U g mk h
        obtain ⟨h1, ⟨h2, h3, h4⟩, h5⟩ := h
        exact ⟨h1, ⟨h2, cb_K.moved (s := U) (U := U.calling g mk v) (State.WarmedH.refl U) (fun _ _ _ => rfl) h3, h4⟩, cb_AO.moved (u := U) (U := U.calling g mk v) (State.WarmedH.refl U).alike h5⟩, ⟨cell, q1, by rw [q3]; rfl, by rw [q2]; exact (hK.2.2.1 9 _ hq).2.1⟩, fun U hU hW => ⟨rfl, ⟨by rw [hU]; exact Nat.le_trans hs0 hS.1, cb_K.moved hW (fun q h1 h2 => by rw [hU]; exact hS.2.1 q h1 h2) hK, by rw [hU]; exact hP⟩, cb_AO.moved hW.alike hE⟩⟩ rfl rfl hL.1 rfl (by
        have := cb_cat_sum X.G.ad st
        have e0 : 2 * (F0 X.m pc lc (cb_cs X.G.ad (cb_r 0 0 :: st))).monitorRoom = 0 := rfl
        rw [e0, this]
        omega) hdg ⟨by rw [hR2]; exact hk, by rw [hR3]; exact hms⟩
  intro T hT Y
  obtain ⟨v, st₀, t, T', L', h0, X', hL', e1, e2, ⟨⟨G', hG, v', a', M', hv, hK', hP'⟩, hF⟩, stp⟩ := hrun T hT Y
  obtain ⟨k1, k2, k3⟩ := vx_keep h0 e1 hS (fun _ _ h => h) (fun _ h => h) hL' hF
  obtain ⟨x, rfl⟩ := hKi _ _ _ hK'
  have ev : v = some (.int x) := by
    have := hv
    injection this
  subst ev
  obtain ⟨t2, a1, b1⟩ := h G' hG x a' M' hK' (hCC G' hG) T'.heap (locs ++ L') lc (by rw [e1]; exact hP') (by show va_S G'.A _ _ _; rw [hG.A]; exact k3) (cb_sf_L hG hlf hL) T' rfl X'
  refine ⟨t2, stp t2 ?_, b1⟩
  have es : cb_cs (cb_wg X G').G.ad (cb_i x :: st) = .int x :: cb_cs X.G.ad st := by
    show Value.int x :: cb_cs G'.ad st = _
    rw [cb_sf_cs hG hsf]
  rw [es] at a1
  exact a1
