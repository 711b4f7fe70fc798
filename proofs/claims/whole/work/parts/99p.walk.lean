/-! ===== the law's walk: its cases ===== -/
abbrev lw_0 : cb_D := lw_D [] []
abbrev lw_l (iv : Int32) : cb_Ls := [some (cb_r 94 0), some (cb_r 0 0), some (cb_r 46 0), some (cb_r 90 0), some (cb_i iv), none, none]
/-- what is known of the law's walk, at whatever addresses -/
def lw_E (L : Nat) (xs : Nat → Int32) (X : cb_X) : Prop := cl_X L xs X ∧ X.l.stackTraces = false ∧ cb_NC X.s ∧ cb_AO X.s ∧ (∀ G', cb_alk X.G G' → cb_Cx cb_tb lw_0 (cb_wg X G')) ∧ X.K = lw_K
theorem lw_E.cx {L : Nat} {xs : Nat → Int32} {X : cb_X} (E : lw_E L xs X) (cd : List cb_O) (sw : List (Nat × List (Int32 × Nat) × Nat)) (hT : cb_noT (lw_D cd sw) = true) : ∀ G', cb_alk X.G G' → cb_Cx cb_tb (lw_D cd sw) (cb_wg X G') := fun G' hG => by
  obtain ⟨c1, c2, c3, c4, c5, c6, c7, c8, -, c10, c11⟩ := E.2.2.2.2.1 G' hG
  exact ⟨c1, c2, c3, c4, c5, c6, c7, c8, cb_Ts0 hT, c10, c11⟩
theorem lw_E.bs {L : Nat} {xs : Nat → Int32} {X : cb_X} (E : lw_E L xs X) (cd : List cb_O) (sw : List (Nat × List (Int32 × Nat) × Nat)) : cb_Bs (lw_D cd sw) X := by
  obtain ⟨c1, c2, c3, c4, c5, c6, -, -, -, -, c11⟩ := E.2.2.2.2.1 X.G (cb_alk.refl _)
  exact ⟨c1, c2, c3, c4, c5, c6, E.2.1, c11⟩
theorem lw_E.wg {L : Nat} {xs : Nat → Int32} {X : cb_X} (E : lw_E L xs X) {G' : cb_G} (hG : cb_alk X.G G') : lw_E L xs (cb_wg X G') := by
  obtain ⟨⟨a1, a2, a3⟩, b, c, d, e, f⟩ := E
  have e94 : G'.ad 94 0 = X.G.ad 94 0 := hG.2.2 94 0 (Or.inr (Or.inl (by decide)))
  refine ⟨⟨?_, ?_, ?_⟩, b, c, d, fun G2 h2 => e G2 (hG.trans h2), f⟩
  · show va_X (G'.ad 94 0) L xs X.s X.s.heap
    rw [e94]
    exact a1
  · show G'.ad 94 0 < X.s.heap.size
    rw [e94]
    exact a2
  · show ¬ G'.A (G'.ad 94 0)
    rw [e94, hG.A]
    exact a3
theorem cb_Gd.wid {tb : List cb_E} {d : cb_D} {X : cb_X} {pc : Nat} {ls : cb_Ls} {st : List cb_V} {a : cb_A} {M : cb_M} {k n k' n' : Nat} (h1 : k ≤ k') (h2 : n ≤ n') (h : cb_Gd tb d X pc ls st a M k' n') : cb_Gd tb d X pc ls st a M k n := fun C H locs lc hP hS hL => W.widen h1 h2 (h C H locs lc hP hS hL)
theorem cb_Gd.fg {tb : List cb_E} {d : cb_D} {X : cb_X} {pc : Nat} {ls ls' : cb_Ls} {st : List cb_V} {a : cb_A} {M : cb_M} {k n : Nat} (hl : ∀ (i : Nat) (v : cb_V), ls'[i]? = some (some v) → ls[i]? = some (some v)) (h : cb_Gd tb d X pc ls' st a M k n) : cb_Gd tb d X pc ls st a M k n := fun C H locs lc hP hS hL => h C H locs lc hP hS ⟨hL.1, hL.2.1, fun i v e => hL.2.2 i v (hl i v e)⟩
def lw_iv (iv : Int32) (L : Nat) : Prop := vp_in iv L ∧ vp_in (iv + 1) L ∧ vp_in (iv + 2) L ∧ vp_in (iv + 3) L ∧ vp_in (iv + 4) L ∧ vp_in (iv + 5) L
/-- an argument out of the script -/
def cl_ag (pc : Nat) (ic : Int) : Bool := decide (decode code pc = .ok (.aload_n 0, 1)) && (decide (decode code (pc + 1) = .ok (.iload 4, 2)) && (decide (decode code (pc + 3) = .ok (.iconst ic, 1)) && (decide (decode code (pc + 4) = .ok (.iadd, 1)) && decide (decode code (pc + 5) = .ok (.iaload, 1)))))
theorem cl_arg {L : Nat} {xs : Nat → Int32} {X : cb_X} {cd : List cb_O} {sw : List (Nat × List (Int32 × Nat) × Nat)} {pc : Nat} {ls : cb_Ls} {st : List cb_V} {a : cb_A} {M : cb_M} {k n : Nat} {iv : Int32} (E : lw_E L xs X) {ic : Int} {c : Int32} (hc : Int32.ofInt ic = c) (hi : vp_in (iv + c) L) (hd : cl_ag pc ic = true) (h0 : ls[0]? = some (some (cb_r 94 0))) (h4 : ls[4]? = some (some (cb_i iv))) (h : cb_Gd cb_tb (lw_D cd sw) X (pc + 6) ls (cb_i (xs (iv + c).toNatClampNeg) :: st) a M k n) : cb_Gd cb_tb (lw_D cd sw) X pc ls st a M k n := by
  unfold cl_ag at hd
  simp only [Bool.and_eq_true, decide_eq_true_eq] at hd
  obtain ⟨d1, d2, d3, d4, d5⟩ := hd
  have g := cl_ald (d := lw_D cd sw) (pc := pc + 5) (ls := ls) (st := st) (a := a) (M := M) (k := k) (n := n) E.1 hi d5 h
  intro C H locs lc hP hS hL
  obtain ⟨hx, hb, -⟩ := id C
  refine lv_aload_n (i := 0) hx hb d1 rfl (hL.2.2 _ _ h0) ?_
  refine lv_iload hx hb d2 (hL.2.2 _ _ h4) ?_
  refine lv_iconst hx hb d3 hc ?_
  refine lv_iadd hx hb d4 ?_
  exact g C H locs lc hP hS hL
/-- what stands behind the reference's call -/
def lw_cv (bz : Bool) (v : Int32) : Int64 := if bz = true then (if v = 0 then 0 else 1) else v.toInt64
def lw_T (bz : Bool) (c : Int32) (m : Nat) (w : Option cb_V) (M2 : cb_M) : Prop := ∃ u, w = some (cb_i u) ∧ cb_gI M2 46 0 0 = c ∧ re_R M2 m ∧ (c = 0 → cb_gL M2 90 0 0 = lw_cv bz u)
def lw_KH (bz : Bool) (spr : cb_Sp) (r : List cb_V) (m : Nat) : cb_Out → cb_A → cb_M → Prop := fun o a' M' => match o with
  | .inl (some (.inl c)) => ∃ f', a' = (cb_aS m, f') ∧ ∃ K2, spr 0 r M' K2 ∧ ∀ w M2, K2 w M2 → lw_T bz c m w M2
  | _ => False
theorem lw_KHx {bz : Bool} {spr : cb_Sp} {r : List cb_V} {m : Nat} (x : Nat) (a : cb_A) (M : cb_M) : ¬ lw_KH bz spr r m (.inr x) a M := fun h => h
theorem re_cI_0 : ∀ x c, re_cI x = some c → ¬ c = 0 := fun x c h => by
  unfold re_cI at h
  split at h
  · cases h
  · cases h
    decide
theorem re_cN_0 : ∀ x c, re_cN x = some c → ¬ c = 0 := fun x c h => by
  unfold re_cN at h
  split at h
  · cases h
    decide
  · cases h
theorem re_c2_0 : ∀ x c, re_c2 x = some c → ¬ c = 0 := fun x c h => by
  unfold re_c2 at h
  split at h
  · cases h
    decide
  · cases h
    decide
theorem hl_ref {bz : Bool} {cd : Nat → Option Int32} {na : Nat} {sp : cb_Sw} {spr : cb_Sp} {r : List cb_V} {m : Nat} {f : Option Nat} {M : cb_M} (h : sp r M (re_post cd spr r m)) (h0 : ∀ x c, cd x = some c → ¬ c = 0) (hr : r.length = na) (hi : (r.all fun v => match v with | .inl _ => true | _ => false) = true) : hl_pt bz cd na sp (cb_r 0 0 :: (r ++ [cb_r 90 0])) (cb_aS m, f) M (lw_KH bz spr r m) := by
  refine ⟨r, m, f, re_post cd spr r m, rfl, hr, hi, rfl, h, fun o M' ho => ?_⟩
  match o, ho with
  | .inl (some (.inl v)), ho =>
    refine ⟨f, rfl, _, ho _, fun w M2 h2 => ?_⟩
    obtain ⟨e1, e2, e3, e4⟩ := h2
    refine ⟨v, e1, e2, e4, fun _ => ?_⟩
    unfold cb_gL
    rw [e3]
    exact if_pos ⟨rfl, rfl, rfl⟩
  | .inr x, ho =>
    obtain ⟨c, hc, ho⟩ := ho
    refine ⟨c, hc, none, rfl, _, ho, fun w M2 h2 => ?_⟩
    obtain ⟨⟨u, e1⟩, e2, e3⟩ := h2
    exact ⟨u, e1, e2, e3, fun e => absurd e (h0 _ _ hc)⟩
/-- the reference's call, of a helper's K -/
def lw_KR (bz : Bool) (c : Int32) (m : Nat) (f : Option Nat) : cb_Out → cb_A → cb_M → Prop := fun o a' M' => match o with
  | .inl v => a' = (cb_aS m, f) ∧ lw_T bz c m v M'
  | .inr _ => False
/-- behind 'thrown' -/
def lw_K3 (m : Nat) (f : Option Nat) (M : cb_M) : cb_Out → cb_A → cb_M → Prop := fun o a' M' => match o with
  | .inl v => a' = (cb_aS m, f) ∧ v = some (cb_i (cb_gI M 46 0 0)) ∧ M' = M
  | .inr _ => False
theorem lw_thr {X : cb_X} {cd : List cb_O} {sw : List (Nat × List (Int32 × Nat) × Nat)} (B : cb_Bs (lw_D cd sw) X) : cb_CS cb_tb (lw_D cd sw) X (0, 133, 1, 0, 0, pt_X10_thrown) := cb_csV B ok_X10_thrown wd_X10_thrown (cb_tw (i := 1492) (show tables_1[1492]? = some (Cond.methodLink RL 133 yX10_thrown) by decide +kernel)) (cb_tw (i := 1493) (by decide +kernel)) (cb_tw (i := 1494) (by decide +kernel)) rc_X10_thrown ⟨(show md_X10_thrown.fr + 1 ≤ room_1.frames by decide), (show 8 + (md_X10_thrown.nL + 11) + md_X10_thrown.lo ≤ room_1.locals by decide)⟩ (by decide +kernel)
/-- back at the loop's end -/
theorem lw_back {X : cb_X} {cd : List cb_O} {sw : List (Nat × List (Int32 × Nat) × Nat)} {iv : Int32} {o5 o6 : Option cb_V} {a : cb_A} {M : cb_M} {k n k' n' : Nat} (h1 : k ≤ k') (h2 : n ≤ n') (h : cb_Gd cb_tb lw_0 X 2738 (lw_l iv) [] a M k' n') : cb_Gd cb_tb (lw_D cd sw) X 2738 [some (cb_r 94 0), some (cb_r 0 0), some (cb_r 46 0), some (cb_r 90 0), some (cb_i iv), o5, o6] [] a M k n := by
  refine cb_Gd.same (cd := []) (sw := []) rfl (cb_Gd.wid h1 h2 (cb_Gd.fg (fun i v e => ?_) h))
  match i, e with
  | 0, e => exact e
  | 1, e => exact e
  | 2, e => exact e
  | 3, e => exact e
  | 4, e => exact e
  | 5, e => cases e
  | 6, e => cases e
  | i + 7, e => cases e
theorem lw_lc {x y : Int64} (h : x = y) : lg_cmp x y = 0 := by
  subst h
  unfold lg_cmp
  simp
