/-! ===== the law's start ===== -/
def st_k9 (t i : Nat) : Nat := ((((0, 0) :: cb_ly9).findIdx? fun q => Nat.beq q.1 t && Nat.beq q.2 i).getD 0)
def st_k10 (t : Nat) : Nat := (((cb_ls10 ++ cb_lr10.map fun q => (q.1, q.2.1)).find? fun q => Nat.beq q.1 t).map fun q => q.2).getD 0
def st_ad (z b : Nat) (aS aV : Nat → Nat) (aF t i : Nat) : Nat := if t < 46 then z + st_k9 t i else if t = 46 then z + 60 else if t = 90 then z + 1031 else if t = 91 then aS i else if t = 92 then aV i else if t = 93 then aF else if t = 94 then b else z + 61 + (st_k10 t + i)
set_option maxRecDepth 100000 in
theorem st_ly9 : ∀ k, k < 59 → (cb_ly9.getD k (0, 0)).1 < 46 ∧ st_k9 (cb_ly9.getD k (0, 0)).1 (cb_ly9.getD k (0, 0)).2 = k + 1 := by decide +kernel
theorem st_ad9 {z b : Nat} {aS aV : Nat → Nat} {aF : Nat} (k : Nat) (q : Nat × Nat) (h : cb_ly9[k]? = some q) : st_ad z b aS aV aF q.1 q.2 = z + 1 + k := by
  have hk : k < 59 := (List.getElem?_eq_some_iff.mp h).1
  have e : cb_ly9.getD k (0, 0) = q := by
    rw [List.getD_eq_getElem?_getD, h]
    rfl
  obtain ⟨h1, h2⟩ := st_ly9 k hk
  rw [e] at h1 h2
  unfold st_ad
  rw [if_pos h1, h2]
  omega
set_option maxRecDepth 100000 in
theorem st_ls10 : ∀ q ∈ cb_ls10, (46 < q.1 ∧ q.1 < 90) ∧ st_k10 q.1 = q.2 := by decide +kernel
set_option maxRecDepth 100000 in
theorem st_lr10 : ∀ q ∈ cb_lr10, (46 < q.1 ∧ q.1 < 90) ∧ st_k10 q.1 = q.2.1 := by decide +kernel
theorem st_adx {z b : Nat} {aS aV : Nat → Nat} {aF t i : Nat} (h : 46 < t ∧ t < 90) : st_ad z b aS aV aF t i = z + 61 + (st_k10 t + i) := by
  unfold st_ad
  rw [if_neg (by omega), if_neg (by omega), if_neg (by omega), if_neg (by omega), if_neg (by omega), if_neg (by omega), if_neg (by omega)]
theorem st_adS {z b : Nat} {aS aV : Nat → Nat} {aF : Nat} (k : Nat) (q : Nat × Nat) (h0 : q.2 = 0) (h : cb_isS q.1 k = true) : st_ad z b aS aV aF q.1 q.2 = z + 61 + k := by
  obtain ⟨r, hr, h⟩ := List.any_eq_true.mp h
  rw [Bool.and_eq_true] at h
  have e1 := Nat.eq_of_beq_eq_true h.1
  have e2 := Nat.eq_of_beq_eq_true h.2
  obtain ⟨g1, g2⟩ := st_ls10 r hr
  rw [e1] at g1 g2
  rw [st_adx g1, g2, e2, h0]
  omega
theorem st_adR {z b : Nat} {aS aV : Nat → Nat} {aF : Nat} (t k N : Nat) (h : cb_isR t k N = true) (j : Nat) (_ : j < N) : st_ad z b aS aV aF t j = z + 61 + k + j := by
  obtain ⟨r, hr, h⟩ := List.any_eq_true.mp h
  rw [Bool.and_eq_true, Bool.and_eq_true] at h
  have e1 := Nat.eq_of_beq_eq_true h.1
  have e2 := Nat.eq_of_beq_eq_true h.2.1
  obtain ⟨g1, g2⟩ := st_lr10 r hr
  rw [e1] at g1 g2
  rw [st_adx g1, g2, e2]
  omega
theorem lw_CxT {tb : List cb_E} {p : Program} {l : Launch} {e : Env} {s : State} {m : MethodId} {below : List Frame} {meth : Method} {c : Code} {b : Nat} {G : cb_G} {cd : List cb_O} {sw : List (Nat × List (Int32 × Nat) × Nat)} (hx : p.tables.exec = Jvm.exec) (hb : c.code = code) (hr : meth.sig.returnType = ret) (hml : c.maxLocals = 7) (hown : s.vm.findClass RL = some m.cls) (hlocks : meth.locks = false) (hG : G.1 = s.heap.size) (hK : cb_K G s) (hT : cb_noT (lw_D cd sw) = true) : cb_Cx tb (lw_D cd sw) (p, l, e, room_1, s, m, #[Value.ref b], below, meth, c, G, lw_Z below #[Value.ref b] s, lw_K) := by
  refine ⟨hx, hb, hml, hown, hK, by show G.1 ≤ s.heap.size; omega, ?_, ?_, cb_Ts0 hT, (fun g hg => nomatch hg), rfl, rfl, rfl, rfl⟩
  · intro H locs a M k n pc lc v hP hS hKv h1 h2 hv
    have hKv : (Sum.inl v : cb_Out) = .inl (some (cb_i 1)) := hKv
    injection hKv with hKv
    subst hKv
    refine va_forget (fun q hq => ?_) (W.widen h1 h2 (lw_ret hx hb hr hlocks hv.2))
    have h9 : G.1 ≤ q.base := hS.2.2 q hq
    rw [hG] at h9
    exact h9
  · intro H locs a M k n pc lc rest x q ce hP hS hKx
    have hKx : (Sum.inr x : cb_Out) = .inl (some (cb_i 1)) := hKx
    cases hKx
def lr_start : List cb_O := [(3, .dup, 1, 0, 0, 0, 0), (7, .astore_n 1, 1, 0, 1, 0, 0), (11, .dup, 1, 0, 0, 0, 0), (15, .astore_n 2, 1, 0, 2, 0, 0), (16, .iconst 1, 1, 1, 0, 0, 0), (19, .astore_n 3, 1, 0, 3, 0, 0), (20, .iconst 0, 1, 0, 0, 0, 0), (21, .istore 4, 2, 0, 4, 0, 0)]
set_option maxRecDepth 100000 in
theorem vr_start : (lw_D lr_start []).cd.all (cb_vE (lw_D lr_start [])) = true := by decide +kernel
set_option maxRecDepth 100000 in
/-- all is made -/
theorem st_made {L : Nat} {xs : Nat → Int32} (hL : L ≤ 3072) {X : cb_X} (E : lw_E L xs X) {z b : Nat} {aS aV : Nat → Nat} {aF : Nat} (had : X.G.ad = st_ad z b aS aV aF) : cb_Gd cb_sd (lw_D lr_start []) X 0 (cb_l0 [cb_r 94 0] 7) [] (fun _ _ => false, some z) cb_M0 0 0 := by
  have ad0 : X.G.ad 0 0 = z := by rw [had]; rfl
  have ad46 : X.G.ad 46 0 = z + 60 := by rw [had]; rfl
  have ad90 : X.G.ad 90 0 = z + 1031 := by rw [had]; rfl
  have hl0 := E.2.1
  have hE := E.2.2.2.1
  refine ct_new (t := 0) (i := 0) (z := z) (N := 15) (idx := 8) rfl ad0 rfl rfl rfl ⟨cb_tw (i := 25) (by decide +kernel), cb_tw (i := 26) (by decide +kernel), cb_tw (i := 1) (by decide +kernel)⟩ ⟨rfl, rfl, rfl⟩ (fun j => ⟨rfl, rfl, rfl⟩) (by decide) (by decide) (by decide +kernel) ?_
  refine cb_run cb_sd_ok vr_start (cuts := [4]) 20 ?_
  refine ct_init (st := [cb_r 0 0]) (r := []) (t := 0) (i := 0) (idx := 119) ok_X9_init hl0 hE rfl rfl wd_X9_init (Or.inl (cb_tw (i := 27) (by decide +kernel))) (cb_tw (i := 28) (by decide +kernel)) ⟨by decide, by decide⟩ (by decide +kernel) rfl (by decide) (by decide) (by decide) (by decide +kernel) ?_
  refine ⟨⟨rfl, rfl⟩, z + 1, rfl, rfl, fun k q h => by rw [had]; exact st_ad9 k q h, ?_⟩
  refine cb_run cb_sd_ok vr_start (cuts := [8]) 20 ?_
  refine ct_new (t := 46) (i := 0) (z := z + 60) (N := 54) (idx := 120) rfl ad46 rfl rfl rfl ⟨cb_tw (i := 1319) (by decide +kernel), cb_tw (i := 1320) (by decide +kernel), cb_tw (i := 11) (by decide +kernel)⟩ ⟨rfl, rfl, rfl⟩ (fun j => ⟨rfl, rfl, rfl⟩) (by decide) (by decide) (by decide +kernel) ?_
  refine cb_run cb_sd_ok vr_start (cuts := [12]) 20 ?_
  refine ct_init (st := [cb_r 46 0]) (r := []) (t := 46) (i := 0) (idx := 122) ok_X10_init hl0 hE rfl rfl wd_X10_init (Or.inl (cb_tw (i := 1321) (by decide +kernel))) (cb_tw (i := 1322) (by decide +kernel)) ⟨by decide, by decide⟩ (by decide +kernel) rfl (by decide) (by decide) (by decide) (by decide +kernel) ?_
  refine ⟨⟨rfl, rfl⟩, z + 61, rfl, rfl, ⟨fun k q h0 h => by rw [had]; exact st_adS k q h0 h, fun t k N h j hj => by rw [had]; exact st_adR t k N h j hj⟩, ?_⟩
  refine cb_run cb_sd_ok vr_start (cuts := [17]) 20 ?_
  refine ct_newa (aty := .long) (t := 90) (i := 0) (z := z + 1031) (N := 1) (kd := 3) rfl ad90 rfl (by decide) rfl rfl (fun _ w => by cases w) ⟨cb_tw (i := 1876) (by decide +kernel), rfl⟩ rfl (by decide) (by decide) (fun j => rfl) (by decide) (by decide) (by decide +kernel) ?_
  refine cb_run cb_sd_ok vr_start (cuts := [23]) 20 ?_
  have g := lw_loop hL 512 (X := X) (i := 0) (k := 1032) (n := 54126) (f := none) E (by omega) (by omega) (show 5128 ≤ room_1.cells by decide) (show 1719150 ≤ room_1.slots by decide) re_start
  intro C H locs lc hP hS hLc
  exact g (E.2.2.2.2.1 X.G (cb_alk.refl _)) H locs lc (st_P (fun t i h => st_al h) hP) hS hLc
theorem whole_start {p : Program} {e : Env} {s : State} {m : MethodId} {below : List Frame} {meth : Method} {c : Code} (l : Launch) (hl : l.stackTraces = false) {b L : Nat} {xs : Nat → Int32} (hL : L ≤ 3072) (C0 : lw_At p s m meth c b L xs) : W p l e room_1 s m #[Value.ref b] below meth c s.heap [] 0 0 (lw_Z below #[Value.ref b] s) (entryFrame m ([Value.ref b] : List Value).toArray 7) := by
  obtain ⟨hx, hb, hr, hml, hown, hts, hX, hbl, hlocks, hgv⟩ := C0
  obtain ⟨dC, dI, dA, aS, aV, aF, hK⟩ := st_know hts hgv
  obtain ⟨G, hG⟩ : ∃ G : cb_G, G = (s.heap.size, st_ad s.heap.size b aS aV aF, dC, dI, dA) := ⟨_, rfl⟩
  have hKG : cb_K G s := by
    rw [hG]
    exact hK _ (fun j => rfl) (fun j => rfl) rfl
  have hG1 : G.1 = s.heap.size := by rw [hG]
  have had : G.ad = st_ad s.heap.size b aS aV aF := by rw [hG]
  have h94 : G.ad 94 0 = b := by rw [had]; rfl
  obtain ⟨X, hXX⟩ : ∃ X : cb_X, X = (p, l, e, room_1, s, m, #[Value.ref b], below, meth, c, G, lw_Z below #[Value.ref b] s, lw_K) := ⟨_, rfl⟩
  have E : lw_E L xs X := by
    subst hXX
    refine ⟨⟨?_, ?_, ?_⟩, hl, st_NC hgv, st_AO hts, fun G' hG' => lw_Cx hx hb hr hml hown hlocks (hG'.1.trans hG1) (cb_K.alk hG' hKG) rfl, rfl⟩
    · show va_X (G.ad 94 0) L xs s s.heap
      rw [h94]
      exact hX
    · show G.ad 94 0 < s.heap.size
      rw [h94]
      exact hbl
    · show ¬ G.1 ≤ G.ad 94 0
      rw [h94, hG1]
      omega
  have hC : cb_Cx cb_sd (lw_D lr_start []) X := by
    subst hXX
    exact lw_CxT hx hb hr hml hown hlocks hG1 hKG (by decide)
  have hP : cb_P G cb_sd (fun _ _ => false, some s.heap.size) cb_M0 s.heap := ⟨(fun t i h => by cases h), (fun t i t' i' h => by cases h), (fun z e => by cases e; rfl)⟩
  have hle := lv_entry (([cb_r 94 0] : List cb_V).map (cb_c G.ad)) (n := 7) (by rw [cb_len0]; decide)
  have eA : ([Value.ref b] : List Value) = ([cb_r 94 0] : List cb_V).map (cb_c G.ad) := by
    show _ = [Value.ref (G.ad 94 0)]
    rw [h94]
  have g := st_made hL E (by subst hXX; exact had) hC s.heap [] _ (by subst hXX; exact hP) (by subst hXX; exact va_S.rf) (by subst hXX; exact cb_l0_L [cb_r 94 0] G.ad 7 hle)
  subst hXX
  have g2 : W p l e room_1 s m #[Value.ref b] below meth c s.heap [] 0 0 (lw_Z below #[Value.ref b] s) (entryFrame m (([cb_r 94 0] : List cb_V).map (cb_c G.ad)).toArray 7) := by
    rw [lg_entry_eq]
    exact g
  rw [← eA] at g2
  exact g2
