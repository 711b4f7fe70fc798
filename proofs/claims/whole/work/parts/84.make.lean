/-! ===== things made: rows of rows, what is final, what is called ===== -/
def cb_AO (U : State) : Prop := va_AO RX3 U ∧ (Cond.arrayOver (.array .int)).before #[] U = true
theorem cb_AO.moved {u U : State} (hvm : u.vm.Alike U.vm) (h : cb_AO u) : cb_AO U := ⟨va_AO.moved hvm h.1, arrayOver_alikeB hvm h.2⟩
theorem cb_outer (c : ClassId) (N h0 : Nat) : ∀ i : Nat, Jvm.Free.Multi.outerC c N h0 i = arrV c N (fun j => va_rf (if j < i then some (h0 + 1 + j) else none))
  | 0 => by
    show ({ cls := c, slots := Array.replicate N .null, vm := .none } : Cell) = _
    rw [arrV_new]
    refine congrArg (arrV c N) (funext fun j => ?_)
    simp [va_rf]
  | i + 1 => by
    show (Jvm.Free.Multi.outerC c N h0 i).setSlot i (.ref (h0 + 1 + i)) = _
    rw [cb_outer c N h0 i, arrV_store]
    refine congrArg (arrV c N) (funext fun j => ?_)
    by_cases e : j = i
    · subst e
      simp [updV, va_rf]
    · by_cases h : j < i
      · simp [updV, e, h, Nat.lt_succ_of_lt h]
      · simp [updV, e, h, show ¬ j < i + 1 by omega]
section MK
variable {d : cb_D} {X : cb_X} {pc : Nat} {ls : cb_Ls} {st : List cb_V} {a : cb_A} {M : cb_M} {k n : Nat}
/-- a final field, in a constructor -/
theorem ct_putF {t i j idx ed : Nat} {q : vw_C} {v : cb_V} {M' : cb_M} (hin : X.meth.name = "<init>") (ha : a.1 t i = true) (hk : cb_kd cb_sd t = 0) (hq : cb_cl[cb_x cb_sd t]? = some q) (hj : j < q.2.2) (hw : tables_1[ed]? = some (.fieldLink d.own idx (q.2.1 j).1 (q.2.1 j).2.1 (q.2.1 j).2.2.1)) (hfin : (q.2.1 j).2.2.2 = true) (hdecl : (q.2.1 j).1 = d.own) (hs : cb_st cb_sd M t i j v = some M') (hd : decode d.cc pc = .ok (.putfield idx, 3))
    (h : cb_Gd cb_sd d X (pc + 3) ls st a M' k n) : cb_Gd cb_sd d X pc ls (v :: cb_r t i :: st) a M k n := by
  intro C H locs lc hP hS hL
  obtain ⟨hx, hb, hml, hown, hK, -⟩ := id C
  obtain ⟨r, h1, cell, q1, q2, q3, q4⟩ := ((hP.1 t i ha).1).obj hk
  cases Option.some.inj (h1.symm.trans hq)
  obtain ⟨hSl, hfc, kC, hkC, hkind⟩ := hK.2.2.1 _ q hq
  obtain ⟨cf, kf, fi, f, hi, hsl⟩ := hSl j hj
  have hts := cb_hts hK hq X.args
  have hlay := hts _ (u_in_lay hj)
  unfold u_lay at hlay
  rw [if_pos hfin] at hlay
  have hst := (u_facts hfc hkC (u_lays hts (fun _ h => h) hj) hi).1
  have hcf : X.m.cls = cf := by
    obtain ⟨_, _, c', _, _, _, -, -, hf', -, -, -, hown2, -⟩ := Cond.laysFinal_spec hlay
    have e1 : c' = cf := by have := hi.symm.trans hf'; simp at this; exact this.1.symm
    rw [hdecl] at hown2
    rw [← e1]; exact Option.some.inj (hown.symm.trans hown2)
  obtain ⟨hn, hfit⟩ := cb_tf_fit (T := (cb_fk cb_sd t j).2) X.G.ad (cb_tb_slot cb_sd_ok hk hq hj) rfl hs
  have h6 := u_fits hfc hkC hkind (Or.inr hlay) hi ((cb_cok hq).2.1 j hj) hn hfit
  refine W.putFinK hx hb hown (cb_w hK hw rfl X.args) hi hst hcf hin (by rw [q2]; exact h6) q1 q3 (by rw [hsl]; exact k2_hasslot (q4 j hj)) rfl rfl hd fun H' e1 e2 e3 => ?_
  rw [hsl] at e1 ⊢
  refine h C H' _ lc (hP.put ha hs (cb_at.ofObj hk ⟨q, hq, ?_⟩) e2 e3) (hS.put e2 e3 (hP.1 t i ha).2) hL
  rw [← cb_updV hs]
  exact ⟨_, e1, q2, q3, t_set q4 (cb_apart hK hq) hj _⟩
/-- a row of references -/
theorem ct_anew {t i z N idx : Nat} {nn : Int32} (hE : cb_AO X.s) (hz : a.2 = some z) (had : X.G.ad t i = z) (hk : cb_kd cb_sd t = 5) (hlen : cb_len cb_sd t i = N) (htf : ∀ j, cb_tf (cb_ety 5) (cb_fk cb_sd t j).1 = true) (hw : Cond.classLink d.own idx RX3 ∈ lw_tbl ∧ goodWord (Cond.classLink d.own idx RX3) = true) (hn : nn = nI N) (hN : N ≤ 10000) (hdf : cb_df M t i) (hmc : k + 1 ≤ d.mc) (hms : n + N ≤ d.ms) (hd : decode d.cc pc = .ok (.anewarray idx, 3))
    (h : cb_Gd cb_sd d X (pc + 3) ls (cb_r t i :: st) (cb_ab a t i, some (z + 1)) M (k + 1) (n + N)) : cb_Gd cb_sd d X pc ls (cb_i nn :: st) a M k n := by
  intro C H locs lc hP hS hL
  obtain ⟨hx, hb, hml, hown, hK, hs0, -, -, -, -, hR1, hR2, hR3, hR4⟩ := id C
  have hH := hP.2.2 z hz
  have hzg : X.G.1 ≤ z := by have := hS.1; omega
  subst hn
  have cN : (nI N).toNatClampNeg = N := nI_clamp (by omega)
  refine W.anew hx hb hown (hK.1 _ hw.1 hw.2 _) (va_AO.use hE.1) (g := F0 X.m pc lc (cb_cs X.G.ad (cb_i (nI N) :: st))) rfl hd rfl (nI_pos (by omega)) (by rw [cN]; omega) (by rw [hR2]; exact hmc) (by rw [hR3, cN]; exact hms) (fun cA kA comp f1 f2 f3 f4 => ?_)
  rw [cN]
  generalize hH1 : H.push ({ cls := cA, slots := Array.replicate N .null, vm := .none } : Cell) = H1
  have z1 : H1.size = z + 1 := by rw [← hH1, Array.size_push, hH]
  have e1 : H1[z]? = some (arrV cA N (fun _ => .null)) := by rw [← hH1, ← hH, Array.getElem?_push_size, ← arrV_new]
  have o1 : ∀ q : Nat, q < z → H1[q]? = H[q]? := fun q hq => by rw [← hH1, Array.getElem?_push, if_neg (by omega)]
  have hcA : cA = X.G.dA 5 := by
    obtain ⟨kA', comp', -, -, -, hra⟩ := (hK.2.2.2.1 5 (by omega) (by omega)).2
    exact Option.some.inj (f1.symm.trans hra)
  have hat : cb_at X.G cb_sd M t i H1 := by
    refine cb_at.ofArr (k := 4) hk ?_
    rw [had, e1, hcA, hlen]
    congr 1
    refine congrArg (arrV _ N) (funext fun j => ?_)
    exact (cb_sv_df hdf (htf j) X.G.ad).symm
  have := h C H1 locs lc (hP.born hz had hat z1 o1 hzg) (cb_fm_born hS z1 hH o1) hL
  have e : cb_cs X.G.ad (cb_r t i :: st) = .ref z :: cb_cs X.G.ad st := by
    show Value.ref (X.G.ad t i) :: _ = _
    rw [had]
  rw [e] at this
  rw [hH]
  exact this
/-- rows of a row, numbered -/
def cb_rr (M : cb_M) (t N : Nat) : cb_M := (M.1, fun t' i' j' => if t' = t ∧ i' = 0 ∧ j' < N then some j' else M.2.1 t' i' j', M.2.2)
def cb_am (a : cb_A) (t tr N : Nat) : Nat → Nat → Bool := fun t' i' => a.1 t' i' || ((Nat.beq t' t && Nat.beq i' 0) || (Nat.beq t' tr && Nat.blt i' N))
theorem cb_am_to {a : cb_A} {t tr N t' i' : Nat} (h : cb_am a t tr N t' i' = true) : a.1 t' i' = true ∨ (t' = t ∧ i' = 0) ∨ (t' = tr ∧ i' < N) := by
  unfold cb_am at h
  rw [Bool.or_eq_true, Bool.or_eq_true, Bool.and_eq_true, Bool.and_eq_true] at h
  exact h.imp id (fun h => h.imp (fun h => ⟨Nat.eq_of_beq_eq_true h.1, Nat.eq_of_beq_eq_true h.2⟩) (fun h => ⟨Nat.eq_of_beq_eq_true h.1, Nat.blt_eq.mp h.2⟩))
theorem ct_mna {t tr z N K idx : Nat} {nn kk : Int32} (hE : cb_AO X.s) (hz : a.2 = some z) (had : X.G.ad t 0 = z) (har : ∀ j, j < N → X.G.ad tr j = z + 1 + j) (hne : ¬ t = tr) (hk : cb_kd cb_sd t = 6) (hkr : cb_kd cb_sd tr = 1) (hlen : cb_len cb_sd t 0 = N) (hlr : ∀ j, cb_len cb_sd tr j = K) (hfk : ∀ j, cb_fk cb_sd t j = (1, tr)) (hfr : ∀ j, (cb_fk cb_sd tr j).1 = 0) (hfresh : a.1 t 0 = false)
    (hw : Cond.classLink d.own idx "[[I" ∈ lw_tbl ∧ goodWord (Cond.classLink d.own idx "[[I") = true) (hw2 : Cond.arrayClass .int ∈ lw_tbl ∧ goodWord (Cond.arrayClass .int) = true) (hn : nn = nI N) (hkn : kk = nI K) (hN : N ≤ 10000) (hK0 : K ≤ 10000) (hdf : cb_df M t 0) (hdr : ∀ j, j < N → cb_df M tr j) (hmc : k + (1 + N) ≤ d.mc) (hms : n + (N + N * K) ≤ d.ms) (hd : decode d.cc pc = .ok (.multianewarray idx 2, 4))
    (h : cb_Gd cb_sd d X (pc + 4) ls (cb_r t 0 :: st) (cb_am a t tr N, some (z + 1 + N)) (cb_rr M t N) (k + 1 + N) (n + N + N * K)) : cb_Gd cb_sd d X pc ls (cb_i kk :: cb_i nn :: st) a M k n := by
  intro C H locs lc hP hS hL
  obtain ⟨hx, hb, hml, hown, hK, hs0, -, -, -, -, hR1, hR2, hR3, hR4⟩ := id C
  have hH := hP.2.2 z hz
  have hzg : X.G.1 ≤ z := by have := hS.1; omega
  subst hn hkn
  have cN : (nI N).toNatClampNeg = N := nI_clamp (by omega)
  have cK : (nI K).toNatClampNeg = K := nI_clamp (by omega)
  intro T hT Y
  obtain ⟨vm₁, cA, comp, -, fA, fC, -, -, X', step⟩ := Y.multianewarray2F hx (own := d.own) (index := idx) (ty := .int) hown (hK.1 _ hw.1 hw.2 _) hE.2 (hK.1 _ hw2.1 hw2.2 _) (g := F0 X.m pc lc (cb_cs X.G.ad (cb_i (nI K) :: cb_i (nI N) :: st))) rfl (by rw [hb]; exact hd) rfl (nI_pos (by omega)) (nI_pos (by omega)) (by rw [cN]; omega) (by rw [cK]; exact Nat.le_trans (Nat.mul_le_mul hK0 (show componentBytes .int ≤ 8 by decide)) (by decide)) (by rw [cK]; omega) rfl rfl (by rw [cN, hR2]; exact hmc) (by rw [cN, cK, hR3]; exact hms)
  rw [cN, cK] at X' step
  have hcA : cA = X.G.dA 6 := by
    have hra : X.s.vm.findClass ("[" ++ (FieldType.array .int).toString) = some (X.G.dA 6) := (hK.2.2.2.1 6 (by omega) (by omega)).2
    exact Option.some.inj (fA.symm.trans hra)
  have hcc : comp = X.G.dA 1 := by
    have hra : X.s.vm.findClass ("[" ++ (FieldType.int).toString) = some (X.G.dA 1) := (hK.2.2.2.1 1 (by omega) (by omega)).2
    exact Option.some.inj (fC.symm.trans hra)
  obtain ⟨F, hF⟩ : ∃ F, F = Jvm.Free.Multi.fill (T.setVm vm₁) cA comp N K (defaultValue .int) N := ⟨_, rfl⟩
  have hTh : (T.setVm vm₁).heap = H := hT
  obtain ⟨f1, f2, -, -⟩ := Jvm.Free.Multi.fill_facts (T.setVm vm₁) cA comp N K (defaultValue .int) N
  have f3 := fun j hj => Jvm.Free.Multi.fill_inner (T.setVm vm₁) cA comp N K (defaultValue .int) N j hj
  have f4 := fun {x} (hx : x < (T.setVm vm₁).heap.size) => Jvm.Free.Multi.fill_old (T.setVm vm₁) cA comp N K (defaultValue .int) hx N
  rw [← hF, hTh, hH] at f1 f2
  simp only [← hF, hTh, hH] at f3 f4
  rw [← hF] at X' step
  have hTs : T.heap.size = z := by rw [hT]; exact hH
  have lt : ∀ t' i', a.1 t' i' = true → X.G.ad t' i' < z := fun t' i' ha => by
    have := hP.lt ha
    omega
  have hP' : cb_P X.G cb_sd (cb_am a t tr N, some (z + 1 + N)) (cb_rr M t N) F.heap := by
    refine ⟨fun t' i' ha => ?_, fun t1 i1 t2 i2 h1 h2 e => ?_, fun z' e => by cases e; exact f1⟩
    · rcases cb_am_to ha with ha | ⟨e1, e2⟩ | ⟨e1, e2⟩
      · refine ⟨((hP.1 t' i' ha).1).kept (f4 (lt t' i' ha)) (fun j => ?_), (hP.1 t' i' ha).2⟩
        have hn : ¬ (t' = t ∧ i' = 0 ∧ j < N) := fun w => by
          rw [w.1, w.2.1, hfresh] at ha
          cases ha
        unfold cb_sv
        have eR : cb_gR (cb_rr M t N) t' i' j = cb_gR M t' i' j := if_neg hn
        rw [eR]
        rfl
      · subst e1 e2
        refine ⟨cb_at.ofArr (k := 5) hk ?_, by rw [had]; exact hzg⟩
        rw [had, f2, hcA, hlen, cb_outer]
        congr 1
        refine congrArg (arrV _ N) (funext fun j => ?_)
        unfold cb_sv
        rw [hfk j]
        show va_rf (if j < N then some (z + 1 + j) else none) = cb_c X.G.ad (Sum.inr (Sum.inr ((cb_gR (cb_rr M t' N) t' 0 j).map fun k => (tr, k))))
        by_cases hj : j < N
        · have eR : cb_gR (cb_rr M t' N) t' 0 j = some j := if_pos ⟨rfl, rfl, hj⟩
          rw [if_pos hj, eR]
          show Value.ref (z + 1 + j) = Value.ref (X.G.ad tr j)
          rw [har j hj]
        · have eR : cb_gR (cb_rr M t' N) t' 0 j = cb_gR M t' 0 j := if_neg (fun w => hj w.2.2)
          rw [if_neg hj, eR, (hdf j).2.1]
          rfl
      · subst e1
        refine ⟨cb_at.ofArr (k := 0) hkr ?_, by rw [har i' e2]; omega⟩
        rw [har i' e2, f3 i' e2, hcc, hlr]
        show some ({ cls := X.G.dA 1, slots := Array.replicate K (defaultValue .int), vm := .none } : Cell) = _
        rw [arrV_new]
        congr 1
        refine congrArg (arrV _ K) (funext fun j => ?_)
        have hd0 : cb_df (cb_rr M t N) t' i' := fun j => ⟨(hdr i' e2 j).1, (if_neg (fun w => hne w.1.symm) : cb_gR (cb_rr M t N) t' i' j = cb_gR M t' i' j).trans (hdr i' e2 j).2.1, (hdr i' e2 j).2.2⟩
        exact (cb_sv_df (ty := .int) hd0 (by rw [hfr]; rfl) X.G.ad).symm
    · have ad : ∀ t' i', cb_am a t tr N t' i' = true → (a.1 t' i' = true ∧ X.G.ad t' i' < z) ∨ (t' = t ∧ i' = 0 ∧ X.G.ad t' i' = z) ∨ (t' = tr ∧ i' < N ∧ X.G.ad t' i' = z + 1 + i') := fun t' i' ha => by
        rcases cb_am_to ha with ha | ⟨e1, e2⟩ | ⟨e1, e2⟩
        · exact Or.inl ⟨ha, lt t' i' ha⟩
        · exact Or.inr (Or.inl ⟨e1, e2, by rw [e1, e2]; exact had⟩)
        · exact Or.inr (Or.inr ⟨e1, e2, by rw [e1]; exact har i' e2⟩)
      rcases ad t1 i1 h1 with ⟨g1, g2⟩ | ⟨g1, g2, g3⟩ | ⟨g1, g2, g3⟩ <;> rcases ad t2 i2 h2 with ⟨k1, k2⟩ | ⟨k1, k2, k3⟩ | ⟨k1, k2, k3⟩
      · exact hP.2.1 _ _ _ _ g1 k1 e
      · omega
      · omega
      · omega
      · exact ⟨g1.trans k1.symm, g2.trans k2.symm⟩
      · omega
      · omega
      · omega
      · exact ⟨g1.trans k1.symm, by omega⟩
  have hS' : X.fm F.heap locs := ⟨by have := hS.1; omega, fun q h1 h2 => (f4 (by have := hS.1; omega)).trans (hS.2.1 q h1 h2), hS.2.2⟩
  obtain ⟨t9, a9, b9⟩ := h C F.heap locs lc hP' hS' hL F rfl X'
  refine ⟨t9, step t9 ?_, b9⟩
  rw [hTs, ← had]
  exact a9
end MK
