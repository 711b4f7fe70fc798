/-! ===== the throws of the class ===== -/
/-- the words of 'new NoSuchElementException(text)': its constructor calls its parent's by another entry than the others do -/
def cb_a13 : List Cond := Bundle.throwableAtoms ++ (Bundle.throwableSAtoms ++ (Bundle.passSAtoms "java/util/NoSuchElementException" "java/lang/RuntimeException" 13 prog_29_method_4_code ++ (Bundle.chainSAtoms "java/lang/RuntimeException" ["java/lang/Exception"] ++
  [.methodLink RX9 344 (Bundle.initS "java/util/NoSuchElementException"), .instantiable "java/util/NoSuchElementException" 6, .castable "java/util/NoSuchElementException" "java/util/NoSuchElementException", .selects "java/util/NoSuchElementException" Bundle.tFill0 Bundle.tFill0, .selects "java/util/NoSuchElementException" Bundle.tFill Bundle.tFill,
   .lays "java/util/NoSuchElementException" Bundle.tN "cause" "Ljava/lang/Throwable;", .lays "java/util/NoSuchElementException" Bundle.tN "stackTrace" Bundle.steD, .lays "java/util/NoSuchElementException" Bundle.tN "suppressedExceptions" Bundle.listD, .lays "java/util/NoSuchElementException" Bundle.tN "detailMessage" "Ljava/lang/String;",
   .isRef (.static Bundle.tN "UNASSIGNED_STACK" Bundle.steD), .isRef (.static Bundle.tN "SUPPRESSED_SENTINEL" Bundle.listD),
   .fieldLink Bundle.tN 198 Bundle.tN "backtrace" "Ljava/lang/Object;", .lays Bundle.tN Bundle.tN "backtrace" "Ljava/lang/Object;", .lays "java/util/NoSuchElementException" Bundle.tN "backtrace" "Ljava/lang/Object;"])))
theorem cb_xw0 : ∀ w ∈ cb_a13.filter vx_no, w ∈ lw_tbl ∧ (goodWord w = true ∨ cb_nw w = true) ∧ vx_ot w = true := by decide +kernel
theorem cb_c13 : decode prog_29_method_4_code 0 = .ok (.aload_n 0, 1) ∧ decode prog_29_method_4_code 1 = .ok (.aload_n 1, 1) ∧ decode prog_29_method_4_code 2 = .ok (.invokespecial 13, 3) ∧ decode prog_29_method_4_code 5 = .ok (.return_, 1) := by decide +kernel
section Nse
variable {p : Program} {l : Launch} {e : Env} {R : Room} {s : State} {m₀ : MethodId} {args : Array Value} {below : List Frame} {meth : Method} {c : Code} {W : State} {locs : List Loc} {cells slots : Nat}
set_option maxHeartbeats 1000000 in
/-- the constructor of the fresh one runs, and it is thrown -/
theorem cb_ctor13 (X : Stand p l e R s m₀ args below meth c W locs cells slots) (hexec : p.tables.exec = Jvm.exec) (htr : e.platform.stackTraces = false)
    (hown : s.vm.findClass RX9 = some m₀.cls) (h : ∀ a ∈ cb_a13, a.before args s = true) (hlocs : ∀ x ∈ locs, ∀ cell, s.heap[x.base]? = some cell → cell.vm.isStatics = false)
    {a : Addr} {cX : ClassId} {kX : Class} (hfoundX : s.vm.findClass "java/util/NoSuchElementException" = some cX) (hkX : s.vm.classes[cX]? = some kX) (hcell : W.heap[a]? = some (freshCell cX kX)) (hnew : s.heap.size ≤ a)
    {msg : Value} (hmsg : msg.isRef = true) {g : JFrame} (hg : g.method = m₀) (hsize : g.locals.size = c.maxLocals) (hlocked : g.locked = none) (hentered : g.entered = []) {rest : List Value} (hstack : g.stack = msg :: .ref a :: .ref a :: rest)
    (hd6 : decode c.code g.pc = .ok (.invokespecial 344, 3)) (hd9 : decode c.code (g.pc + 3) = .ok (.athrow, 1)) (hout : ∀ x ∈ c.exceptionTable.toList, covers x (g.pc + 3) = false)
    (hRframes : 5 < R.frames) (hRlocals : 2 * g.monitorRoom + ((Value.ref a :: rest).map fun v => v.category).sum + 81 ≤ R.locals) (hlocks : meth.locks = false) :
    ∃ U : State, Steps p.tables e below (W.setTop g) U ∧ U.status = .running ∧ Ended U below (.threw a) ∧ s.WarmedH U.vm ∧ s.sameButNew ({ U with vm := s.vm } : State) locs cells slots ∧
      ∃ ce, U.heap[a]? = some ce ∧ ce.vm = .none ∧ s.vm.findClass "java/util/NoSuchElementException" = some ce.cls := by
  have hpl : e.platform.magicAccessors = ({} : Platform).magicAccessors := by rw [X.admits.platform]
  have hA : ∀ x, x ∈ cb_a13 → x.holds args s none s [] = true := fun x hx => h x hx
  have in1 : ∀ x, x ∈ Bundle.throwableAtoms → x ∈ cb_a13 := fun x hx => List.mem_append_left _ hx
  have in2 : ∀ x, x ∈ Bundle.throwableSAtoms → x ∈ cb_a13 := fun x hx => List.mem_append_right _ (List.mem_append_left _ hx)
  have in3 : ∀ x, x ∈ Bundle.passSAtoms "java/util/NoSuchElementException" "java/lang/RuntimeException" 13 prog_29_method_4_code → x ∈ cb_a13 := fun x hx => List.mem_append_right _ (List.mem_append_right _ (List.mem_append_left _ hx))
  have in4 : ∀ x, x ∈ Bundle.chainSAtoms "java/lang/RuntimeException" ["java/lang/Exception"] → x ∈ cb_a13 := fun x hx => List.mem_append_right _ (List.mem_append_right _ (List.mem_append_right _ (List.mem_append_left _ hx)))
  obtain ⟨T, Z0, L, -, Y⟩ := ThrowableC.of_atoms (args := args) (by rw [X.admits.platform]) (by rw [X.admits.platform]) hpl (fun x hx => h x (in1 x hx))
  obtain ⟨Z, M, LZ, LM, hnZ⟩ := Init0T.ofS_atoms (args := args) hpl L Y (fun x hx => h x (in2 x hx))
  obtain ⟨P2, Ps, hlen, L2, hL, hP2m, hlink2, hlinkR⟩ := Bundle.chainS (args := args) hpl hnZ ["java/lang/Exception"] "java/lang/RuntimeException" (by decide +kernel) (by decide +kernel) (fun x hx => h x (in4 x hx))
  obtain ⟨P1, L1, hP1m, hP1s⟩ := PassC.ofS_atoms (args := args) (s := s) hpl (X := "java/util/NoSuchElementException") (Y := "java/lang/RuntimeException") (by decide +kernel) (by decide) cb_c13.1 cb_c13.2.1 cb_c13.2.2.1 cb_c13.2.2.2 (fun x hx => h x (in3 x hx))
  have hlink1 : P1.sup = P2.m := Option.some.inj (hP1s.symm.trans hP2m)
  have hfound : s.vm.findClass "java/util/NoSuchElementException" = some P1.m.cls := findClass_of_methodNamed hP1m
  cases Option.some.inj (hfoundX.symm.trans hfound)
  have mem : ∀ x, x ∈ ([.methodLink RX9 344 (Bundle.initS "java/util/NoSuchElementException"), .instantiable "java/util/NoSuchElementException" 6, .castable "java/util/NoSuchElementException" "java/util/NoSuchElementException", .selects "java/util/NoSuchElementException" Bundle.tFill0 Bundle.tFill0, .selects "java/util/NoSuchElementException" Bundle.tFill Bundle.tFill,
   .lays "java/util/NoSuchElementException" Bundle.tN "cause" "Ljava/lang/Throwable;", .lays "java/util/NoSuchElementException" Bundle.tN "stackTrace" Bundle.steD, .lays "java/util/NoSuchElementException" Bundle.tN "suppressedExceptions" Bundle.listD, .lays "java/util/NoSuchElementException" Bundle.tN "detailMessage" "Ljava/lang/String;",
   .isRef (.static Bundle.tN "UNASSIGNED_STACK" Bundle.steD), .isRef (.static Bundle.tN "SUPPRESSED_SENTINEL" Bundle.listD),
   .fieldLink Bundle.tN 198 Bundle.tN "backtrace" "Ljava/lang/Object;", .lays Bundle.tN Bundle.tN "backtrace" "Ljava/lang/Object;", .lays "java/util/NoSuchElementException" Bundle.tN "backtrace" "Ljava/lang/Object;"] : List Cond) → x.holds args s none s [] = true := fun x hx => hA x (List.mem_append_right _ (List.mem_append_right _ (List.mem_append_right _ (List.mem_append_right _ hx))))
  obtain ⟨c1, kX', hc1, hk, hord, -, -, hn6⟩ := Cond.instantiable_spec (mem (.instantiable "java/util/NoSuchElementException" 6) (by simp))
  cases Option.some.inj (hc1.symm.trans hfound)
  cases Option.some.inj (hkX.symm.trans hk)
  have hsel0 : selectMethod e.platform s.vm P1.m.cls T.fill0 = .method T.fill0 := by
    obtain ⟨c2, r2, m2, q1, q2, q3, q4, -⟩ := Cond.selects_spec (mem (.selects "java/util/NoSuchElementException" Bundle.tFill0 Bundle.tFill0) (by simp))
    cases Option.some.inj (q1.symm.trans hfound)
    cases Option.some.inj (q2.symm.trans (State.methodFound?_of_named Y.fill0 (by decide)))
    cases Option.some.inj (q3.symm.trans Y.fill0)
    rw [Launch.admits_selectMethod X.admits]
    exact q4
  have hselF : selectMethod e.platform s.vm P1.m.cls T.fill = .method T.fill := by
    obtain ⟨c2, r2, m2, q1, q2, q3, q4, -⟩ := Cond.selects_spec (mem (.selects "java/util/NoSuchElementException" Bundle.tFill Bundle.tFill) (by simp))
    cases Option.some.inj (q1.symm.trans hfound)
    cases Option.some.inj (q2.symm.trans (State.methodFound?_of_named Y.fill (by decide)))
    cases Option.some.inj (q3.symm.trans Y.fill)
    rw [Launch.admits_selectMethod X.admits]
    exact q4
  obtain ⟨cellS0, hcS0, hiss⟩ := Y.statics
  obtain ⟨u0, hu0⟩ := Cond.staticRefV Y.unassigned L.unassignedStatic L.statics hcS0 hiss (mem (.isRef (.static Bundle.tN "UNASSIGNED_STACK" Bundle.steD)) (by simp))
  obtain ⟨sen, hsen⟩ := Cond.staticRefV Y.sentinel L.sentinelStatic L.statics hcS0 hiss (mem (.isRef (.static Bundle.tN "SUPPRESSED_SENTINEL" Bundle.listD)) (by simp))
  obtain ⟨ci198, i198, fB, hk198, hg198, ha198, hsB, -, hnB, htB, hffB⟩ := Cond.ownField (t := .object "java/lang/Object") Y.found L.cls (by decide +kernel) (mem (.fieldLink Bundle.tN 198 Bundle.tN "backtrace" "Ljava/lang/Object;") (by simp)) (mem (.lays Bundle.tN Bundle.tN "backtrace" "Ljava/lang/Object;") (by simp)) e.platform hpl
  obtain ⟨cellS, hcS', heS, -, hkeep⟩ := X.same.2.2.2.2.2 T.aS cellS0 hcS0
  have hout' : ∀ i, (⟨T.aS, i⟩ : Loc) ∉ locs := fun i hmem => by
    have := hlocs _ hmem cellS0 hcS0
    rw [hiss] at this
    cases this
  have hknownS : cellS.vm ≠ .unknown := by
    rw [heS]
    intro hu
    rw [show cellS0.vm = .unknown from hu] at hiss
    cases hiss
  obtain ⟨iM, hffM⟩ := Y.msg
  obtain ⟨tyC, dC, hdC, hdnC⟩ := Cond.laysAt hfound hk Y.cause (mem (.lays "java/util/NoSuchElementException" Bundle.tN "cause" "Ljava/lang/Throwable;") (by simp))
  obtain ⟨tyS, dS, hdS, hdnS⟩ := Cond.laysAt hfound hk Y.stack (mem (.lays "java/util/NoSuchElementException" Bundle.tN "stackTrace" Bundle.steD) (by simp))
  obtain ⟨tyP, dP, hdP, hdnP⟩ := Cond.laysAt hfound hk Y.supp (mem (.lays "java/util/NoSuchElementException" Bundle.tN "suppressedExceptions" Bundle.listD) (by simp))
  obtain ⟨tyM, -, -, -⟩ := Cond.laysAt hfound hk hffM (mem (.lays "java/util/NoSuchElementException" Bundle.tN "detailMessage" "Ljava/lang/String;") (by simp))
  obtain ⟨tyB, dB, hdB, hdnB⟩ := Cond.laysAt hfound hk hffB (mem (.lays "java/util/NoSuchElementException" Bundle.tN "backtrace" "Ljava/lang/Object;") (by simp))
  have bC := Cond.laysApart hdB hdC hdnB hdnC (by rw [hnB, Y.causeName]; decide)
  have bS := Cond.laysApart hdB hdS hdnB hdnS (by rw [hnB, Y.stackName]; decide)
  have bP := Cond.laysApart hdB hdP hdnB hdnP (by rw [hnB, Y.suppName]; decide)
  have hskip : SkipFacts T e.platform s (fun u => u) u0 ((preparedCellV T.toThrowableT (freshCell P1.m.cls kX) a u0 sen).withEntry W.cur) :=
    ⟨{ ci198 := ci198, i198 := i198, fBack := fB }, ⟨hk198, hg198, ha198, hsB⟩, by
      have := fresh_default (c := P1.m.cls) tyB
      rw [htB] at this
      simpa [preparedCellV, Cell.setSlot, Cell.withEntry, Array.getElem?_setIfInBounds, bC, bS, bP, bC.symm, bS.symm, bP.symm, defaultValue] using this, fun _ _ => rfl⟩
  obtain ⟨tm, methC, cdC, kC, vm₁, hnC, -, -, -, -, -, -, -, hW₁, st1⟩ := Steps.initColdS (tb := p.tables) (e := e) (below := below) (s := s) (U := W) X.here hexec X.warmed hpl hown (t := Bundle.initS "java/util/NoSuchElementException") rfl rfl (by decide)
    (mem (.methodLink RX9 344 (Bundle.initS "java/util/NoSuchElementException")) (by simp)) (h (.instanceMethod (Bundle.initS "java/util/NoSuchElementException")) (in3 _ (by simp [Bundle.passSAtoms]))) (bytes := prog_29_method_4_code) (maxL := 2) (h (.code (Bundle.initS "java/util/NoSuchElementException") prog_29_method_4_code 2 none) (in3 _ (by simp [Bundle.passSAtoms])))
    (f := g) hg (a := a) (msg := msg) (rest := .ref a :: rest) hstack hd6
  cases Option.some.inj (hnC.symm.trans hP1m)
  have X₁ := X.noted hW₁
  obtain ⟨vm₂, X₂, st2⟩ := X₁.ctorMessageOffV hexec (g := { g with stack := .ref a :: rest }) hg hsize T L Z LZ M LM (P1 :: P2 :: Ps)
    (fun P hP => by
      rcases List.mem_cons.mp hP with rfl | hP
      · exact L1
      · rcases List.mem_cons.mp hP with rfl | hP
        · exact L2
        · exact hL P hP) ⟨hlink1, hlink2, hlinkR⟩ (u0 := u0) (sen := sen) (self := a) hmsg (cell := freshCell P1.m.cls kX) (cellS := cellS)
    hcell (fun _ => by simp) (by simp) rfl rfl hsel0 hselF hcS' (Nat.ne_of_lt (Nat.lt_of_lt_of_le (Array.getElem?_eq_some_iff.mp hcS0).1 hnew)) hknownS (by rw [hkeep _ (hout' _)]; exact hu0) (by rw [hkeep _ (hout' _)]; exact hsen)
    (Takes.of_laid hk hord tyC (by rw [Y.causeType]; rfl)) (Takes.of_laid hk hord tyS (by rw [Y.stackType]; exact fits_refV_array _ u0)) (Takes.of_laid hk hord tyP (by rw [Y.suppType]; exact fits_refV_object _ sen))
    (Takes.of_laid hk hord tyM (by rw [Y.msgType]; exact fits_refV_object _ ⟨msg, hmsg⟩)) Y.objLocals hskip htr [] hd6
    (by simp only [List.length_cons, hlen, List.length_nil]; omega) (by simp only [List.length_cons, hlen, List.length_nil]; exact hRlocals)
  obtain ⟨hwalk, hrun, hended, hWU, hsame⟩ := X₂.athrowLeaves hexec (g := { g with stack := .ref a :: rest, pc := g.pc + 3 }) hg hlocked hentered hout (a := a) (rest := rest) rfl hd9
  have hlt : a < ((W.setVm vm₁).setVm vm₂).heap.size := (Array.getElem?_eq_some_iff.mp hcell).1
  have hU := heapAt_setCell_self (s := (W.setVm vm₁).setVm vm₂) (plainBareV T.toThrowableT (freshCell P1.m.cls kX) a u0 sen msg) hlt
  refine ⟨_, st1 _ (fun acts => ?_), hrun, hended, hWU, hsame.weaken (fun y hy hlt' => ?_) (Nat.le_refl _) (Nat.le_refl _), _, hU, rfl, hfound⟩
  · rw [doInvoke_state]
    exact st2 _ hwalk
  · rcases List.mem_append.mp hy with h1 | h1
    · exact h1
    · exfalso
      have hb : y.base = a := by
        simp only [List.mem_cons, List.not_mem_nil, or_false] at h1
        rcases h1 with rfl | rfl | rfl | rfl | rfl <;> rfl
      rw [hb] at hlt'
      exact Nat.not_lt.mpr hnew hlt'
end Nse
section Ends13
variable {p : Program} {l : Launch} {e : Env} {R : Room} {s : State} {m : MethodId} {args : Array Value} {below : List Frame} {meth : Method} {c : Code} {H : Heap} {locs : List Loc} {cells slots : Nat} {Q : State → Prop}
variable {mc ms : Nat} {free : Addr → Prop} {A0 A1 : Nat → Prop} {H0 : Heap} {a : Array Value} {ls : Array Slot} {st0 rest : List Value}
variable {Qc : Array Value → State → Outcome → State → Prop} {XC : String → State → State → Prop}
/-- 'throw new NoSuchElementException(text)' in the class -/
theorem cb_throw13 {cc : ByteArray} {pc : Nat} (hexec : p.tables.exec = Jvm.exec) (hb : c.code = cc) (hl : l.stackTraces = false) {text : String} {is mc ms sa : Nat} {A : Nat → Prop}
    (hown : s.vm.findClass RX9 = some m.cls)
    (hk : (Cond.classLink RX9 340 "java/util/NoSuchElementException").before args s = true) (hini : (Cond.initialized "java/util/NoSuchElementException").before args s = true) (hstr : vk_R RX9 is text sa s) (hat : ∀ w ∈ cb_a13.filter vx_no, w.before args s = true)
    (hgood : ∀ w ∈ Cond.classLink RX9 340 "java/util/NoSuchElementException" :: Cond.initialized "java/util/NoSuchElementException" :: cb_a13.filter vx_no, vx_ot w = true)
    (hU : vx_Zq Bundle.tN "UNASSIGNED_STACK" Bundle.steD A s s.heap) (hN : vx_Zq Bundle.tN "SUPPRESSED_SENTINEL" Bundle.listD A s s.heap) (hS : va_S A s.heap H locs) (hsize : ls.size = c.maxLocals)
    (d0 : decode cc pc = .ok (.new 340, 3)) (d3 : decode cc (pc + 3) = .ok (.dup, 1)) (d4 : decode cc (pc + 4) = .ok (.ldc_w is, 3)) (d7 : decode cc (pc + 7) = .ok (.invokespecial 344, 3)) (d10 : decode cc (pc + 10) = .ok (.athrow, 1))
    (hout : ∀ x ∈ c.exceptionTable.toList, covers x (pc + 10) = false)
    (hRframes : 5 < R.frames) (hRlocals : (rest.map fun v => v.category).sum + 82 ≤ R.locals) (hRcells : cells + 1 ≤ R.cells) (hRslots : slots + 6 ≤ R.slots) (hlocks : meth.locks = false)
    (hx : ∀ t : State, s.vm.Alike t.vm → H.size ≤ t.heap.size → (∀ q : Nat, q < H.size → t.heap[q]? = H[q]?) → XC "java/util/NoSuchElementException" s t)
    (hf : ∀ z ∈ locs, free z.base) (hc : cells + 1 ≤ mc) (hs : slots + 6 ≤ ms) :
    W p l e R s m args below meth c H locs cells slots (vx_MQ below Qc XC args s mc ms free) (F0 m pc ls rest) := by
  intro T hT X
  have htr : e.platform.stackTraces = false := (show e.platform.stackTraces = l.stackTraces by rw [X.admits.platform]).trans hl
  have Y := vx_rebase X (R' := { frames := R.frames, locals := R.locals, cells := 1, slots := 6 }) (Nat.le_refl _) (Nat.le_refl _) hRcells hRslots
  obtain ⟨s', hA⟩ : ∃ z, z = (T.setVm s.vm).setFrames (.invoking m args :: below) := ⟨_, rfl⟩
  rw [← hA] at Y
  have hvm : s'.vm = s.vm := by rw [hA]; rfl
  have hhp : s'.heap = H := by rw [hA]; exact hT
  have hW0 : s.WarmedH s'.vm := by rw [hvm]; exact State.WarmedH.refl s
  have hat' : ∀ w ∈ cb_a13.filter vx_no, w.before args s' = true := fun w hw => vx_ot_at hW0 hvm.symm (hgood w (List.mem_cons_of_mem _ (List.mem_cons_of_mem _ hw))) (hat w hw)
  have hk' : (Cond.classLink RX9 340 "java/util/NoSuchElementException").before args s' = true := vx_ot_at hW0 hvm.symm (hgood _ List.mem_cons_self) hk
  have hini' : (Cond.initialized "java/util/NoSuchElementException").before args s' = true := vx_ot_at hW0 hvm.symm (hgood _ (List.mem_cons_of_mem _ List.mem_cons_self)) hini
  have hU' : vx_Zq Bundle.tN "UNASSIGNED_STACK" Bundle.steD A s' s'.heap := by rw [hhp]; exact vx_Zq.moved hW0.alike (hU.kept hS.2.1)
  have hN' : vx_Zq Bundle.tN "SUPPRESSED_SENTINEL" Bundle.listD A s' s'.heap := by rw [hhp]; exact vx_Zq.moved hW0.alike (hN.kept hS.2.1)
  have h : ∀ w ∈ cb_a13, w.before args s' = true := vx_own hat' (vx_isRefq hU'.1) (vx_isRefq hN'.1) hU'.2.word hN'.2.word
  have hown' : s'.vm.findClass RX9 = some m.cls := by rw [hvm]; exact hown
  have hins : (Cond.instantiable "java/util/NoSuchElementException" 6).before args s' = true := h _ (by simp [cb_a13])
  obtain ⟨vm₁, cX, kX, hfX, hkX, -, -, X₁, st1⟩ := Y.newCold hexec (own := RX9) (C := "java/util/NoSuchElementException") (index := 340) (n := 6) hown' hk' hins hini'
    (g := F0 m pc ls rest) rfl (by rw [hb]; exact d0) (Nat.le_refl _) (Nat.le_refl _)
  generalize hT1 : (T.setVm vm₁).pushCell { cls := cX, slots := kX.instanceTypes.map defaultValue, vm := .none } = T1 at X₁ st1
  have hcat : (Value.ref T.heap.size).category = 1 := rfl
  have hcellA : T1.heap[T.heap.size]? = some (freshCell cX kX) := by rw [← hT1]; exact State.heap_pushCell_size _ _
  have d3' : decode c.code (pc + 3) = .ok (.dup, 1) := by rw [hb]; exact d3
  have d4' : decode c.code (pc + 4) = .ok (.ldc_w is, 3) := by rw [hb]; exact d4
  have hstr' : vk_R RX9 is text sa s' := vk_R.warm hW0 hstr
  obtain ⟨U, hsteps, hrun, hend, hW, hsame, ce, hce, hO1, hO2⟩ := cb_ctor13 X₁ hexec htr hown' h (fun x hx => nomatch hx) hfX hkX hcellA (by rw [hhp, hT]; exact Nat.le_refl _) (msg := .ref sa) rfl
    (g := { method := m, pc := pc + 7, locals := ls, stack := .ref sa :: .ref T.heap.size :: .ref T.heap.size :: rest, locked := none }) rfl hsize rfl rfl (rest := rest) rfl
    (by rw [hb]; exact d7) (by rw [hb]; exact d10) hout hRframes (by simp only [List.map_cons, List.sum_cons, hcat]; omega) hlocks
  obtain ⟨f1, f2⟩ := vx_frame hsame
  rw [hhp] at f1 f2
  have hWs : s.WarmedH U.vm := State.WarmedH.trans hW0 hW
  have hcl : s.vm.findClass "java/util/NoSuchElementException" = some ce.cls := by
    have h9 := hO2
    rw [hvm] at h9
    exact h9
  have hall : s.sameButNew ({ U with vm := s.vm } : State) locs mc ms := by
    subst hA
    obtain ⟨e1, e2⟩ := hsame
    rw [State.setFrames_setFrames] at e1
    have h2 : (T.setVm s.vm).sameButNew ({ U with vm := s.vm } : State) [] (0 + 1) (0 + 6) := ⟨e1, e2⟩
    have h3 := X.same.trans h2
    rw [List.append_nil] at h3
    exact h3.mono hc hs
  refine ⟨U, ?_, .threw T.heap.size, hrun, hend, Or.inr ⟨T.heap.size, rfl, "java/util/NoSuchElementException", ce, locs, hx U hWs.alike f1 (fun q hq => f2 q hq (fun z hz => nomatch hz)), hce, hO1, hcl, hWs, hall, hf⟩⟩
  refine st1 _ ?_
  show Steps p.tables e below (T1.setTop { method := m, pc := pc + 3, locals := ls, stack := .ref T.heap.size :: rest, locked := none }) _
  jvm_step X₁.here [X₁.here.top, hexec, d3', Value.category]
  exact X₁.ldcStringW hexec (own := RX9) (text := text) (index := is) (a := sa) hown' hstr'.1 hstr'.2
    (g := { method := m, pc := pc + 4, locals := ls, stack := .ref T.heap.size :: .ref T.heap.size :: rest, locked := none }) rfl d4' _ hsteps
end Ends13
/-- the throws of the class -/
theorem cb_ts9 {tb : List cb_E} {d : cb_D} {X : cb_X} (B : cb_Bs d X) (ho : d.own = RX9) (hno : ∀ x ∈ X.c.exceptionTable.toList, False) (hlocks : X.meth.locks = false) (hQ : X.Q = vx_MQ X.below (cb_Qc tb X.G X.K) (cb_XC tb X.G X.K) X.args X.s d.mc d.ms X.G.A) (hfr : 6 ≤ d.fr) (hlo : 100 ≤ d.lo)
    (hsite : ∀ (pc x j ik is ic : Nat), (pc, Instr.new ik, 3, (7 : Int32), x, j, 0) ∈ d.cd → decode d.cc (pc + 4) = .ok (.ldc_w is, 3) → decode d.cc (pc + 7) = .ok (.invokespecial ic, 3) → ((x = 0 ∧ ik = 340 ∧ ic = 344) ∨ (x = 1 ∧ ik = 349 ∧ ic = 353)) ∧ ∃ tx n, (RX9, is, tx, n) ∈ cb_str) : cb_Ts tb d X := by
  intro H locs a M k n pc lc st x j ik is ic hP hS hsz hKx hk hn hcat hm d0 d3 d4 d7 d10
  obtain ⟨hx, hb, hml, hown, hK, hs0, hl0, hR1, hR2, hR3, hR4⟩ := id B
  obtain ⟨h1, tx, nn, hstr⟩ := hsite pc x j ik is ic hm d4 d7
  have hstr := hK.2.2.2.2.2.1 _ hstr
  rw [ho] at hown
  have hcs : ((cb_cs X.G.ad st).map fun v => v.category).sum ≤ 8 := by rw [cb_cat_sum]; exact hcat
  have key : ∀ t : State, X.s.vm.Alike t.vm → H.size ≤ t.heap.size → (∀ q : Nat, q < H.size → t.heap[q]? = H[q]?) → cb_XC tb X.G X.K (cb_xn x) X.s t := by
    intro t _ hz hq
    refine ⟨⟨x, (a.1, none), M, rfl, hKx, fun t' i' ha => ⟨(hP.1 t' i' ha).1.kept (hq _ (hP.lt ha)) (fun _ => rfl), (hP.1 t' i' ha).2⟩, hP.2.1, fun z hz => by cases hz⟩, Nat.le_trans hS.1 hz, fun q h1 h2 => ?_⟩
    rw [hq q (Nat.lt_of_lt_of_le h1 hS.1)]
    exact hS.2.1 q h1 h2
  show W X.p X.l X.e X.R X.s X.m X.args X.below X.meth X.c H locs k n X.Q _
  rw [hQ]
  have hat : ∀ {ws : List Cond}, (∀ w ∈ ws, w ∈ lw_tbl ∧ (goodWord w = true ∨ cb_nw w = true) ∧ vx_ot w = true) → ∀ w ∈ ws, w.before X.args X.s = true := by
    intro ws hh w hw
    obtain ⟨g1, g2, -⟩ := hh w hw
    rcases g2 with g2 | g2
    · exact hK.1 w g1 g2 _
    · exact va_Nw.use (cb_nwT g2) (hK.2.1 w g1 g2)
  rcases h1 with ⟨rfl, rfl, rfl⟩ | ⟨rfl, rfl, rfl⟩
  · exact cb_throw13 (A := X.G.A) hx hb hl0 hown (hK.1 _ (cb_tw (i := 789) (by decide +kernel)) rfl _) (hK.1 _ (cb_tw (i := 23) (by decide +kernel)) rfl _) hstr (hat cb_xw0)
      (fun w hw => by
        rcases List.mem_cons.mp hw with rfl | hw
        · rfl
        rcases List.mem_cons.mp hw with rfl | hw
        · rfl
        exact (cb_xw0 w hw).2.2)
      hK.2.2.2.2.1.1 hK.2.2.2.2.1.2 hS (by rw [hml]; exact hsz) d0 d3 d4 d7 d10 (fun z hz => (hno z hz).elim) (by rw [hR1]; omega) (by rw [hR4]; omega) (by rw [hR2]; exact hk) (by rw [hR3]; exact hn) hlocks key (fun z hz => hS.2.2 z hz) hk hn
  · exact vx_throwSW (cls := "java/lang/IllegalArgumentException") (names := ["java/lang/RuntimeException", "java/lang/Exception"]) (A := X.G.A) hx hb hl0 hown (by decide +kernel) (by decide +kernel) (hK.1 _ (cb_tw (i := 551) (by decide +kernel)) rfl _) (hK.1 _ (cb_tw (i := 15) (by decide +kernel)) rfl _) hstr (hat cb_xw1)
      (fun w hw => by
        rcases List.mem_cons.mp hw with rfl | hw
        · rfl
        rcases List.mem_cons.mp hw with rfl | hw
        · rfl
        exact (cb_xw1 w hw).2.2)
      hK.2.2.2.2.1.1 hK.2.2.2.2.1.2 hS (by rw [hml]; exact hsz) d0 d3 d4 d7 d10 (fun z hz => (hno z hz).elim) (by rw [hR1]; show 2 + 3 < _; omega) (by rw [hR4]; have := hcs; show _ + (13 * (2 + 1) + 43) ≤ _; omega) (by rw [hR2]; exact hk) (by rw [hR3]; exact hn) hlocks key (fun z hz => hS.2.2 z hz) hk hn
