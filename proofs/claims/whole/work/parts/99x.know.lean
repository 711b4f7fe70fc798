/-! ===== what is known at the start ===== -/
theorem st_inst : ∀ {c : Nat} {q : vw_C}, cb_cl[c]? = some q → ∃ n, Cond.instantiable q.1 n ∈ lw_tbl
  | 0, q, h => by cases Option.some.inj h; exact ⟨2, cb_tw (i := 307) (by decide +kernel)⟩
  | 1, q, h => by cases Option.some.inj h; exact ⟨4, cb_tw (i := 330) (by decide +kernel)⟩
  | 2, q, h => by cases Option.some.inj h; exact ⟨2, cb_tw (i := 294) (by decide +kernel)⟩
  | 3, q, h => by cases Option.some.inj h; exact ⟨8, cb_tw (i := 163) (by decide +kernel)⟩
  | 4, q, h => by cases Option.some.inj h; exact ⟨17, cb_tw (i := 61) (by decide +kernel)⟩
  | 5, q, h => by cases Option.some.inj h; exact ⟨1, cb_tw (i := 320) (by decide +kernel)⟩
  | 6, q, h => by cases Option.some.inj h; exact ⟨6, cb_tw (i := 34) (by decide +kernel)⟩
  | 7, q, h => by cases Option.some.inj h; exact ⟨18, cb_tw (i := 213) (by decide +kernel)⟩
  | 8, q, h => by cases Option.some.inj h; exact ⟨1, cb_tw (i := 349) (by decide +kernel)⟩
  | 9, q, h => by cases Option.some.inj h; exact ⟨15, cb_tw (i := 26) (by decide +kernel)⟩
  | 10, q, h => by cases Option.some.inj h; exact ⟨54, cb_tw (i := 1320) (by decide +kernel)⟩
  | c + 11, q, h => by cases h
theorem st_cls {s : State} {b : Nat} (hts : ∀ w ∈ lw_tbl, w.before #[Value.ref b] s = true) : ∃ (dC : Nat → ClassId) (dI : Nat → Nat → Nat), ∀ (c : Nat) (q : vw_C), cb_cl[c]? = some q → u_Kn s q.1 q.2.1 q.2.2 (dC c) (dI c) := by
  have h0 : ∀ c : Nat, ∃ r : ClassId × (Nat → Nat), ∀ q : vw_C, cb_cl[c]? = some q → u_Kn s q.1 q.2.1 q.2.2 r.1 r.2 := fun c => by
    cases e : cb_cl[c]? with
    | none => exact ⟨(0, fun _ => 0), fun q h => by cases h⟩
    | some q =>
      obtain ⟨n, hn⟩ := st_inst e
      obtain ⟨cC, iS, h⟩ := u_known (ws := lw_tbl) (C := q.1) (T := q.2.1) (N := q.2.2) hts (fun w hw => ((cb_cok e).1 w hw).1) (hts _ hn)
      exact ⟨(cC, iS), fun q' h' => by cases h'; exact h⟩
  obtain ⟨f, hf⟩ := Classical.axiomOfChoice h0
  exact ⟨fun c => (f c).1, fun c => (f c).2, hf⟩
theorem st_arr {s : State} {A : Array Value} {ty : FieldType} (h : (Cond.arrayClass ty).before A s = true) : ∃ c, ArrOfT s c ty ∧ s.vm.findClass ("[" ++ ty.toString) = some c := by
  obtain ⟨c, k, comp, h1, h2, h3⟩ := Cond.arrayClass_spec (args := A) (first := s) (o := none) (s := s) (idx := []) h
  exact ⟨c, fun n z => ⟨(fun k h => by cases h), k, h2, comp, h3⟩, h1⟩
theorem st_AO {s : State} {b : Nat} (hts : ∀ w ∈ lw_tbl, w.before #[Value.ref b] s = true) : cb_AO s := ⟨va_AO.of (hts _ (cb_tw (i := 211) (by decide +kernel))), hts (Cond.arrayOver (.array .int)) (cb_tw (i := 1326) (by decide +kernel))⟩
theorem st_arrs {s : State} {b : Nat} (hts : ∀ w ∈ lw_tbl, w.before #[Value.ref b] s = true) : ∃ dA : Nat → ClassId, ∀ k : Nat, 1 ≤ k → k ≤ 6 → ArrOfT s (dA k) (cb_ety k) ∧ va_RA s (dA k) (cb_ety k) := by
  obtain ⟨c1, a1, b1⟩ := st_arr (hts _ (cb_tw (i := 161) (by decide +kernel) : Cond.arrayClass .int ∈ lw_tbl))
  obtain ⟨c2, a2, b2⟩ := st_arr (hts _ (cb_tw (i := 59) (by decide +kernel) : Cond.arrayClass .byte ∈ lw_tbl))
  obtain ⟨c3, a3, b3⟩ := st_arr (hts _ (cb_tw (i := 1491) (by decide +kernel) : Cond.arrayClass .boolean ∈ lw_tbl))
  obtain ⟨c4, a4, b4⟩ := st_arr (hts _ (cb_tw (i := 1876) (by decide +kernel) : Cond.arrayClass .long ∈ lw_tbl))
  obtain ⟨p5, c5, k5, g1, -, g3, g4, g5⟩ := Cond.arrayOver_spec (args := #[]) (first := s) (o := none) (s := s) (idx := []) (st_AO hts).1
  obtain ⟨p6, c6, k6, e1, -, e3, e4, e5⟩ := Stand.arrayOver_specB (args := #[]) (first := s) (o := none) (s := s) (idx := []) (st_AO hts).2
  refine ⟨fun k => match k with | 1 => c1 | 2 => c2 | 3 => c3 | 4 => c4 | 5 => c5 | _ => c6, fun k h1 h2 => ?_⟩
  rcases (show k = 1 ∨ k = 2 ∨ k = 3 ∨ k = 4 ∨ k = 5 ∨ k = 6 by omega) with rfl | rfl | rfl | rfl | rfl | rfl
  · exact ⟨a1, b1⟩
  · exact ⟨a2, b2⟩
  · exact ⟨a3, b3⟩
  · exact ⟨a4, b4⟩
  · exact ⟨fun n z => ⟨(fun k h => by cases h), k5, g3, p5, g4⟩, k5, p5, g3, g4, g1, g5⟩
  · exact ⟨fun n z => ⟨(fun k h => by cases h), k6, e3, p6, e4⟩, e5⟩
def st_ent : List Nat := [162, 167, 169, 171, 172, 173, 174, 175]
def st_tm (i : Nat) : Term := .string RX6 (st_ent.getD i 0)
theorem st_8 {P : Nat → Prop} (h0 : P 0) (h1 : P 1) (h2 : P 2) (h3 : P 3) (h4 : P 4) (h5 : P 5) (h6 : P 6) (h7 : P 7) : ∀ i, i < 8 → P i := fun i hi => by
  rcases (show i = 0 ∨ i = 1 ∨ i = 2 ∨ i = 3 ∨ i = 4 ∨ i = 5 ∨ i = 6 ∨ i = 7 by omega) with rfl | rfl | rfl | rfl | rfl | rfl | rfl | rfl <;> assumption
abbrev st_F : List Cond := flatC (Jvm.Cond.and given_1 narrow_1)
theorem st_f1 : ∀ i, i < 8 → Cond.exactly (st_tm i) "java/lang/String" ∈ st_F := by decide +kernel
theorem st_f2 : ∀ i, i < 8 → Cond.eq (.field (st_tm i) "java/lang/String" "coder" "B") (.int 0) ∈ st_F := by decide +kernel
theorem st_f3 : ∀ i, i < 8 → Cond.arrayOf (.field (st_tm i) "java/lang/String" "value" "[B") .byte ∈ st_F := by decide +kernel
theorem st_f4 : ∀ i, i < 8 → Cond.eq (.length (.field (st_tm i) "java/lang/String" "value" "[B")) (.int (Int32.ofNat (cb_slen.getD i 0))) ∈ st_F := by decide +kernel
theorem st_f5 : ∀ i, i < 8 → ∀ j, j < cb_slen.getD i 0 → Cond.eq (.elem (.field (st_tm i) "java/lang/String" "value" "[B") (.int (Int32.ofNat j))) (.int ((cb_sbyt.getD i []).getD j 0)) ∈ st_F := by decide +kernel
theorem st_f6 : ∀ i, i < 8 → ∀ j, j < 8 → i ≠ j → Cond.not (Cond.eq (st_tm i) (st_tm j)) ∈ st_F ∨ Cond.not (Cond.eq (st_tm j) (st_tm i)) ∈ st_F := by decide +kernel
theorem st_str {s : State} {b : Nat} {A : Nat → Prop} (hgv : (Jvm.Cond.and given_1 narrow_1).before #[Value.ref b] s = true) (hA : ∀ a : Nat, a < s.heap.size → ¬ A a) : ∃ aK aV : Nat → Nat, vk_S 8 cb_slen cb_sbyt aK aV A s s.heap ∧ ∀ i : Nat, i < 8 → (st_tm i).eval #[Value.ref b] s none [] s = some (.ref (aK i)) := by
  have hs := flat_of_before _ hgv
  exact vk_Sof (tm := st_tm) (fun i hi => by
    have : ∀ i, i < 8 → cb_slen.getD i 0 < 2 ^ 31 := by decide
    exact this i hi) (fun i hi => hs _ (st_f1 i hi)) (fun i hi => hs _ (st_f2 i hi)) (fun i hi => hs _ (st_f3 i hi)) (fun i hi => hs _ (st_f4 i hi)) (fun i hi j hj => hs _ (st_f5 i hi j hj)) (fun i j hi hj hn => (st_f6 i hi j hj hn).imp (hs _) (hs _)) hA
theorem st_ev {s : State} {b : Nat} {t : Term} (h : (Cond.exactly t "java/lang/String").before #[Value.ref b] s = true) : ∃ a, t.eval #[Value.ref b] s none [] s = some (.ref a) := by
  obtain ⟨a, c, cA, kA, q1, -⟩ := Cond.exactly_spec (args := #[Value.ref b]) (first := s) (o := none) (s := s) (idx := []) (t := t) (cls := "java/lang/String") h
  exact ⟨a, q1⟩
theorem st_know {s : State} {b : Nat} (hts : ∀ w ∈ lw_tbl, w.before #[Value.ref b] s = true) (hgv : (Jvm.Cond.and given_1 narrow_1).before #[Value.ref b] s = true) : ∃ (dC : Nat → ClassId) (dI : Nat → Nat → Nat) (dA : Nat → ClassId) (aS aV : Nat → Nat) (aF : Nat), ∀ ad : Nat → Nat → Nat, (∀ j, ad 91 j = aS j) → (∀ j, ad 92 j = aV j) → ad 93 0 = aF → cb_K (s.heap.size, ad, dC, dI, dA) s := by
  have hs := flat_of_before _ hgv
  have hA : ∀ a : Nat, a < s.heap.size → ¬ (fun q => s.heap.size ≤ q) a := fun a h1 h2 => Nat.not_le.mpr h1 h2
  obtain ⟨dC, dI, hC⟩ := st_cls hts
  obtain ⟨dA, hDA⟩ := st_arrs hts
  obtain ⟨aK, aV, hS, hE⟩ := st_str (A := fun q => s.heap.size ≤ q) hgv hA
  obtain ⟨a8, e8⟩ := st_ev (t := .string RX9 342) (hs _ (by decide +kernel))
  obtain ⟨a9, e9⟩ := st_ev (t := .string RX9 347) (hs _ (by decide +kernel))
  obtain ⟨a10, e10⟩ := st_ev (t := .string RX9 351) (hs _ (by decide +kernel))
  obtain ⟨a11, e11⟩ := st_ev (t := .string RX9 354) (hs _ (by decide +kernel))
  have z1 := vx_Zqof (A := fun q => s.heap.size ≤ q) (C := Bundle.tN) (n := "UNASSIGNED_STACK") (d := Bundle.steD) (hts _ (cb_tw (i := 578) (by decide +kernel))) (hts _ (cb_tw (i := 12) (by decide +kernel))) (hs _ (by decide +kernel)) hA
  have z2 := vx_Zqof (A := fun q => s.heap.size ≤ q) (C := Bundle.tN) (n := "SUPPRESSED_SENTINEL") (d := Bundle.listD) (hts _ (cb_tw (i := 580) (by decide +kernel))) (hts _ (cb_tw (i := 12) (by decide +kernel))) (hs _ (by decide +kernel)) hA
  have z3 := va_Zof (A := fun q => s.heap.size ≤ q) (C := "java/lang/String") (n := "COMPACT_STRINGS") (d := "Z") (hts _ (cb_tw (i := 656) (by decide +kernel))) (hts _ (cb_tw (i := 18) (by decide +kernel))) (va_eqi (z := 1) (hs _ (by decide +kernel))) hA
  have z4 := va_Zqof (A := fun q => s.heap.size ≤ q) (C := "jdk/internal/util/Preconditions") (n := "SIOOBE_FORMATTER") (d := "Ljava/util/function/BiFunction;") (hts _ (cb_tw (i := 672) (by decide +kernel))) (hts _ (cb_tw (i := 20) (by decide +kernel))) (hs _ (by decide +kernel)) hA
  obtain ⟨aF, hF⟩ : ∃ aF : Nat, va_Z "jdk/internal/util/Preconditions" "SIOOBE_FORMATTER" "Ljava/util/function/BiFunction;" .null (fun q => s.heap.size ≤ q) s s.heap ∨ va_Z "jdk/internal/util/Preconditions" "SIOOBE_FORMATTER" "Ljava/util/function/BiFunction;" (.ref aF) (fun q => s.heap.size ≤ q) s s.heap := by
    rcases z4 with h | ⟨t, h⟩
    · exact ⟨0, Or.inl h⟩
    · exact ⟨t, Or.inr h⟩
  refine ⟨dC, dI, dA, fun j => if j < 8 then aK j else if j = 8 then a8 else if j = 9 then a9 else if j = 10 then a10 else a11, aV, aF, fun ad h91 h92 h93 => ⟨fun w hw g a => word_at (State.WarmedH.refl s) (good_of_word g) (hts w hw), fun w hw g => ?_, hC, hDA, ⟨z1, z2⟩, fun q hq => ?_, ?_, z3, ?_⟩⟩
  · refine va_Nw.of ?_ (hts w hw)
    cases w <;> first | rfl | exact absurd g (by simp [cb_nw])
  · have e91 : (s.heap.size, ad, dC, dI, dA).2.1 91 = fun j => if j < 8 then aK j else if j = 8 then a8 else if j = 9 then a9 else if j = 10 then a10 else a11 := funext h91
    simp only [cb_str, List.mem_cons, List.not_mem_nil, or_false] at hq
    show vk_R q.1 q.2.1 q.2.2.1 ((s.heap.size, ad, dC, dI, dA).2.1 91 q.2.2.2) s
    rw [e91]
    rcases hq with rfl | rfl | rfl | rfl | rfl | rfl | rfl | rfl | rfl | rfl | rfl | rfl
    · exact vk_R.of (hts _ (cb_tw (i := 642) (by decide +kernel))) (hE 0 (by decide))
    · exact vk_R.of (hts _ (cb_tw (i := 695) (by decide +kernel))) (hE 1 (by decide))
    · exact vk_R.of (hts _ (cb_tw (i := 696) (by decide +kernel))) (hE 2 (by decide))
    · exact vk_R.of (hts _ (cb_tw (i := 697) (by decide +kernel))) (hE 3 (by decide))
    · exact vk_R.of (hts _ (cb_tw (i := 698) (by decide +kernel))) (hE 4 (by decide))
    · exact vk_R.of (hts _ (cb_tw (i := 699) (by decide +kernel))) (hE 5 (by decide))
    · exact vk_R.of (hts _ (cb_tw (i := 700) (by decide +kernel))) (hE 6 (by decide))
    · exact vk_R.of (hts _ (cb_tw (i := 701) (by decide +kernel))) (hE 7 (by decide))
    · exact vk_R.of (hts _ (cb_tw (i := 798) (by decide +kernel))) e8
    · exact vk_R.of (hts _ (cb_tw (i := 951) (by decide +kernel))) e9
    · exact vk_R.of (hts _ (cb_tw (i := 835) (by decide +kernel))) e10
    · exact vk_R.of (hts _ (cb_tw (i := 591) (by decide +kernel))) e11
  · have e : (fun j => (s.heap.size, ad, dC, dI, dA).2.1 92 j) = aV := funext h92
    have h91k : ∀ i, i < 8 → ad 91 i = aK i := fun i hi => (h91 i).trans (if_pos hi)
    refine ⟨fun i hi => ?_, fun i j hi hj e9 => hS.2 i j hi hj ?_⟩
    · have := hS.1 i hi
      show va_O "java/lang/String" (ad 91 i) _ s s.heap ∧ va_OF "java/lang/String" "coder" "B" (.int 0) (ad 91 i) _ s s.heap ∧ va_OF "java/lang/String" "value" "[B" (.ref (ad 92 i)) (ad 91 i) _ s s.heap ∧ va_T .byte (ad 92 i) _ _ _ s s.heap
      rw [h91k i hi, h92]
      exact this
    · have e9 : ad 91 i = ad 91 j := e9
      rw [h91k i hi, h91k j hj] at e9
      exact e9
  · show _ ∨ va_Z "jdk/internal/util/Preconditions" "SIOOBE_FORMATTER" "Ljava/util/function/BiFunction;" (.ref (ad 93 0)) _ s s.heap
    rw [h93]
    exact hF
theorem st_NC {s : State} {b : Nat} (hgv : (Jvm.Cond.and given_1 narrow_1).before #[Value.ref b] s = true) : cb_NC s := va_Nc.of (flat_of_before _ hgv _ (by decide +kernel))
