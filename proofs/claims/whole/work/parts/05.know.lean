/-! ===== what is known of the tables and of the cells that stay ===== -/
def cb_ety : Nat → FieldType
  | 1 => .int
  | 2 => .byte
  | 3 => .boolean
  | 4 => .long
  | 5 => .object RX3
  | _ => .array .int
def cb_nw : Cond → Bool
  | .castable _ _ => true
  | .declares _ => true
  | .methodLinkNest _ _ _ _ => true
  | _ => false
/-- the texts: class, entry, text, number -/
def cb_str : List (String × Nat × String × Nat) := [(RX6, 162, "board", 0), (RX6, 167, "clock", 1), (RX6, 169, "hook", 2), (RX6, 171, "hears", 3), (RX6, 172, "damp", 4), (RX6, 173, "key", 5), (RX6, 174, "sound", 6), (RX6, 175, "right", 7), (RX9, 342, "no such clock", 8), (RX9, 347, "no such hook", 9), (RX9, 351, "a clock with itself", 10), (RX9, 354, "a number outside its limits", 11)]
def cb_slen : List Nat := [5, 5, 4, 5, 4, 3, 5, 5]
def cb_sbyt : List (List Int32) := [[98, 111, 97, 114, 100], [99, 108, 111, 99, 107], [104, 111, 111, 107], [104, 101, 97, 114, 115], [100, 97, 109, 112], [107, 101, 121], [115, 111, 117, 110, 100], [114, 105, 103, 104, 116]]
def cb_K (G : cb_G) (U : State) : Prop :=
  (∀ w ∈ lw_tbl, goodWord w = true → ∀ a : Array Value, w.before a U = true) ∧ (∀ w ∈ lw_tbl, cb_nw w = true → va_Nw w U) ∧
  (∀ (c : Nat) (q : vw_C), cb_cl[c]? = some q → u_Kn U q.1 q.2.1 q.2.2 (G.dC c) (G.dI c)) ∧
  (∀ k : Nat, 1 ≤ k → k ≤ 6 → ArrOfT U (G.dA k) (cb_ety k) ∧ va_RA U (G.dA k) (cb_ety k)) ∧
  (vx_Zq Bundle.tN "UNASSIGNED_STACK" Bundle.steD G.A U U.heap ∧ vx_Zq Bundle.tN "SUPPRESSED_SENTINEL" Bundle.listD G.A U U.heap) ∧
  (∀ q ∈ cb_str, vk_R q.1 q.2.1 q.2.2.1 (G.ad 91 q.2.2.2) U) ∧ vk_S 8 cb_slen cb_sbyt (fun j => G.ad 91 j) (fun j => G.ad 92 j) G.A U U.heap ∧
  va_Z "java/lang/String" "COMPACT_STRINGS" "Z" (.int 1) G.A U U.heap ∧ (va_Z "jdk/internal/util/Preconditions" "SIOOBE_FORMATTER" "Ljava/util/function/BiFunction;" .null G.A U U.heap ∨ va_Z "jdk/internal/util/Preconditions" "SIOOBE_FORMATTER" "Ljava/util/function/BiFunction;" (.ref (G.ad 93 0)) G.A U U.heap)
theorem cb_nwarm {w : Cond} (h : cb_nw w = true) {s U : State} (hW : s.WarmedH U.vm) (hZ : va_Nw w s) : va_Nw w U := by
  cases w <;> first | exact va_Nw.warmC hW hZ | exact va_Nw.warmD hW hZ | exact va_Nw.warmM hW hZ | exact absurd h (by simp [cb_nw])
theorem cb_K.moved {G : cb_G} {s U : State} (hW : s.WarmedH U.vm) (hh : ∀ q : Nat, q < s.heap.size → ¬ G.A q → U.heap[q]? = s.heap[q]?) (h : cb_K G s) : cb_K G U := by
  obtain ⟨h1, h2, h3, h4, h5, h6, h7, h8, h9⟩ := h
  refine ⟨fun w hw g a => word_at hW (good_of_word g) (h1 w hw g #[]), fun w hw g => cb_nwarm g hW (h2 w hw g), fun c q hq => u_Kn_moved hW.alike (h3 c q hq), fun k k1 k2 => ⟨arrOfT_moved hW.alike (h4 k k1 k2).1, (h4 k k1 k2).2.moved hW.alike⟩,
    ⟨(vx_Zq.moved hW.alike h5.1).kept hh, (vx_Zq.moved hW.alike h5.2).kept hh⟩, fun q hq => vk_R.warm hW (h6 q hq), (vk_S.moved hW.alike h7).kept hh, (va_Z.moved hW.alike h8).kept hh, ?_⟩
  exact h9.imp (fun h => (va_Z.moved hW.alike h).kept hh) (fun h => (va_Z.moved hW.alike h).kept hh)
