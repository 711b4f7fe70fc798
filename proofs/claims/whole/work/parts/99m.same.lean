/-! ===== a method's rows in pieces ===== -/
theorem cb_Gd.same {own : String} {cc : ByteArray} {nL : Nat} {ret : Option FieldType} {rm : Nat × Nat × Nat × Nat} {cd cd' : List cb_O} {ga : List cb_Ga} {sw sw' : List (Nat × List (Int32 × Nat) × Nat)} {tb : List cb_E} {X : cb_X} {pc : Nat} {ls : cb_Ls} {st : List cb_V} {a : cb_A} {M : cb_M} {k n : Nat} (hT : cb_noT (own, cc, nL, ret, rm, cd, ga, sw) = true) (h : cb_Gd tb (own, cc, nL, ret, rm, cd, ga, sw) X pc ls st a M k n) : cb_Gd tb (own, cc, nL, ret, rm, cd', ga, sw') X pc ls st a M k n := by
  intro C
  obtain ⟨c1, c2, c3, c4, c5, c6, c7, c8, -, c10, c11⟩ := C
  exact h ⟨c1, c2, c3, c4, c5, c6, c7, c8, cb_Ts0 hT, c10, c11⟩
/-- the law's own end -/
def lw_K : cb_Out → cb_A → cb_M → Prop := fun o _ _ => o = .inl (some (cb_i 1))
abbrev lw_D (cd : List cb_O) (sw : List (Nat × List (Int32 × Nat) × Nat)) : cb_D := (RL, code, 7, some .boolean, (room_1.cells, room_1.slots, room_1.frames, room_1.locals), cd, [], sw)
