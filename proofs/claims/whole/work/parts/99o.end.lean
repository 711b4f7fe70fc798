/-! ===== the law's own end ===== -/
theorem lw_Cx {p : Program} {l : Launch} {e : Env} {s : State} {m : MethodId} {below : List Frame} {meth : Method} {c : Code} {b : Nat} {G : cb_G} {cd : List cb_O} {sw : List (Nat × List (Int32 × Nat) × Nat)} (hx : p.tables.exec = Jvm.exec) (hb : c.code = code) (hr : meth.sig.returnType = ret) (hml : c.maxLocals = 7) (hown : s.vm.findClass RL = some m.cls) (hlocks : meth.locks = false) (hG : G.1 = s.heap.size) (hK : cb_K G s) (hT : cb_noT (lw_D cd sw) = true) : cb_Cx cb_tb (lw_D cd sw) (p, l, e, room_1, s, m, #[Value.ref b], below, meth, c, G, lw_Z below #[Value.ref b] s, lw_K) := by
  refine ⟨hx, hb, hml, hown, hK, by show G.1 ≤ s.heap.size; omega, ?_, ?_, cb_Ts0 hT, (fun g hg => nomatch hg), rfl, rfl, rfl, rfl⟩
  · intro H locs a M k n pc lc v hP hS hKv h1 h2 hv
    have hKv : (Sum.inl v : cb_Out) = .inl (some (cb_i 1)) := hKv
    injection hKv with hKv
    subst hKv
    refine va_forget (fun q hq => ?_) (W.widen h1 h2 (lw_ret hx hb hr hlocks hv.2))
    have h9 : G.1 ≤ q.base := hS.2.2 q hq
    rw [hG] at h9
    exact h9
  · intro H locs a M k n pc lc rest x q ce hP hS hKx
    have hKx : (Sum.inr x : cb_Out) = .inl (some (cb_i 1)) := hKx
    cases hKx
