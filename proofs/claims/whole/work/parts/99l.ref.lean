/-! ===== the law calls the reference ===== -/
theorem hl_m {na : Nat} {sp : cb_Sp} {r : List cb_V} {n : Nat} {f : Option Nat} {M : cb_M} {K2 : Option cb_V → cb_M → Prop} (hr : r.length = na) (hl : cb_nl r = true) (h : sp 0 r M K2) : cb_m 46 na sp (cb_r 46 0 :: r) (cb_aS n, f) M (fun o a' M' => match o with | .inl v => a' = (cb_aS n, f) ∧ K2 v M' | .inr _ => False) := by
  have e : (fun v M' => (cb_aS n, f) = (cb_aS n, f) ∧ K2 v M') = K2 := funext fun v => funext fun M' => propext ⟨fun h => h.2, fun h => ⟨rfl, h⟩⟩
  show cb_ck (Nat.beq 46 46) (cb_ck (Nat.beq r.length na) (cb_ck (cb_nl r) (((∃ n', cb_aS n = cb_aS n') ∧ cb_aS n 46 0 = true) ∧ sp 0 r M fun v M' => (cb_aS n, f) = (cb_aS n, f) ∧ K2 v M')))
  rw [e]
  exact cb_ck.of rfl (cb_ck.of (by rw [hr]; exact Nat.beq_refl na) (cb_ck.of hl ⟨⟨⟨n, rfl⟩, rfl⟩, h⟩))
/-- a call at a cut that doesn't throw: any contract -/
theorem cl_call {d : cb_D} {X : cb_X} {pc : Nat} {ls : cb_Ls} {st : List cb_V} {a : cb_A} {M : cb_M} {k n idx na mc ms : Nat} {PT : cb_PT} {As : List cb_V} (hcs : cb_CS cb_tb d X (0, idx, na, mc, ms, PT)) (hn : As.length = na) (hcat : cb_cat st ≤ 8) (hk : k + mc ≤ d.mc) (hms : n + ms ≤ d.ms) (hd : decode d.cc pc = .ok (.invokevirtual idx, 3))
    {K : cb_Out → cb_A → cb_M → Prop} (h : PT As a M K) (hv : ∀ v a' M', K (.inl v) a' M' → cb_Gd cb_tb d X (pc + 3) ls (v.toList ++ st) a' M' (k + mc) (n + ms)) (hx : ∀ x a' M', ¬ K (.inr x) a' M') : cb_Gd cb_tb d X pc ls (As.reverse ++ st) a M k n := by
  intro C H locs lc hP hS hL
  exact hcs a M As K H locs k n pc lc st hn h hP hS hL.1 hcat hk hms hd (fun v a' M' H' locs' hK hP' hS' => hv v a' M' hK C H' locs' lc hP' hS' hL) (fun x a' M' H' locs' q ce hK => absurd hK (hx _ _ _))
