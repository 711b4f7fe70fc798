/-! ===== the reader: words, clauses ===== -/
theorem rd_call {M : cb_M} {K : Option cb_V → cb_M → Prop} {len at_ : Nat} {lo hi : Int32} {tx : wm_F} (hE : rd_E M len at_) (h0 : cb_gI M 1 0 4 = 0) (ht : cb_gI M 2 0 = tx)
    (hl : ∀ M' v k b, cb_fr fr_1 M M' → rd_num tx len lo hi at_ = .inl (k, b) → ¬ k = 0 → cb_gI M' 1 0 4 = k → cb_gI M' 1 0 5 = nI b → (∃ a, rd_E M' len a) → K (some (cb_i v)) M')
    (hr : ∀ M' w e b, cb_fr fr_1 M M' → rd_num tx len lo hi at_ = .inr (w, e, b) → rd_E M' len e → cb_gI M' 1 0 3 = nI b → cb_gI M' 1 0 4 = 0 → cb_gI M' 1 0 5 = cb_gI M 1 0 5 → cb_gI M' 2 0 = tx → K (some (cb_i w)) M') : sp_X6_readNumber 0 [.inl lo, .inl hi] M K := by
  refine ⟨len, at_, hE, fun q => absurd h0 q, fun _ M' v hF hp => ?_⟩
  rw [ht] at hp
  cases e : rd_num tx len lo hi at_ with
  | inl x =>
    obtain ⟨k, b⟩ := x
    rw [e] at hp
    exact hl M' v k b hF e hp.1 hp.2.1 hp.2.2.1 hp.2.2.2
  | inr x =>
    obtain ⟨w, e', b⟩ := x
    rw [e] at hp
    obtain ⟨rfl, h1, h2, h3, h4⟩ := hp
    exact hr M' _ e' b hF e h1 h2 h3 h4 ((hF.fn 2 0 (fun _ => rfl)).trans ht)
theorem rd_dn {M : cb_M} {K : Option cb_V → cb_M → Prop} {len : Nat} {lo hi : Int32} (hE : ∃ a, rd_E M len a) (h0 : ¬ cb_gI M 1 0 4 = 0) (h : K (some (cb_i 0)) M) : sp_X6_readNumber 0 [.inl lo, .inl hi] M K := by
  obtain ⟨a, hE⟩ := hE
  exact ⟨len, a, hE, fun _ => h, fun q => absurd q h0⟩
theorem rd_ecall {M : cb_M} {K : Option cb_V → cb_M → Prop} {len at_ : Nat} {tx : wm_F} (hE : rd_E M len at_) (h0 : cb_gI M 1 0 4 = 0) (ht : cb_gI M 2 0 = tx)
    (hl : ∀ M' k b, cb_fr fr_1 M M' → rd_close tx len at_ = .inl (k, b) → ¬ k = 0 → cb_gI M' 1 0 4 = k → cb_gI M' 1 0 5 = nI b → (∃ a, rd_E M' len a) → K (some (cb_i (cb_z false))) M')
    (hr : ∀ M' e, cb_fr fr_1 M M' → rd_close tx len at_ = .inr e → rd_E M' len e → cb_gI M' 1 0 4 = 0 → cb_gI M' 1 0 5 = cb_gI M 1 0 5 → K (some (cb_i (cb_z true))) M') : sp_X6_endsClause 0 [] M K := by
  refine ⟨len, at_, hE, fun q => absurd h0 q, fun _ M' v hF hp => ?_⟩
  rw [ht] at hp
  cases e : rd_close tx len at_ with
  | inl x =>
    obtain ⟨k, b⟩ := x
    rw [e] at hp
    obtain ⟨rfl, h1, h2, h3, h4⟩ := hp
    exact hl M' k b hF e h1 h2 h3 h4
  | inr x =>
    rw [e] at hp
    obtain ⟨rfl, h1, h2, h3⟩ := hp
    exact hr M' x hF e h1 h2 h3
theorem rd_de {M : cb_M} {K : Option cb_V → cb_M → Prop} {len : Nat} (hE : ∃ a, rd_E M len a) (h0 : ¬ cb_gI M 1 0 4 = 0) (h : K (some (cb_i (cb_z false))) M) : sp_X6_endsClause 0 [] M K := by
  obtain ⟨a, hE⟩ := hE
  exact ⟨len, a, hE, fun _ => h, fun q => absurd q h0⟩
/-! a plan as it is read -/
abbrev rd_P : Type := (Nat × Nat × Nat) × (Int32 × Int32) × wm_F × (wm_F × wm_F × wm_F × wm_F × wm_F × wm_F) × wm_F × (wm_F × wm_F) × wm_F × wm_F
abbrev rd_P.nb (A : rd_P) : Nat := A.1.1
abbrev rd_P.n (A : rd_P) : Nat := A.1.2.1
abbrev rd_P.h (A : rd_P) : Nat := A.1.2.2
abbrev rd_P.so (A : rd_P) : Int32 := A.2.1.1
abbrev rd_P.w (A : rd_P) : Int32 := A.2.1.2
abbrev rd_P.th (A : rd_P) : wm_F := A.2.2.1
abbrev rd_P.c (A : rd_P) : wm_F × wm_F × wm_F × wm_F × wm_F × wm_F := A.2.2.2.1
abbrev rd_P.ky (A : rd_P) : wm_F := A.2.2.2.2.1
abbrev rd_P.hk (A : rd_P) : wm_F × wm_F := A.2.2.2.2.2.1
abbrev rd_P.he (A : rd_P) : wm_F := A.2.2.2.2.2.2.1
abbrev rd_P.dp (A : rd_P) : wm_F := A.2.2.2.2.2.2.2
def rd_V (M : cb_M) (P : Nat) (A : rd_P) : Prop :=
  (cb_gI M 3 P 0 = nI A.nb ∧ cb_gI M 3 P 1 = nI A.n ∧ cb_gI M 3 P 2 = nI A.h ∧ cb_gI M 3 P 3 = A.so ∧ cb_gI M 3 P 4 = A.w) ∧ (∀ b, b < A.nb → cb_gI M 4 P b = A.th b) ∧
  (∀ i, i < A.n → cb_gI M 5 P i = A.c.1 i ∧ cb_gI M 6 P i = A.c.2.1 i ∧ cb_gI M 7 P i = A.c.2.2.1 i ∧ cb_gI M 8 P i = A.c.2.2.2.1 i ∧ cb_gI M 9 P i = A.c.2.2.2.2.1 i ∧ cb_gI M 10 P i = A.c.2.2.2.2.2 i) ∧
  (∀ i, i < 8 → cb_gI M 11 P i = A.ky i) ∧ (∀ l, l < A.h → cb_gI M 12 P l = A.hk.1 l ∧ cb_gI M 13 P l = A.hk.2 l) ∧ (∀ x, x < 64 → cb_gI M 14 P x = A.he x) ∧ ∀ x, x < 400 → cb_gI M 15 P x = A.dp x
def rd_C (A : rd_P) : Prop := A.nb ≤ 4 ∧ A.n ≤ 8 ∧ A.h ≤ 6
theorem rd_V_1 {M M' : cb_M} (h : cb_fr fr_1 M M') {P : Nat} {A : rd_P} (hV : rd_V M P A) : rd_V M' P A := by
  unfold rd_V at *
  rw [h.fn 3 P (fun _ => rfl), h.fn 4 P (fun _ => rfl), h.fn 5 P (fun _ => rfl), h.fn 6 P (fun _ => rfl), h.fn 7 P (fun _ => rfl), h.fn 8 P (fun _ => rfl), h.fn 9 P (fun _ => rfl), h.fn 10 P (fun _ => rfl), h.fn 11 P (fun _ => rfl), h.fn 12 P (fun _ => rfl), h.fn 13 P (fun _ => rfl), h.fn 14 P (fun _ => rfl), h.fn 15 P (fun _ => rfl)]
  exact hV
def rd_b {α β : Type} (x : rd_X ⊕ α) (f : α → rd_X ⊕ β) : rd_X ⊕ β := match x with
  | .inl e => .inl e
  | .inr a => f a
theorem rd_b_l {α β : Type} {x : rd_X ⊕ α} {f : α → rd_X ⊕ β} {e : rd_X} (h : x = .inl e) : rd_b x f = .inl e := by rw [h]; rfl
theorem rd_b_r {α β : Type} {x : rd_X ⊕ α} {f : α → rd_X ⊕ β} {a : α} (h : x = .inr a) : rd_b x f = f a := by rw [h]; rfl
def rd_up (f : wm_F) (i : Nat) (v : Int32) : wm_F := fun a => if a = i then v else f a
def rd_tk (A : rd_P) (b v : Int32) : Bool := wr_tk A.c.1 A.c.2.1 A.n b v || wr_tk A.hk.1 A.hk.2 A.h b v
def rd_plc (tx : wm_F) (len : Nat) (A : rd_P) (b : Int32) (at_ : Nat) : rd_X ⊕ (Int32 × Nat × Nat) := rd_b (rd_num tx len 0 19 at_) fun p => if rd_tk A b p.1 = true then .inl (2, p.2.2) else .inr p
def rd_c0 (tx : wm_F) (len : Nat) (A : rd_P) (at_ : Nat) : rd_X ⊕ (rd_P × Nat) := rd_b (rd_num tx len 1 9 at_) fun r => rd_b (rd_close tx len r.2.1) fun e => .inr (((A.nb + 1, A.n, A.h), A.2.1, rd_up A.th A.nb r.1, A.2.2.2), e)
def rd_c1 (tx : wm_F) (len : Nat) (A : rd_P) (at_ : Nat) : rd_X ⊕ (rd_P × Nat) := rd_b (rd_num tx len 0 (nI A.nb - 1) at_) fun b => rd_b (rd_plc tx len A b.1 b.2.1) fun p => rd_b (rd_num tx len 0 200 p.2.1) fun r => rd_b (rd_num tx len 1 20 r.2.1) fun w => rd_b (rd_num tx len 0 4 w.2.1) fun k => rd_b (rd_num tx len 0 999 k.2.1) fun f => rd_b (rd_close tx len f.2.1) fun e =>
  .inr (((A.nb, A.n + 1, A.h), A.2.1, A.th, (rd_up A.c.1 A.n b.1, rd_up A.c.2.1 A.n p.1, rd_up A.c.2.2.1 A.n (r.1 - 100), rd_up A.c.2.2.2.1 A.n w.1, rd_up A.c.2.2.2.2.1 A.n k.1, rd_up A.c.2.2.2.2.2 A.n f.1), A.2.2.2.2), e)
def rd_c2 (tx : wm_F) (len : Nat) (A : rd_P) (at_ : Nat) : rd_X ⊕ (rd_P × Nat) := rd_b (rd_num tx len 0 (nI A.nb - 1) at_) fun b => rd_b (rd_plc tx len A b.1 b.2.1) fun p => rd_b (rd_close tx len p.2.1) fun e =>
  .inr (((A.nb, A.n, A.h + 1), A.2.1, A.th, A.c, A.ky, (rd_up A.hk.1 A.h b.1, rd_up A.hk.2 A.h p.1), A.2.2.2.2.2.2), e)
def rd_c3 (tx : wm_F) (len : Nat) (A : rd_P) (at_ : Nat) : rd_X ⊕ (rd_P × Nat) := rd_b (rd_num tx len 0 (nI A.n - 1) at_) fun i => rd_b (rd_num tx len 0 (nI A.n - 1) i.2.1) fun j => if i.1 = j.1 then .inl (2, j.2.2) else rd_b (rd_num tx len 0 99 j.2.1) fun m => rd_b (rd_close tx len m.2.1) fun e =>
  .inr ((A.1, A.2.1, A.th, A.c, A.ky, A.hk, rd_up A.he (i.1.toNatClampNeg * 8 + j.1.toNatClampNeg) m.1, A.dp), e)
def rd_c4 (tx : wm_F) (len : Nat) (A : rd_P) (at_ : Nat) : rd_X ⊕ (rd_P × Nat) := rd_b (rd_num tx len 0 399 at_) fun d => rd_b (rd_num tx len 0 50 d.2.1) fun m => rd_b (rd_close tx len m.2.1) fun e =>
  .inr ((A.1, A.2.1, A.th, A.c, A.ky, A.hk, A.he, rd_up A.dp d.1.toNatClampNeg m.1), e)
def rd_c5 (tx : wm_F) (len : Nat) (A : rd_P) (at_ : Nat) : rd_X ⊕ (rd_P × Nat) := rd_b (rd_num tx len 0 (nI A.n - 1) at_) fun i => rd_b (rd_num tx len 1 30 i.2.1) fun m => rd_b (rd_close tx len m.2.1) fun e =>
  .inr ((A.1, A.2.1, A.th, A.c, rd_up A.ky i.1.toNatClampNeg m.1, A.2.2.2.2.2), e)
def rd_c6 (tx : wm_F) (len : Nat) (A : rd_P) (at_ : Nat) : rd_X ⊕ (rd_P × Nat) := rd_b (rd_num tx len 0 (nI A.n - 1) at_) fun i => rd_b (rd_close tx len i.2.1) fun e =>
  .inr ((A.1, (A.so ||| (1 : Int32) <<< (i.1 &&& 31), A.w), A.2.2), e)
def rd_c7 (tx : wm_F) (len : Nat) (A : rd_P) (at_ : Nat) : rd_X ⊕ (rd_P × Nat) := rd_b (rd_num tx len 0 499 at_) fun w => rd_b (rd_close tx len w.2.1) fun e =>
  .inr ((A.1, (A.so, w.1), A.2.2), e)
/-- only the reader and that plan -/
def rd_fr (P : Nat) (M M' : cb_M) : Prop := (∀ t i j, fr_1 t j = false → ¬ (3 ≤ t ∧ t ≤ 15 ∧ i = P) → cb_gI M' t i j = cb_gI M t i j) ∧ M'.2 = M.2
theorem rd_fr_1 {P : Nat} {M M' : cb_M} (h : cb_fr fr_1 M M') : rd_fr P M M' := ⟨fun t i j q _ => h.1 t i j q, h.2⟩
theorem rd_fr.trans {P : Nat} {M M' M'' : cb_M} (h : rd_fr P M M') (h2 : rd_fr P M' M'') : rd_fr P M M'' := ⟨fun t i j q r => (h2.1 t i j q r).trans (h.1 t i j q r), h2.2.trans h.2⟩
theorem rd_fr.set {P : Nat} {M M' : cb_M} (h : rd_fr P M M') {t j : Nat} (x : Int32) (ht : 3 ≤ t ∧ t ≤ 15) : rd_fr P M (cb_sI M' t P j x) := by
  refine ⟨fun t' i' j' q r => ?_, h.2⟩
  rw [cb_gI_sI, if_neg (fun w => r ⟨by omega, by omega, w.2.1⟩)]
  exact h.1 t' i' j' q r
theorem rd_fr.tx {P : Nat} {M M' : cb_M} (h : rd_fr P M M') : cb_gI M' 2 0 = cb_gI M 2 0 := funext fun j => h.1 2 0 j rfl (by omega)
def rd_q (M : cb_M) (len P : Nat) (r : rd_X ⊕ (rd_P × Nat)) (M' : cb_M) : Prop := match r with
  | .inl (k, b) => ¬ k = 0 ∧ cb_gI M' 1 0 4 = k ∧ cb_gI M' 1 0 5 = nI b ∧ ∃ a, rd_E M' len a
  | .inr (A, e) => rd_V M' P A ∧ rd_E M' len e ∧ cb_gI M' 1 0 4 = 0 ∧ cb_gI M' 1 0 5 = cb_gI M 1 0 5
def sp_rd (f : wm_F → Nat → rd_P → Nat → rd_X ⊕ (rd_P × Nat)) (pre : rd_P → Prop) : cb_Sp := fun _ r M K => match r with
  | [.inr (.inr (some (t, P)))] => t = 3 ∧ P < 2 ∧ ∃ len at_ A, (rd_E M len at_ ∧ cb_gI M 1 0 4 = 0 ∧ rd_V M P A ∧ rd_C A ∧ pre A) ∧ ∀ M', rd_fr P M M' → rd_q M len P (f (cb_gI M 2 0) len A at_) M' → K none M'
  | _ => False
theorem rd_num_in {tx : wm_F} {len at_ : Nat} {lo hi w : Int32} {e b : Nat} (h : rd_num tx len lo hi at_ = .inr (w, e, b)) : ¬ (w < lo ∨ hi < w) := by
  unfold rd_num at h
  split at h
  · cases h
  · split at h
    · cases h
    · rename_i q
      cases h
      exact q
theorem rd_idx {v : Int32} {m : Nat} (hm : m ≤ 8) (h : ¬ (v < 0 ∨ nI m - 1 < v)) : ∃ k, k < m ∧ v = nI k := by
  have h1 : 0 ≤ v := Int32.not_lt.mp (fun w => h (Or.inl w))
  have h2 : v ≤ nI m - 1 := Int32.not_lt.mp (fun w => h (Or.inr w))
  cases m with
  | zero => exact absurd (Int32.le_trans h1 h2) (by decide)
  | succ m =>
    rw [nI_pred] at h2
    obtain ⟨j, hj, e⟩ := nI_of (Int32.not_lt.mpr h1)
    subst e
    exact ⟨j, by have := (nI_leI hj (by omega)).mp h2; omega, rfl⟩
theorem rd_rng {v : Int32} {lo hi : Nat} (hh : hi < 2 ^ 31) (hl : lo ≤ hi) (h : ¬ (v < nI lo ∨ nI hi < v)) : ∃ k, lo ≤ k ∧ k ≤ hi ∧ v = nI k := wg_r_yes hh h hl
def sp_X6_readPlace : cb_Sp := fun _ r M K => match r with
  | [.inr (.inr (some (t, P))), .inl b] => t = 3 ∧ P < 2 ∧ ∃ len at_ A, (rd_E M len at_ ∧ rd_V M P A ∧ rd_C A) ∧ (¬ cb_gI M 1 0 4 = 0 → K (some (cb_i 0)) M) ∧ (cb_gI M 1 0 4 = 0 → ∀ M' v, cb_fr fr_1 M M' → rd_p M len (rd_plc (cb_gI M 2 0) len A b at_) v M' → K (some (cb_i v)) M')
  | _ => False
theorem rd_tk_V {M : cb_M} {P : Nat} {A : rd_P} (hV : rd_V M P A) (b v : Int32) : (wr_tk (cb_gI M 5 P) (cb_gI M 6 P) A.n b v || wr_tk (cb_gI M 12 P) (cb_gI M 13 P) A.h b v) = rd_tk A b v := by
  unfold rd_tk wr_tk
  congr 1
  · exact cb_any_cong (fun i hi => by rw [(hV.2.2.1 i (List.mem_range.mp hi)).1, (hV.2.2.1 i (List.mem_range.mp hi)).2.1])
  · exact cb_any_cong (fun i hi => by rw [(hV.2.2.2.2.1 i (List.mem_range.mp hi)).1, (hV.2.2.2.2.1 i (List.mem_range.mp hi)).2])
def pt_X6_readPlace : cb_PT := cb_m 1 2 sp_X6_readPlace
theorem rc_X6_readPlace : cb_rc cb_tb RX6 pt_X6_readPlace := cb_m_rc rfl rfl
def md_X6_readPlace : cb_D := (RX6, cX6_readPlace, 4, (some .int), (0, 0, 2, 46), [
  (0, .aload_n 0, 1, 0, 0, 0, 0),
  (1, .iconst 0, 1, 0, 0, 0, 0),
  (2, .bipush 19, 2, 19, 0, 0, 0),
  (4, .invokevirtual 101, 3, 0, 0, 0, 0),
  (7, .istore_n 3, 1, 0, 3, 0, 0),
  (8, .aload_n 1, 1, 0, 1, 0, 0),
  (9, .iload_n 2, 1, 0, 2, 0, 0),
  (10, .iload_n 3, 1, 0, 3, 0, 0),
  (11, .invokevirtual 155, 3, 0, 1, 0, 0),
  (14, .ifCond .eq 12, 3, 0, 26, 0, 0),
  (17, .aload_n 0, 1, 0, 0, 0, 0),
  (18, .aload_n 0, 1, 0, 0, 0, 0),
  (19, .getfield 22, 3, 0, 6, 3, 42),
  (22, .iconst 2, 1, 2, 0, 0, 0),
  (23, .invokevirtual 56, 3, 0, 2, 0, 0),
  (26, .iload_n 3, 1, 0, 3, 0, 0),
  (27, .ireturn, 1, 0, 0, 0, 0)],
  [(0, 101, 3, 0, 0, pt_X6_readNumber), (0, 155, 3, 0, 0, pt_X4_isTaken), (0, 56, 3, 0, 0, pt_X6_failAt)], [])
set_option maxRecDepth 100000 in
theorem vd_X6_readPlace : md_X6_readPlace.cd.all (cb_vE md_X6_readPlace) = true := by decide +kernel
theorem wd_X6_readPlace : cb_wd yX6_readPlace md_X6_readPlace := ⟨cb_tw (i := 735) (by decide +kernel), cb_tw (i := 2) (by decide +kernel), by decide, by decide⟩
theorem cs_X6_readPlace : ∀ X, cb_Bs md_X6_readPlace X → ∀ g ∈ md_X6_readPlace.ga, cb_CS cb_tb md_X6_readPlace X g := fun X B => List.forall_mem_cons.mpr ⟨cb_csV B ok_X6_readNumber wd_X6_readNumber (cb_tw (i := 717) (by decide +kernel)) (cb_tw (i := 719) (by decide +kernel)) (cb_tp (i := 12) (by decide +kernel)) rc_X6_readNumber ⟨by decide, by decide⟩ (by decide +kernel), List.forall_mem_cons.mpr ⟨cb_csV B ok_X4_isTaken wd_X4_isTaken (cb_tw (i := 736) (by decide +kernel)) (cb_tw (i := 737) (by decide +kernel)) (cb_tw (i := 738) (by decide +kernel)) rc_X4_isTaken ⟨by decide, by decide⟩ (by decide +kernel), List.forall_mem_cons.mpr ⟨cb_csV B ok_X6_failAt wd_X6_failAt (cb_tw (i := 702) (by decide +kernel)) (cb_tw (i := 704) (by decide +kernel)) (cb_tp (i := 9) (by decide +kernel)) rc_X6_failAt ⟨by decide, by decide⟩ (by decide +kernel), fun _ h => nomatch h⟩⟩⟩
theorem ok_X6_readPlace : cb_MOK cb_tb yX6_readPlace md_X6_readPlace pt_X6_readPlace := by
  refine cb_okm ⟨plainFor_of_name (by decide), rfl⟩ (by decide) cs_X6_readPlace (by decide) (fun X n0 f i r M hr ha h => ?_)
  have h0 := cb_a1 (T := 1) rfl ha
  subst h0
  match r, hr, h with
  | [.inr (.inr (some (t, P))), .inl b], hr, h =>
    obtain ⟨rfl, hP, len, at_, A, ⟨hE, hV, hC⟩, hdead, h⟩ := h
    refine cb_run cb_tb_ok vd_X6_readPlace (cuts := []) 90 ?_
    by_cases h0 : cb_gI M 1 0 4 = 0
    · have h := h h0
      refine And.intro (cb_on rfl) (rd_call hE h0 rfl (fun M1 v k p hF1 en hk g4 g5 ex => ?_) (fun M1 w e p hF1 en hE1 g3 g4 g5 ht => ?_))
      · have hV1 := rd_V_1 hF1 hV
        have hfin := h M1 v hF1 (by unfold rd_plc; rw [rd_b_l en]; exact ⟨hk, g4, g5, ex⟩)
        refine And.intro (cb_on (cb_aP hP rfl)) ⟨A.n, A.h, ⟨hV1.1.2.1, hC.2.1, hV1.1.2.2.1, hC.2.2⟩, cb_ifz (fun _ => And.intro trivial hfin) (fun _ => And.intro (cb_on rfl) (And.intro (fun _ => And.intro trivial hfin) (fun q => absurd (g4.symm.trans q) hk)))⟩
      · have hV1 := rd_V_1 hF1 hV
        have hp : rd_plc (cb_gI M 2 0) len A b at_ = if rd_tk A b w = true then .inl (2, p) else .inr (w, e, p) := by
          unfold rd_plc
          rw [rd_b_r en]
        rw [hp] at h
        refine And.intro (cb_on (cb_aP hP rfl)) ⟨A.n, A.h, ⟨hV1.1.2.1, hC.2.1, hV1.1.2.2.1, hC.2.2⟩, cb_ifz (fun q => ?_) (fun q => And.intro (cb_on rfl) (And.intro (fun q => absurd g4 q) (fun _ => And.intro trivial ?_)))⟩
        · rw [rd_tk_V hV1] at q
          rw [if_neg (by rw [q]; decide)] at h
          exact And.intro trivial (h M1 w hF1 ⟨rfl, hE1, g3, g4, g5⟩)
        · rw [rd_tk_V hV1] at q
          rw [if_pos q] at h
          have hF2 := (hF1.set (t := 1) (i := 0) (j := 4) 2 rfl).set (t := 1) (i := 0) (j := 5) (cb_gI M1 1 0 3) rfl
          exact h _ w hF2 ⟨by decide, rfl, g3, e, rd_E_fr hE hF2 hE1.2.2.2.1 hE1.2.2.2.2⟩
    · have hd := hdead h0
      refine And.intro (cb_on rfl) (rd_dn ⟨at_, hE⟩ h0 (And.intro (cb_on (cb_aP hP rfl)) ⟨A.n, A.h, ⟨hV.1.2.1, hC.2.1, hV.1.2.2.1, hC.2.2⟩, cb_ifz (fun _ => And.intro trivial hd) (fun _ => And.intro (cb_on rfl) (And.intro (fun _ => And.intro trivial hd) (fun q => absurd q h0)))⟩))
theorem rd_pcall {M : cb_M} {K : Option cb_V → cb_M → Prop} {len at_ P : Nat} {b : Int32} {A : rd_P} {tx : wm_F} (hP : P < 2) (hE : rd_E M len at_) (hV : rd_V M P A) (hC : rd_C A) (h0 : cb_gI M 1 0 4 = 0) (ht : cb_gI M 2 0 = tx)
    (hl : ∀ M' v k p, cb_fr fr_1 M M' → rd_plc tx len A b at_ = .inl (k, p) → ¬ k = 0 → cb_gI M' 1 0 4 = k → cb_gI M' 1 0 5 = nI p → (∃ a, rd_E M' len a) → K (some (cb_i v)) M')
    (hr : ∀ M' w e p, cb_fr fr_1 M M' → rd_plc tx len A b at_ = .inr (w, e, p) → rd_E M' len e → cb_gI M' 1 0 3 = nI p → cb_gI M' 1 0 4 = 0 → cb_gI M' 1 0 5 = cb_gI M 1 0 5 → cb_gI M' 2 0 = tx → K (some (cb_i w)) M') : sp_X6_readPlace 0 [cb_r 3 P, .inl b] M K := by
  refine ⟨rfl, hP, len, at_, A, ⟨hE, hV, hC⟩, fun q => absurd h0 q, fun _ M' v hF hp => ?_⟩
  rw [ht] at hp
  cases e : rd_plc tx len A b at_ with
  | inl x =>
    obtain ⟨k, p⟩ := x
    rw [e] at hp
    exact hl M' v k p hF e hp.1 hp.2.1 hp.2.2.1 hp.2.2.2
  | inr x =>
    obtain ⟨w, e', p⟩ := x
    rw [e] at hp
    obtain ⟨rfl, h1, h2, h3, h4⟩ := hp
    exact hr M' _ e' p hF e h1 h2 h3 h4 ((hF.fn 2 0 (fun _ => rfl)).trans ht)
theorem rd_dp {M : cb_M} {K : Option cb_V → cb_M → Prop} {len P : Nat} {b : Int32} {A : rd_P} (hP : P < 2) (hE : ∃ a, rd_E M len a) (hV : rd_V M P A) (hC : rd_C A) (h0 : ¬ cb_gI M 1 0 4 = 0) (h : K (some (cb_i 0)) M) : sp_X6_readPlace 0 [cb_r 3 P, .inl b] M K := by
  obtain ⟨a, hE⟩ := hE
  exact ⟨rfl, hP, len, a, A, ⟨hE, hV, hC⟩, fun _ => h, fun q => absurd q h0⟩
