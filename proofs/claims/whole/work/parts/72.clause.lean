/-! ===== the reference: a clause ===== -/
theorem mr_N_l {mt : wm_F} {len : Nat} {lo hi nt : Int32} {a : Nat} {x : rd_X} (h : rd_num mt len lo hi a = .inl x) : mr_N mt len lo hi nt (.inr a) = .inl x := by
  show rd_b (rd_b (rd_num mt len lo hi a) _) _ = _
  rw [h]
  rfl
theorem mr_N_r' {mt : wm_F} {len : Nat} {lo hi nt : Int32} {a : Nat} {r : Int32 × Nat × Nat} (h : rd_num mt len lo hi a = .inr r) (hn : ¬ r.1 = nt) : mr_N mt len lo hi nt (.inr a) = .inr (r.1, r.2.1) := by
  show rd_b (rd_b (rd_num mt len lo hi a) _) _ = _
  rw [h]
  show rd_b (if r.1 = nt then _ else _) _ = _
  rw [if_neg hn]
  rfl
theorem mr_N_e {mt : wm_F} {len : Nat} {lo hi nt : Int32} {a : Nat} {r : Int32 × Nat × Nat} (h : rd_num mt len lo hi a = .inr r) (hn : r.1 = nt) : mr_N mt len lo hi nt (.inr a) = .inl (2, r.2.2) := by
  show rd_b (rd_b (rd_num mt len lo hi a) _) _ = _
  rw [h]
  show rd_b (if r.1 = nt then _ else _) _ = _
  rw [if_pos hn]
  rfl
theorem mr_N_r {mt : wm_F} {len : Nat} {lo hi : Int32} (h0 : 0 ≤ lo) {a : Nat} {r : Int32 × Nat × Nat} (h : rd_num mt len lo hi a = .inr r) : mr_N mt len lo hi (-1) (.inr a) = .inr (r.1, r.2.1) := by
  refine mr_N_r' h (fun w => rd_num_in (w := r.1) (e := r.2.1) (b := r.2.2) h (Or.inl ?_))
  rw [w]
  exact Int32.lt_of_lt_of_le (by decide) h0
theorem mr_N_inv {mt : wm_F} {len : Nat} {lo hi nt : Int32} {s : rd_X ⊕ Nat} {a : Nat} (h : mr_na (mr_N mt len lo hi nt s) = .inr a) : ∃ a0 v b, s = .inr a0 ∧ rd_num mt len lo hi a0 = .inr (v, a, b) ∧ ¬ v = nt ∧ mr_nv (mr_N mt len lo hi nt s) = v := by
  cases s with
  | inl x => cases h
  | inr a0 =>
    cases e : rd_num mt len lo hi a0 with
    | inl x =>
      rw [mr_N_l e] at h
      cases h
    | inr r =>
      by_cases q : r.1 = nt
      · rw [mr_N_e e q] at h
        cases h
      · rw [mr_N_r' e q] at h ⊢
        cases h
        exact ⟨a0, r.1, r.2.2, rfl, e, q, rfl⟩
def mr_A0 (A : rd_P) (v : Int32) : rd_P := ((A.nb + 1, A.n, A.h), A.2.1, rd_up A.th A.nb v, A.2.2.2)
def mr_A3 (A : rd_P) (i j v : Int32) : rd_P := (A.1, A.2.1, A.th, A.c, A.ky, A.hk, rd_up A.he (i.toNatClampNeg * 8 + j.toNatClampNeg) v, A.dp)
def mr_A4 (A : rd_P) (d v : Int32) : rd_P := (A.1, A.2.1, A.th, A.c, A.ky, A.hk, A.he, rd_up A.dp d.toNatClampNeg v)
def mr_A5 (A : rd_P) (i v : Int32) : rd_P := (A.1, A.2.1, A.th, A.c, rd_up A.ky i.toNatClampNeg v, A.2.2.2.2.2)
def mr_A6 (A : rd_P) (i : Int32) : rd_P := (A.1, (A.so ||| (1 : Int32) <<< (i &&& 31), A.w), A.2.2)
def mr_A7 (A : rd_P) (w : Int32) : rd_P := (A.1, (A.so, w), A.2.2)
def mr_k1 (mt : wm_F) (len : Nat) (A : rd_P) (a : Nat) : rd_X ⊕ (Int32 × Nat) := mr_N mt len 0 (nI A.n - 1) (-1) (.inr a)
def mr_k2 (mt : wm_F) (len : Nat) (A : rd_P) (a : Nat) : rd_X ⊕ (Int32 × Nat) := mr_N mt len 0 (nI A.n - 1) (mr_nv (mr_k1 mt len A a)) (mr_na (mr_k1 mt len A a))
def mr_k3 (mt : wm_F) (len : Nat) (A : rd_P) (a : Nat) : rd_X ⊕ (Int32 × Nat) := mr_N mt len 0 99 (-1) (mr_na (mr_k2 mt len A a))
def mr_k4 (mt : wm_F) (len : Nat) (A : rd_P) (a : Nat) : rd_X ⊕ (Int32 × Nat) := mr_N mt len 1 30 (-1) (mr_na (mr_k1 mt len A a))
def mr_d1 (mt : wm_F) (len a : Nat) : rd_X ⊕ (Int32 × Nat) := mr_N mt len 0 399 (-1) (.inr a)
def mr_d2 (mt : wm_F) (len a : Nat) : rd_X ⊕ (Int32 × Nat) := mr_N mt len 0 50 (-1) (mr_na (mr_d1 mt len a))
def mr_b1 (mt : wm_F) (len a : Nat) : rd_X ⊕ (Int32 × Nat) := mr_N mt len 1 9 (-1) (.inr a)
def mr_w1 (mt : wm_F) (len a : Nat) : rd_X ⊕ (Int32 × Nat) := mr_N mt len 0 499 (-1) (.inr a)
theorem mr_c0 (mt : wm_F) (len : Nat) (A : rd_P) (a : Nat) : rd_c0 mt len A a = rd_b (mr_C mt len (mr_na (mr_b1 mt len a))) fun x => .inr (mr_A0 A (mr_nv (mr_b1 mt len a)), x) := by
  unfold rd_c0 mr_b1
  cases e : rd_num mt len 1 9 a with
  | inl x => rw [mr_N_l e]; rfl
  | inr r => rw [mr_N_r (by decide) e]; rfl
theorem mr_c7 (mt : wm_F) (len : Nat) (A : rd_P) (a : Nat) : rd_c7 mt len A a = rd_b (mr_C mt len (mr_na (mr_w1 mt len a))) fun x => .inr (mr_A7 A (mr_nv (mr_w1 mt len a)), x) := by
  unfold rd_c7 mr_w1
  cases e : rd_num mt len 0 499 a with
  | inl x => rw [mr_N_l e]; rfl
  | inr r => rw [mr_N_r (by decide) e]; rfl
theorem mr_c6 (mt : wm_F) (len : Nat) (A : rd_P) (a : Nat) : rd_c6 mt len A a = rd_b (mr_C mt len (mr_na (mr_k1 mt len A a))) fun x => .inr (mr_A6 A (mr_nv (mr_k1 mt len A a)), x) := by
  unfold rd_c6 mr_k1
  cases e : rd_num mt len 0 (nI A.n - 1) a with
  | inl x => rw [mr_N_l e]; rfl
  | inr r => rw [mr_N_r (by decide) e]; rfl
theorem mr_c5 (mt : wm_F) (len : Nat) (A : rd_P) (a : Nat) : rd_c5 mt len A a = rd_b (mr_C mt len (mr_na (mr_k4 mt len A a))) fun x => .inr (mr_A5 A (mr_nv (mr_k1 mt len A a)) (mr_nv (mr_k4 mt len A a)), x) := by
  unfold rd_c5 mr_k4
  cases e : rd_num mt len 0 (nI A.n - 1) a with
  | inl x => rw [show mr_k1 mt len A a = .inl x from mr_N_l e]; rfl
  | inr r =>
    rw [show mr_k1 mt len A a = .inr (r.1, r.2.1) from mr_N_r (by decide) e]
    show rd_b (rd_num mt len 1 30 r.2.1) _ = rd_b (mr_C mt len (mr_na (mr_N mt len 1 30 (-1) (.inr r.2.1)))) fun x => .inr (mr_A5 A r.1 (mr_nv (mr_N mt len 1 30 (-1) (.inr r.2.1))), x)
    cases e2 : rd_num mt len 1 30 r.2.1 with
    | inl x => rw [mr_N_l e2]; rfl
    | inr r2 => rw [mr_N_r (by decide) e2]; rfl
theorem mr_c4 (mt : wm_F) (len : Nat) (A : rd_P) (a : Nat) : rd_c4 mt len A a = rd_b (mr_C mt len (mr_na (mr_d2 mt len a))) fun x => .inr (mr_A4 A (mr_nv (mr_d1 mt len a)) (mr_nv (mr_d2 mt len a)), x) := by
  unfold rd_c4 mr_d2
  cases e : rd_num mt len 0 399 a with
  | inl x => rw [show mr_d1 mt len a = .inl x from mr_N_l e]; rfl
  | inr r =>
    rw [show mr_d1 mt len a = .inr (r.1, r.2.1) from mr_N_r (by decide) e]
    show rd_b (rd_num mt len 0 50 r.2.1) _ = rd_b (mr_C mt len (mr_na (mr_N mt len 0 50 (-1) (.inr r.2.1)))) fun x => .inr (mr_A4 A r.1 (mr_nv (mr_N mt len 0 50 (-1) (.inr r.2.1))), x)
    cases e2 : rd_num mt len 0 50 r.2.1 with
    | inl x => rw [mr_N_l e2]; rfl
    | inr r2 => rw [mr_N_r (by decide) e2]; rfl
theorem mr_c3 (mt : wm_F) (len : Nat) (A : rd_P) (a : Nat) : rd_c3 mt len A a = rd_b (mr_C mt len (mr_na (mr_k3 mt len A a))) fun x => .inr (mr_A3 A (mr_nv (mr_k1 mt len A a)) (mr_nv (mr_k2 mt len A a)) (mr_nv (mr_k3 mt len A a)), x) := by
  unfold rd_c3
  cases e : rd_num mt len 0 (nI A.n - 1) a with
  | inl x =>
    have g1 : mr_k1 mt len A a = .inl x := mr_N_l e
    have g2 : mr_k2 mt len A a = .inl x := by unfold mr_k2; rw [g1]; rfl
    have g3 : mr_k3 mt len A a = .inl x := by unfold mr_k3; rw [g2]; rfl
    rw [g3]
    rfl
  | inr r =>
    have g1 : mr_k1 mt len A a = .inr (r.1, r.2.1) := mr_N_r (by decide) e
    have h2 : mr_k2 mt len A a = mr_N mt len 0 (nI A.n - 1) r.1 (.inr r.2.1) := by unfold mr_k2; rw [g1]; rfl
    show rd_b (rd_num mt len 0 (nI A.n - 1) r.2.1) _ = _
    cases e2 : rd_num mt len 0 (nI A.n - 1) r.2.1 with
    | inl x =>
      have g2 : mr_k2 mt len A a = .inl x := h2.trans (mr_N_l e2)
      have g3 : mr_k3 mt len A a = .inl x := by unfold mr_k3; rw [g2]; rfl
      rw [g3]
      rfl
    | inr r2 =>
      show (if r.1 = r2.1 then _ else _) = _
      by_cases q : r.1 = r2.1
      · have g2 : mr_k2 mt len A a = .inl (2, r2.2.2) := h2.trans (mr_N_e e2 q.symm)
        have g3 : mr_k3 mt len A a = .inl (2, r2.2.2) := by unfold mr_k3; rw [g2]; rfl
        rw [g3, if_pos q]
        rfl
      · have g2 : mr_k2 mt len A a = .inr (r2.1, r2.2.1) := h2.trans (mr_N_r' e2 (fun w => q w.symm))
        have h3 : mr_k3 mt len A a = mr_N mt len 0 99 (-1) (.inr r2.2.1) := by unfold mr_k3; rw [g2]; rfl
        rw [if_neg q, g1, g2, h3]
        cases e3 : rd_num mt len 0 99 r2.2.1 with
        | inl x => rw [mr_N_l e3]; rfl
        | inr r3 => rw [mr_N_r (by decide) e3]; rfl
theorem mr_r36 {mt : wm_F} {len : Nat} {A : rd_P} {s : rd_X ⊕ Nat} {x : rd_X} (h : mr_r3 mt len A s = .inl x) : mr_r6 mt len A s = .inl x := by
  unfold mr_r6 mr_r5 mr_r4
  rw [h]
  rfl
theorem mr_c2 (mt : wm_F) (len : Nat) (A : rd_P) (a : Nat) : rd_c2 mt len A a = rd_b (mr_C mt len (mr_s2 mt len A (.inr a))) fun x => .inr (mr_A2 A (mr_nv (mr_r1 mt len A (.inr a))) (mr_nv (mr_r2 mt len A (.inr a))), x) := by
  unfold rd_c2 rd_plc mr_s2
  cases e : rd_num mt len 0 (nI A.nb - 1) a with
  | inl x =>
    have g1 : mr_r1 mt len A (.inr a) = .inl x := mr_N_l e
    have g2 : mr_r2 mt len A (.inr a) = .inl x := by unfold mr_r2; rw [g1]; rfl
    rw [g2]
    split <;> rfl
  | inr r =>
    have g1 : mr_r1 mt len A (.inr a) = .inr (r.1, r.2.1) := mr_N_r (by decide) e
    have h2 : mr_r2 mt len A (.inr a) = mr_N mt len 0 19 (-1) (.inr r.2.1) := by unfold mr_r2; rw [g1]; rfl
    show rd_b (rd_b (rd_num mt len 0 19 r.2.1) _) _ = _
    cases e2 : rd_num mt len 0 19 r.2.1 with
    | inl x =>
      rw [h2.trans (mr_N_l e2)]
      split <;> rfl
    | inr p =>
      have hp : p.2.2 = rd_end (rd_bl mt) len r.2.1 := by
        unfold rd_num at e2
        split at e2
        · cases e2
        · split at e2
          · cases e2
          · cases e2
            rfl
      rw [h2.trans (mr_N_r (by decide) e2), g1]
      show rd_b (if rd_tk A r.1 p.1 = true then _ else _) _ = rd_b (mr_C mt len (if rd_tk A r.1 p.1 = true then _ else _)) _
      by_cases q : rd_tk A r.1 p.1 = true
      · rw [if_pos q, if_pos q, hp]
        rfl
      · rw [if_neg q, if_neg q]
        rfl
theorem mr_c1 (mt : wm_F) (len : Nat) (A : rd_P) (a : Nat) : rd_c1 mt len A a = rd_b (mr_C mt len (mr_na (mr_r6 mt len A (.inr a)))) fun x => .inr (mr_A1 A (mr_nv (mr_r1 mt len A (.inr a))) (mr_nv (mr_r2 mt len A (.inr a))) (mr_nv (mr_r3 mt len A (.inr a))) (mr_nv (mr_r4 mt len A (.inr a))) (mr_nv (mr_r5 mt len A (.inr a))) (mr_nv (mr_r6 mt len A (.inr a))), x) := by
  unfold rd_c1 rd_plc
  have dead : ∀ x, mr_s2 mt len A (.inr a) = .inl x → mr_r6 mt len A (.inr a) = .inl x := fun x h => mr_r36 (by unfold mr_r3; rw [h]; rfl)
  cases e : rd_num mt len 0 (nI A.nb - 1) a with
  | inl x =>
    have g1 : mr_r1 mt len A (.inr a) = .inl x := mr_N_l e
    have g2 : mr_r2 mt len A (.inr a) = .inl x := by unfold mr_r2; rw [g1]; rfl
    rw [dead x (by unfold mr_s2; rw [g2]; split <;> rfl)]
    rfl
  | inr r =>
    have g1 : mr_r1 mt len A (.inr a) = .inr (r.1, r.2.1) := mr_N_r (by decide) e
    have h2 : mr_r2 mt len A (.inr a) = mr_N mt len 0 19 (-1) (.inr r.2.1) := by unfold mr_r2; rw [g1]; rfl
    show rd_b (rd_b (rd_num mt len 0 19 r.2.1) _) _ = _
    cases e2 : rd_num mt len 0 19 r.2.1 with
    | inl x =>
      have g2 := h2.trans (mr_N_l e2)
      rw [dead x (by unfold mr_s2; rw [g2]; split <;> rfl)]
      rfl
    | inr p =>
      have hp : p.2.2 = rd_end (rd_bl mt) len r.2.1 := by
        unfold rd_num at e2
        split at e2
        · cases e2
        · split at e2
          · cases e2
          · cases e2
            rfl
      have g2 := h2.trans (mr_N_r (by decide) e2)
      show rd_b (if rd_tk A r.1 p.1 = true then _ else _) _ = _
      by_cases q : rd_tk A r.1 p.1 = true
      · have gs : mr_s2 mt len A (.inr a) = .inl (2, p.2.2) := by
          unfold mr_s2
          rw [g1, g2]
          show (if rd_tk A r.1 p.1 = true then _ else _) = _
          rw [if_pos q, hp]
          rfl
        rw [dead _ gs, if_pos q]
        rfl
      · have gs : mr_s2 mt len A (.inr a) = .inr p.2.1 := by
          unfold mr_s2
          rw [g1, g2]
          show (if rd_tk A r.1 p.1 = true then _ else _) = _
          rw [if_neg q]
          rfl
        have h3 : mr_r3 mt len A (.inr a) = mr_N mt len 0 200 (-1) (.inr p.2.1) := by unfold mr_r3; rw [gs]
        rw [if_neg q]
        show rd_b (rd_num mt len 0 200 p.2.1) _ = _
        cases e3 : rd_num mt len 0 200 p.2.1 with
        | inl x =>
          rw [mr_r36 (h3.trans (mr_N_l e3))]
          rfl
        | inr c =>
          have g3 := h3.trans (mr_N_r (by decide) e3)
          have h4 : mr_r4 mt len A (.inr a) = mr_N mt len 1 20 (-1) (.inr c.2.1) := by unfold mr_r4; rw [g3]; rfl
          show rd_b (rd_num mt len 1 20 c.2.1) _ = _
          cases e4 : rd_num mt len 1 20 c.2.1 with
          | inl x =>
            have g4 := h4.trans (mr_N_l e4)
            rw [show mr_r6 mt len A (.inr a) = .inl x by unfold mr_r6 mr_r5; rw [g4]; rfl]
            rfl
          | inr w =>
            have g4 := h4.trans (mr_N_r (by decide) e4)
            have h5 : mr_r5 mt len A (.inr a) = mr_N mt len 0 4 (-1) (.inr w.2.1) := by unfold mr_r5; rw [g4]; rfl
            show rd_b (rd_num mt len 0 4 w.2.1) _ = _
            cases e5 : rd_num mt len 0 4 w.2.1 with
            | inl x =>
              have g5 := h5.trans (mr_N_l e5)
              rw [show mr_r6 mt len A (.inr a) = .inl x by unfold mr_r6; rw [g5]; rfl]
              rfl
            | inr k =>
              have g5 := h5.trans (mr_N_r (by decide) e5)
              have h6 : mr_r6 mt len A (.inr a) = mr_N mt len 0 999 (-1) (.inr k.2.1) := by unfold mr_r6; rw [g5]; rfl
              show rd_b (rd_num mt len 0 999 k.2.1) _ = _
              cases e6 : rd_num mt len 0 999 k.2.1 with
              | inl x =>
                rw [h6.trans (mr_N_l e6)]
                rfl
              | inr z =>
                rw [g1, g2, g3, g4, g5, h6.trans (mr_N_r (by decide) e6)]
                rfl
def mr_Q (M : cb_M) (len cnt : Nat) (r : rd_X ⊕ (rd_P × Nat)) : Prop := match r with
  | .inl x => mr_S M len (.inl x)
  | .inr (A, e) => mr_S M len (.inr e) ∧ mr_V M A ∧ cb_gI M 46 0 7 = nI (cnt + 1)
theorem mr_Qb {M : cb_M} {len cnt : Nat} {s : rd_X ⊕ Nat} {A : rd_P} (hS : mr_S M len s) (hv : ∀ a, s = .inr a → mr_V M A ∧ cb_gI M 46 0 7 = nI (cnt + 1)) : mr_Q M len cnt (rd_b s fun x => .inr (A, x)) := by
  cases s with
  | inl x => exact hS
  | inr a => exact ⟨hS, hv a rfl⟩
def sp_X10_clause : cb_Sp := fun _ r M K => match r with
  | [] => ∃ len a A cnt, (mr_S M len (.inr a) ∧ rd_end (rd_bl (cb_gI M 47 0)) len a = a ∧ mr_V M A ∧ rd_C A ∧ cb_gI M 46 0 7 = nI cnt ∧ cnt ≤ 60) ∧ ∀ M', cb_fr fr_L M M' → mr_Q M' len cnt (rd_clause (cb_gI M 47 0) len A cnt a) → K none M'
  | _ => False
def cb_swt (x : Int32) : List (Int32 × Nat) → Nat → Nat
  | [], d => d
  | (v, t) :: r, d => if x = v then t else cb_swt x r d
theorem cb_sw_to : ∀ {x : Int32} {cs : List (Int32 × Nat)} {d t : Nat} {J : Nat → Prop}, cb_swt x cs d = t → J t → cb_sw x cs d J
  | x, [], d, t, J, e, h => by
    have e : d = t := e
    subst e
    exact h
  | x, (v, t0) :: r, d, t, J, e, h => by
    unfold cb_swt at e
    refine ⟨fun q => ?_, fun q => ?_⟩
    · rw [if_pos q] at e
      subst e
      exact h
    · rw [if_neg q] at e
      exact cb_sw_to e h
theorem mr_many {M : cb_M} {A : rd_P} (hV : mr_V M A) (hC : rd_C A) : ∀ {j : Nat}, j < 3 → (cb_gI M 48 0 j = (if nI j = 0 then 4 else if nI j = 1 then 8 else 6) ↔ rd_many j A = true) := by
  intro j hj
  obtain ⟨c1, c2, c3⟩ := hC
  obtain ⟨⟨v1, v2, v3, -⟩, -⟩ := hV
  match j, hj with
  | 0, _ =>
    rw [v1]
    show nI A.nb = nI 4 ↔ decide (¬ A.nb < 4) = true
    rw [nI_eq (by omega) (by decide), decide_eq_true_eq]
    omega
  | 1, _ =>
    rw [v2]
    show nI A.n = nI 8 ↔ decide (¬ A.n < 8) = true
    rw [nI_eq (by omega) (by decide), decide_eq_true_eq]
    omega
  | 2, _ =>
    rw [v3]
    show nI A.h = nI 6 ↔ decide (¬ A.h < 6) = true
    rw [nI_eq (by omega) (by decide), decide_eq_true_eq]
    omega
theorem mr_pm_lt : ∀ j, j < 8 → mr_pm j < 8 ∧ (j < 3 → mr_pm j = j) ∧ (3 ≤ j → 3 ≤ mr_pm j) := by decide
theorem mr_many3 {A : rd_P} {j : Nat} (hj : 3 ≤ j) : rd_many j A = false := by
  unfold rd_many
  rw [if_neg (by omega), if_neg (by omega), if_neg (by omega)]
