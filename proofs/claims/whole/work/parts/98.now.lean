/-! ===== what is changed of the present, of both ===== -/
def re_nw (M : cb_M) (A : rd_P) (d : Nat) : Prop := (d ≤ 400 ∧ cb_gI M 16 0 0 = nI d ∧ cb_gI M 46 0 33 = nI d) ∧
  (∀ i, i < A.n → cb_gI M 69 0 i = wm_pof A.c.2.2.2.2.2 (cb_gI M 17 0) i ∧ cb_gI M 70 0 i = cb_gI M 17 0 i ∧ cb_gI M 64 0 i = cb_gI M 18 0 i ∧ cb_gI M 65 0 i = cb_gI M 19 0 i ∧ cb_gI M 71 0 i = cb_gI M 22 0 i ∧ wO_b (350 * d) (cb_gI M 17 0 i) ∧ vp_in (cb_gI M 18 0 i) A.nb ∧ vp_in (cb_gI M 19 0 i) 20) ∧
  (∀ l, l < A.h → cb_gI M 72 0 l = cb_gI M 20 0 l ∧ cb_gI M 73 0 l = cb_gI M 21 0 l ∧ vp_in (cb_gI M 20 0 l) A.nb ∧ vp_in (cb_gI M 21 0 l) 20) ∧
  ∀ e i, e < d → i < A.n → cb_gI M 75 e i = wm_pof A.c.2.2.2.2.2 (fun i => cb_gI M 23 0 (e * 8 + i)) i ∧ cb_gI M 77 e i = cb_gI M 23 0 (e * 8 + i) ∧ wO_b (350 * e) (cb_gI M 23 0 (e * 8 + i))
theorem re_nw_iff {M : cb_M} {A : rd_P} (hn : A.n ≤ 8) (hh : A.h ≤ 6) : re_mo M A 0 (mo_g M) ↔ ∃ d, re_nw M A d := by
  unfold re_mo re_nw
  have e0 : mo_g M 0 = cb_gI M 46 0 33 := rfl
  have ei : ∀ i, i < A.n → mo_g M (1 + 5 * i) = cb_gI M 69 0 i ∧ mo_g M (1 + 5 * i + 1) = cb_gI M 70 0 i ∧ mo_g M (1 + 5 * i + 2) = cb_gI M 64 0 i ∧ mo_g M (1 + 5 * i + 3) = cb_gI M 65 0 i ∧ mo_g M (1 + 5 * i + 4) = cb_gI M 71 0 i := fun i hi => by
    obtain ⟨e1, e2, e3, e4, e5⟩ := mo_c_i i (by omega)
    unfold mo_g
    rw [e1, e2, e3, e4, e5]
    exact ⟨rfl, rfl, rfl, rfl, rfl⟩
  have eh : ∀ l, l < A.h → mo_g M (41 + 2 * l) = cb_gI M 72 0 l ∧ mo_g M (41 + 2 * l + 1) = cb_gI M 73 0 l := fun l hl => by
    obtain ⟨e1, e2⟩ := mo_c_h l (by omega)
    unfold mo_g
    rw [e1, e2]
    exact ⟨rfl, rfl⟩
  have ed : ∀ e i, i < A.n → mo_g M (53 + 16 * e + 2 * i) = cb_gI M 75 e i ∧ mo_g M (53 + 16 * e + 2 * i + 1) = cb_gI M 77 e i := fun e i hi => by
    obtain ⟨e1, e2⟩ := mo_c_d (d := e) (i := i) (by omega)
    unfold mo_g
    rw [e1, e2]
    exact ⟨rfl, rfl⟩
  constructor
  · rintro ⟨d, h0, h1, h2, h3⟩
    refine ⟨d, h0, fun i hi => ?_, fun l hl => ?_, fun e i he hi => ?_⟩
    · have := h1 i hi
      rw [(ei i hi).1, (ei i hi).2.1, (ei i hi).2.2.1, (ei i hi).2.2.2.1, (ei i hi).2.2.2.2] at this
      exact this
    · have := h2 l hl
      rw [(eh l hl).1, (eh l hl).2] at this
      exact this
    · have := h3 e i he hi
      rw [(ed e i hi).1, (ed e i hi).2] at this
      exact this
  · rintro ⟨d, h0, h1, h2, h3⟩
    refine ⟨d, h0, fun i hi => ?_, fun l hl => ?_, fun e i he hi => ?_⟩
    · rw [(ei i hi).1, (ei i hi).2.1, (ei i hi).2.2.1, (ei i hi).2.2.2.1, (ei i hi).2.2.2.2]
      exact h1 i hi
    · rw [(eh l hl).1, (eh l hl).2]
      exact h2 l hl
    · rw [(ed e i hi).1, (ed e i hi).2]
      exact h3 e i he hi
/-- what stays when only the present changes -/
def re_st (t i j : Nat) : Prop := re_rel t j = true ∧ ¬ (16 ≤ t ∧ t ≤ 23 ∧ i = 0) ∧ ¬ (t = 64 ∨ t = 65 ∨ (69 ≤ t ∧ t ≤ 77)) ∧ ¬ (t = 46 ∧ j = 33)
theorem re_now {M M' : cb_M} {m : Nat} (hI : ∀ t i j, re_st t i j → cb_gI M' t i j = cb_gI M t i j) (hR : ∀ t i j, t = 0 ∨ t = 24 → cb_gR M' t i j = cb_gR M t i j) (h : re_R M m)
    (hmo : ∀ P A d, cb_gR M 0 0 4 = some P → re_W A → re_V M P A → re_S M A → re_nw M A d → ∃ d', re_nw M' A d') : re_R M' m := by
  have st : ∀ t i j, re_rel t j = true → ¬ (16 ≤ t ∧ t ≤ 23) → ¬ (t = 64 ∨ t = 65 ∨ (69 ≤ t ∧ t ≤ 77)) → ¬ (t = 46 ∧ j = 33) → re_st t i j := fun t i j a b c d => ⟨a, fun w => b ⟨w.1, w.2.1⟩, c, d⟩
  have fn : ∀ t i, (∀ j, re_rel t j = true) → ¬ (16 ≤ t ∧ t ≤ 23) → ¬ (t = 64 ∨ t = 65 ∨ (69 ≤ t ∧ t ≤ 77)) → ¬ t = 46 → cb_gI M' t i = cb_gI M t i := fun t i w a b c => funext fun j => hI t i j (st t i j (w j) a b (fun z => c z.1))
  have fm : ∀ t i, (∀ j, re_rel t j = true) → 16 ≤ t → t ≤ 23 → ¬ i = 0 → cb_gI M' t i = cb_gI M t i := fun t i w a b c => funext fun j => hI t i j ⟨w j, fun z => c z.2.2, by omega, by omega⟩
  obtain ⟨P, Q, A, c, t, h1, h2, h3, h4, h5, ⟨h6, h6'⟩, h7, h8, h9, h10⟩ := h
  have g : ∀ q r, ¬ q = 0 → re_mo M' A q r = re_mo M A q r := fun q r hq => by
    unfold re_mo
    rw [fm 16 q (fun _ => rfl) (by omega) (by omega) hq, fm 17 q (fun _ => rfl) (by omega) (by omega) hq, fm 18 q (fun _ => rfl) (by omega) (by omega) hq, fm 19 q (fun _ => rfl) (by omega) (by omega) hq, fm 20 q (fun _ => rfl) (by omega) (by omega) hq, fm 21 q (fun _ => rfl) (by omega) (by omega) hq, fm 22 q (fun _ => rfl) (by omega) (by omega) hq, fm 23 q (fun _ => rfl) (by omega) (by omega) hq]
  obtain ⟨d, hd⟩ := (re_nw_iff h2.1.2.1 h2.1.2.2).mp h5
  have hn := hmo P A d h1.1 h2 h3 h4 hd
  refine ⟨P, Q, A, c, t, ?_, h2, ?_, ?_, (re_nw_iff h2.1.2.1 h2.1.2.2).mpr hn, ⟨?_, ?_⟩, fun k hk => ?_, ?_, ?_, ?_⟩
  · rw [hR 0 0 4 (Or.inl rfl), hR 0 0 5 (Or.inl rfl)]
    exact h1
  · unfold re_V
    rw [fn 3 P (fun _ => rfl) (by omega) (by omega) (by omega), fn 4 P (fun _ => rfl) (by omega) (by omega) (by omega), fn 7 P (fun _ => rfl) (by omega) (by omega) (by omega), fn 8 P (fun _ => rfl) (by omega) (by omega) (by omega), fn 9 P (fun _ => rfl) (by omega) (by omega) (by omega), fn 10 P (fun _ => rfl) (by omega) (by omega) (by omega), fn 11 P (fun _ => rfl) (by omega) (by omega) (by omega), fn 14 P (fun _ => rfl) (by omega) (by omega) (by omega), fn 15 P (fun _ => rfl) (by omega) (by omega) (by omega)]
    exact h3
  · unfold re_S
    have e63 : ∀ i, cb_gI M' 63 i = cb_gI M 63 i := fun i => fn 63 i (fun _ => rfl) (by omega) (by omega) (by omega)
    simp only [e63]
    rw [fn 49 0 (fun _ => rfl) (by omega) (by omega) (by omega), fn 51 0 (fun _ => rfl) (by omega) (by omega) (by omega), fn 66 0 (fun _ => rfl) (by omega) (by omega) (by omega), fn 67 0 (fun _ => rfl) (by omega) (by omega) (by omega), fn 68 0 (fun _ => rfl) (by omega) (by omega) (by omega), fn 55 0 (fun _ => rfl) (by omega) (by omega) (by omega), fn 53 0 (fun _ => rfl) (by omega) (by omega) (by omega)]
    exact h4
  · obtain ⟨a1, a2, a3, a4⟩ := h6
    exact ⟨a1, a2, fun j => (hR 24 0 j (Or.inr rfl)).trans (a3 j), (hI 0 0 8 (st 0 0 8 rfl (by omega) (by omega) (by omega))).trans a4⟩
  · exact (hI 46 0 34 (st 46 0 34 rfl (by omega) (by omega) (by omega))).trans h6'
  · rw [g _ _ (by omega), fn 79 k (fun _ => rfl) (by omega) (by omega) (by omega)]
    exact h7 k hk
  · unfold re_T
    rw [fn 2 0 (fun _ => rfl) (by omega) (by omega) (by omega), fn 47 0 (fun _ => rfl) (by omega) (by omega) (by omega), hI 0 0 1 (st 0 0 1 rfl (by omega) (by omega) (by omega)), hI 46 0 1 (st 46 0 1 rfl (by omega) (by omega) (by omega))]
    exact h8
  · rw [hI 0 0 3 (st 0 0 3 rfl (by omega) (by omega) (by omega)), hI 46 0 3 (st 46 0 3 rfl (by omega) (by omega) (by omega))]
    exact h9
  · rw [hI 46 0 41 (st 46 0 41 rfl (by omega) (by omega) (by omega)), hI 46 0 44 (st 46 0 44 rfl (by omega) (by omega) (by omega)), hI 46 0 45 (st 46 0 45 rfl (by omega) (by omega) (by omega))]
    exact h10
theorem re_book {M : cb_M} {m : Nat} (hR : re_R M m) (x off : Int32) : sp_X9_book [cb_i x, cb_i off] M (re_post re_c2 sp_X10_book [cb_i x, cb_i off] m) := by
  obtain ⟨P, n, h, nb, hA, hM, hv, hO, hwt, hn, hh⟩ := re_get hR
  refine Exists.intro P (Exists.intro n (Exists.intro h (Exists.intro nb (And.intro hA ?_))))
  refine And.intro (fun w => Exists.intro _ (And.intro rfl (Exists.intro n (Exists.intro h (Exists.intro nb (And.intro hM (wg_cN hn w (re_tT hR rfl)))))))) (fun i hi ei => ?_)
  refine And.intro (fun w1 w2 => Exists.intro _ (And.intro rfl (Exists.intro n (Exists.intro h (Exists.intro nb (And.intro hM (wg_cY hn hi ei (And.intro (fun _ _ => re_tT hR rfl) (fun w => ?_))))))))) (fun w => ?_)
  · exact w.elim (fun e => absurd e w1) (fun e => absurd w2 e)
  · have e1 : ∀ t i' j, 46 ≤ t → cb_gI (cb_sI M 22 0 i off) t i' j = cb_gI M t i' j := fun t i' j ht => cb_gs_ne (by omega)
    obtain ⟨g1, g2⟩ := re_hi e1 n h nb
    intro Z
    refine Exists.intro n (Exists.intro h (Exists.intro nb (And.intro (g1 hM) (wg_cY hn hi ei (And.intro (fun w1 w2 => ?_) (fun _ => ⟨?_, ?_, rfl, re_R.lzE (M := cb_sI (cb_sI (cb_sI M 22 0 i off) 46 0 0 0) 71 0 i off) (re_now (M := M) (fun t i' j hs => ?_) (fun t i' j _ => rfl) hR (fun P' A d _ hW _ _ hd => ⟨d, ?_⟩)) rfl⟩))))))
    · exact w.elim (fun e => absurd e w1) (fun e => absurd w2 e)
    · have g3 : mv (re_lz (cb_sI M 22 0 i off) Z) n h nb = mv M n h nb := g2
      rw [g3, ← hv]
    · rw [cb_gs_ne (by omega), cb_gs_eq]
    · obtain ⟨s1, s2, s3, s4⟩ := hs
      rw [cb_gs_ne (by omega), cb_gs_ne (fun w => by rw [w.1, w.2.2] at s1; cases s1), cb_gs_ne (by omega)]
    · obtain ⟨⟨d0, d1, d2⟩, d3, d4, d5⟩ := hd
      have k22 : ∀ a, cb_gI (cb_sI (cb_sI (cb_sI M 22 0 i off) 46 0 0 0) 71 0 i off) 22 0 a = if a = i then off else cb_gI M 22 0 a := fun a => by
        rw [cb_gs_ne (by omega), cb_gs_ne (by omega), cb_gI_sI]
        simp
      have k71 : ∀ a, cb_gI (cb_sI (cb_sI (cb_sI M 22 0 i off) 46 0 0 0) 71 0 i off) 71 0 a = if a = i then off else cb_gI M 71 0 a := fun a => by
        rw [cb_gI_sI, cb_gs_ne (by omega), cb_gs_ne (by omega)]
        simp
      have k : ∀ t a b, ¬ t = 22 → ¬ t = 71 → ¬ (t = 46 ∧ b = 0) → cb_gI (cb_sI (cb_sI (cb_sI M 22 0 i off) 46 0 0 0) 71 0 i off) t a b = cb_gI M t a b := fun t a b h1 h2 h3 => by
        rw [cb_gs_ne (by omega), cb_gs_ne (by omega), cb_gs_ne (by omega)]
      have kf : ∀ t a, ¬ t = 22 → ¬ t = 71 → ¬ t = 46 → cb_gI (cb_sI (cb_sI (cb_sI M 22 0 i off) 46 0 0 0) 71 0 i off) t a = cb_gI M t a := fun t a h1 h2 h3 => funext fun b => k t a b h1 h2 (by omega)
      refine ⟨⟨d0, (k 16 0 0 (by omega) (by omega) (by omega)).trans d1, (k 46 0 33 (by omega) (by omega) (by omega)).trans d2⟩, fun a ha => ?_, fun l hl => ?_, fun e a he ha => ?_⟩
      · rw [kf 69 0 (by omega) (by omega) (by omega), kf 17 0 (by omega) (by omega) (by omega), kf 70 0 (by omega) (by omega) (by omega), kf 64 0 (by omega) (by omega) (by omega), kf 18 0 (by omega) (by omega) (by omega), kf 65 0 (by omega) (by omega) (by omega), kf 19 0 (by omega) (by omega) (by omega), k22, k71]
        obtain ⟨q1, q2, q3, q4, q5, q6⟩ := d3 a ha
        exact ⟨q1, q2, q3, q4, (by split <;> first | rfl | exact q5), q6⟩
      · rw [kf 72 0 (by omega) (by omega) (by omega), kf 73 0 (by omega) (by omega) (by omega), kf 20 0 (by omega) (by omega) (by omega), kf 21 0 (by omega) (by omega) (by omega)]
        exact d4 l hl
      · rw [kf 75 e (by omega) (by omega) (by omega), kf 77 e (by omega) (by omega) (by omega), kf 23 0 (by omega) (by omega) (by omega)]
        exact d5 e a he ha
theorem re_swap {M : cb_M} {A : rd_P} {d i l : Nat} (hi : i < A.n) (hl : l < A.h) (hd : re_nw M A d) : re_nw (md_swap (cb_sI (mo_swap M 0 i l) 46 0 0 0) i l) A d := by
  obtain ⟨⟨d0, d1, d2⟩, d3, d4, d5⟩ := hd
  obtain ⟨M2, hM2⟩ : ∃ M2, M2 = md_swap (cb_sI (mo_swap M 0 i l) 46 0 0 0) i l := ⟨_, rfl⟩
  have k18 : ∀ a, cb_gI M2 18 0 a = if a = i then cb_gI M 20 0 l else cb_gI M 18 0 a := fun a => by
    subst hM2
    unfold md_swap mo_swap
    simp [cb_gI_sI]
  have k19 : ∀ a, cb_gI M2 19 0 a = if a = i then cb_gI M 21 0 l else cb_gI M 19 0 a := fun a => by
    subst hM2
    unfold md_swap mo_swap
    simp [cb_gI_sI]
  have k20 : ∀ a, cb_gI M2 20 0 a = if a = l then cb_gI M 18 0 i else cb_gI M 20 0 a := fun a => by
    subst hM2
    unfold md_swap mo_swap
    simp [cb_gI_sI]
  have k21 : ∀ a, cb_gI M2 21 0 a = if a = l then cb_gI M 19 0 i else cb_gI M 21 0 a := fun a => by
    subst hM2
    unfold md_swap mo_swap
    simp [cb_gI_sI]
  have k64 : ∀ a, cb_gI M2 64 0 a = if a = i then cb_gI M 72 0 l else cb_gI M 64 0 a := fun a => by
    subst hM2
    unfold md_swap mo_swap
    simp [cb_gI_sI]
  have k65 : ∀ a, cb_gI M2 65 0 a = if a = i then cb_gI M 73 0 l else cb_gI M 65 0 a := fun a => by
    subst hM2
    unfold md_swap mo_swap
    simp [cb_gI_sI]
  have k72 : ∀ a, cb_gI M2 72 0 a = if a = l then cb_gI M 64 0 i else cb_gI M 72 0 a := fun a => by
    subst hM2
    unfold md_swap mo_swap
    simp [cb_gI_sI]
  have k73 : ∀ a, cb_gI M2 73 0 a = if a = l then cb_gI M 65 0 i else cb_gI M 73 0 a := fun a => by
    subst hM2
    unfold md_swap mo_swap
    simp [cb_gI_sI]
  have k : ∀ t a b, ¬ (18 ≤ t ∧ t ≤ 21) → ¬ (t = 64 ∨ t = 65 ∨ t = 72 ∨ t = 73) → ¬ (t = 46 ∧ b = 0) → cb_gI M2 t a b = cb_gI M t a b := fun t a b h1 h2 h3 => by
    subst hM2
    unfold md_swap mo_swap
    rw [cb_gs_ne (by omega), cb_gs_ne (by omega), cb_gs_ne (by omega), cb_gs_ne (by omega), cb_gs_ne (by omega), cb_gs_ne (by omega), cb_gs_ne (by omega), cb_gs_ne (by omega), cb_gs_ne (by omega)]
  have kf : ∀ t a, ¬ (18 ≤ t ∧ t ≤ 21) → ¬ (t = 64 ∨ t = 65 ∨ t = 72 ∨ t = 73) → ¬ t = 46 → cb_gI M2 t a = cb_gI M t a := fun t a h1 h2 h3 => funext fun b => k t a b h1 h2 (by omega)
  rw [← hM2]
  refine ⟨⟨d0, (k 16 0 0 (by omega) (by omega) (by omega)).trans d1, (k 46 0 33 (by omega) (by omega) (by omega)).trans d2⟩, fun a ha => ?_, fun b hb => ?_, fun e a he ha => ?_⟩
  · rw [kf 69 0 (by omega) (by omega) (by omega), kf 17 0 (by omega) (by omega) (by omega), kf 70 0 (by omega) (by omega) (by omega), kf 71 0 (by omega) (by omega) (by omega), kf 22 0 (by omega) (by omega) (by omega), k64, k65, k18, k19]
    obtain ⟨q1, q2, q3, q4, q5, q6, q7, q8⟩ := d3 a ha
    obtain ⟨p1, p2, p3, p4⟩ := d4 l hl
    by_cases e : a = i
    · rw [if_pos e, if_pos e, if_pos e, if_pos e]
      exact ⟨q1, q2, p1, p2, q5, q6, p3, p4⟩
    · rw [if_neg e, if_neg e, if_neg e, if_neg e]
      exact ⟨q1, q2, q3, q4, q5, q6, q7, q8⟩
  · rw [k72, k73, k20, k21]
    obtain ⟨q1, q2, q3, q4, q5, q6, q7, q8⟩ := d3 i hi
    by_cases e : b = l
    · rw [if_pos e, if_pos e, if_pos e, if_pos e]
      exact ⟨q3, q4, q7, q8⟩
    · rw [if_neg e, if_neg e, if_neg e, if_neg e]
      exact d4 b hb
  · rw [kf 75 e (by omega) (by omega) (by omega), kf 77 e (by omega) (by omega) (by omega), kf 23 0 (by omega) (by omega) (by omega)]
    exact d5 e a he ha
theorem re_nh {M : cb_M} {m : Nat} (hR : re_R M m) {P n h nb : Nat} (hA : wa_I M P n h nb) {P' : Nat} {A : rd_P} (hW : re_W A) (e : cb_gR M 0 0 4 = some P') (hV : re_V M P' A) : n = A.n ∧ h = A.h ∧ nb = A.nb := by
  obtain ⟨g1, ⟨-, g2, g3, -⟩, ⟨g4, g5, g6, g7, -⟩, -⟩ := hA
  have : P = P' := Option.some.inj (g1.symm.trans e)
  subst this
  obtain ⟨⟨v0, v1, v2, -⟩, -⟩ := hV
  exact ⟨re_nI (g2.symm.trans v1) (by omega) (by have := hW.1; omega), re_nI (g4.symm.trans v2) (by omega) (by have := hW.1; omega), re_nI (g6.symm.trans v0) (by omega) (by have := hW.1; omega)⟩
theorem re_hang {M : cb_M} {m : Nat} (hR : re_R M m) (x y : Int32) : sp_X9_hang [cb_i x, cb_i y] M (re_post re_cN sp_X10_hang [cb_i x, cb_i y] m) := by
  obtain ⟨P, n, h, nb, hA, hM, hv, hO, hwt, hn, hh⟩ := re_get hR
  refine Exists.intro P (Exists.intro n (Exists.intro h (Exists.intro nb (And.intro hA ?_))))
  refine And.intro (fun w => Exists.intro _ (And.intro rfl (Exists.intro n (Exists.intro h (Exists.intro nb (And.intro hM (wg_cN hn w (re_tT hR rfl)))))))) (fun i hi ei => ?_)
  refine And.intro (fun w => Exists.intro _ (And.intro rfl (Exists.intro n (Exists.intro h (Exists.intro nb (And.intro hM (wg_cY hn hi ei (wg_cN (show h ≤ 8 by omega) w (re_tT hR rfl))))))))) (fun l hl el => ?_)
  have e1 : ∀ t i' j, 46 ≤ t → cb_gI (mo_swap M 0 i l) t i' j = cb_gI M t i' j := fun t i' j ht => by
    unfold mo_swap
    rw [cb_gs_ne (by omega), cb_gs_ne (by omega), cb_gs_ne (by omega), cb_gs_ne (by omega)]
  obtain ⟨g1, g2⟩ := re_hi e1 n h nb
  intro Z
  refine Exists.intro n (Exists.intro h (Exists.intro nb (And.intro (g1 hM) (wg_cY hn hi ei (wg_cY (show h ≤ 8 by omega) hl el ⟨rfl, ?_, rfl, re_R.lzE (M := md_swap (cb_sI (mo_swap M 0 i l) 46 0 0 0) i l) (re_now (M := M) (fun t i' j hs => ?_) (fun t i' j _ => rfl) hR (fun P' A d e hW hV _ hd => ⟨d, ?_⟩)) rfl⟩)))))
  · unfold md_swap
    rw [cb_gs_ne (by omega), cb_gs_ne (by omega), cb_gs_ne (by omega), cb_gs_ne (by omega), cb_gs_eq]
  · obtain ⟨s1, s2, s3, s4⟩ := hs
    unfold md_swap mo_swap
    rw [cb_gs_ne (by omega), cb_gs_ne (by omega), cb_gs_ne (by omega), cb_gs_ne (by omega), cb_gs_ne (fun w => by rw [w.1, w.2.2] at s1; cases s1), cb_gs_ne (by omega), cb_gs_ne (by omega), cb_gs_ne (by omega), cb_gs_ne (by omega)]
  · obtain ⟨n1, n2, -⟩ := re_nh hR hA hW e hV
    exact re_swap (by omega) (by omega) hd
