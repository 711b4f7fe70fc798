/-! ===== wall: of both ===== -/
theorem fr_W_lo {t j : Nat} (h : t < 46) : fr_W2 t j = false ∧ fr_W t j = false := by
  constructor
  · cases e : fr_W2 t j with
    | false => rfl
    | true =>
      unfold fr_W2 fr_W fr_S at e
      simp only [Bool.or_eq_true, Bool.and_eq_true, Nat.beq_eq, Nat.ble_eq] at e
      omega
  · cases e : fr_W t j with
    | false => rfl
    | true =>
      unfold fr_W at e
      simp only [Bool.or_eq_true, Bool.and_eq_true, Nat.beq_eq, Nat.ble_eq] at e
      omega
theorem mo_c_W (s : Nat) : fr_W (mo_c s).1 (mo_c s).2.2 = false := by
  by_cases h0 : s < 53
  · have : ∀ s, s < 53 → fr_W (mo_c s).1 (mo_c s).2.2 = false := by decide
    exact this s h0
  · obtain ⟨d, i, r, hi, hr, rfl⟩ : ∃ d i r, i < 8 ∧ r < 2 ∧ s = 53 + 16 * d + 2 * i + r := ⟨(s - 53) / 16, (s - 53) / 2 % 8, (s - 53) % 2, by omega, by omega, by omega⟩
    rcases (show r = 0 ∨ r = 1 by omega) with rfl | rfl
    · rw [Nat.add_zero, (mo_c_d hi).1]
      rfl
    · rw [(mo_c_d hi).2]
      rfl
theorem wm_fmod_0 {k : Nat} (h : k ≤ 999) : wm_fmod (nI k + 0) 1000 = nI k := by
  refine Int32.toInt_inj.mp ?_
  rw [wm_fmod_int, show nI k + 0 = nI k by simp, nI_toInt (by omega)]
  omega
theorem re_wall_no {M M1 M2 : cb_M} {m P Q k : Nat} {b v v2 : Int32} {bb : Nat} (hR : re_R M m) (hP : cb_gR M 0 0 4 = some P) (hQ : cb_gR M 0 0 5 = some Q) (hp : vw_post M P Q (.inl (b, bb)) v M1) (hm : mw_post M1 (.inl (b, bb)) v2 M2) : v2 = v ∧ re_R M2 m := by
  obtain ⟨⟨f1, f2, -⟩, p1, p2, -, p3, p4, p5, p6, p7⟩ := hp
  obtain ⟨-, m1, mF, m2, -, m3⟩ := hm
  refine ⟨m2.trans p2.symm, ?_⟩
  obtain ⟨P', Q', A, c, t, ⟨⟨r4, r5, P2, Q2, PQ⟩, hW, hV, hS, hT, e3, c41, c44, c45⟩, hmo, ⟨⟨i1, i2, i3, i4⟩, h34⟩, himg⟩ := re_B_iff.mp hR
  have eP : P' = P := Option.some.inj (r4.symm.trans hP)
  have eQ : Q' = Q := Option.some.inj (r5.symm.trans hQ)
  subst eP eQ
  have lo : ∀ t i j, t < 46 → cb_gI M2 t i j = cb_gI M1 t i j := fun t i j w => mF.1 t i j (fr_W_lo w).2
  have k1 : ∀ t i j, 46 ≤ t → cb_gI M1 t i j = cb_gI M t i j := fun t i j w => f1 t i j (by omega) (by omega) (by omega) (by omega)
  have hi : ∀ t i j, 46 ≤ t → fr_W t j = false → cb_gI M2 t i j = cb_gI M t i j := fun t i j w w2 => (mF.1 t i j w2).trans (k1 t i j w)
  have hif : ∀ t i, 46 ≤ t → (∀ j, fr_W t j = false) → cb_gI M2 t i = cb_gI M t i := fun t i w w2 => funext fun j => hi t i j w (w2 j)
  have pf : ∀ t, 3 ≤ t → t ≤ 15 → cb_gI M2 t P' = cb_gI M t P' := fun t w1 w2 => funext fun j => (lo t P' j (by omega)).trans (f1 t P' j (by omega) (by omega) (by omega) (by omega))
  have mo : ∀ t q j, 16 ≤ t → t ≤ 23 → cb_gI M2 t q j = cb_gI M t q j := fun t q j w1 w2 => by
    rw [lo t q j (by omega)]
    by_cases e : q = 0
    · subst e
      exact p7 t j w1 w2
    · exact f1 t q j (by omega) (by omega) (by omega) (by omega)
  have kR : ∀ j, cb_gR M2 24 0 j = cb_gR M 24 0 j := fun j => (mF.ref 24 0 j).trans (f2 24 0 j (by omega) (by omega))
  have hn := hW.1
  refine re_B_iff.mpr ⟨P', Q', A, c, 0, ⟨⟨?_, ?_, P2, Q2, PQ⟩, hW, ?_, ?_, ⟨⟨(lo 0 0 1 (by omega)).trans p1, m1, by omega⟩, fun j hj => absurd hj (by omega)⟩, ?_, ?_, ?_, ?_⟩, re_mo_eq hn.2.1 hn.2.2 (fun a _ => hi _ _ _ (mo_c_sb a).2.1 (mo_c_W a)) (fun t j w1 w2 => mo t 0 j w1 w2) hmo, ⟨⟨i1, i2, fun j => (kR j).trans (i3 j), ?_⟩, ?_⟩, fun x hx => re_mo_eq hn.2.1 hn.2.2 (fun a _ => hi 79 x a (by omega) rfl) (fun t j w1 w2 => mo t (x + 1) j w1 w2) (himg x hx)⟩
  · rw [mF.ref, p5]
    exact r4
  · rw [mF.ref, p6]
    exact r5
  · unfold re_V
    rw [pf 3 (by omega) (by omega), pf 4 (by omega) (by omega), pf 7 (by omega) (by omega), pf 8 (by omega) (by omega), pf 9 (by omega) (by omega), pf 10 (by omega) (by omega), pf 11 (by omega) (by omega), pf 14 (by omega) (by omega), pf 15 (by omega) (by omega)]
    exact hV
  · unfold re_S
    have e63 : ∀ i, cb_gI M2 63 i = cb_gI M 63 i := fun i => hif 63 i (by omega) (fun _ => rfl)
    simp only [e63]
    rw [hif 49 0 (by omega) (fun _ => rfl), hif 51 0 (by omega) (fun _ => rfl), hif 66 0 (by omega) (fun _ => rfl), hif 67 0 (by omega) (fun _ => rfl), hif 68 0 (by omega) (fun _ => rfl), hif 55 0 (by omega) (fun _ => rfl), hif 53 0 (by omega) (fun _ => rfl)]
    exact hS
  · rw [lo 0 0 3 (by omega), p3, m3]
  · exact (hi 46 0 41 (by omega) rfl).trans c41
  · exact (hi 46 0 44 (by omega) rfl).trans c44
  · exact (hi 46 0 45 (by omega) rfl).trans c45
  · rw [lo 0 0 8 (by omega), p4]
    exact i4
  · exact (hi 46 0 34 (by omega) rfl).trans h34
theorem re_wall_yes {M M1 M2 : cb_M} {m P Q : Nat} {v v2 : Int32} {A : rd_P} (hR : re_R M m) (hP : cb_gR M 0 0 4 = some P) (hQ : cb_gR M 0 0 5 = some Q) (hA : rd_W A) (hp : vw_post M P Q (.inr A) v M1) (hm : mw_post M1 (.inr A) v2 M2) : v2 = v ∧ re_R M2 m := by
  obtain ⟨⟨f1, f2, -⟩, p1, p2, p3, p4, p5, p6, ⟨⟨v0, v1, v2', v3, v4⟩, v5, v6, v7, v8, v9, v10⟩, p8, p9, p10⟩ := hp
  obtain ⟨-, m1, mF, m2, m3, ⟨⟨a0, a1, a2, a3, a4⟩, a5, a6, a7, a8, a9, a10⟩, m5, m6⟩ := hm
  refine ⟨m2.trans p2.symm, ?_⟩
  obtain ⟨P', Q', A', c, t, ⟨⟨r4, r5, P2, Q2, PQ⟩, -, -, -, -, -, c41, c44, c45⟩, -, ⟨⟨i1, i2, i3, i4⟩, -⟩, -⟩ := re_B_iff.mp hR
  have eP : P' = P := Option.some.inj (r4.symm.trans hP)
  have eQ : Q' = Q := Option.some.inj (r5.symm.trans hQ)
  subst eP eQ
  obtain ⟨⟨w1, w2, w3⟩, w4, w5, w6, w7, w8, w9, w10, w11⟩ := hA
  have lo : ∀ t i j, t < 46 → cb_gI M2 t i j = cb_gI M1 t i j := fun t i j w => mF.1 t i j (fr_W_lo w).1
  have k1 : ∀ t i j, 46 ≤ t → cb_gI M1 t i j = cb_gI M t i j := fun t i j w => f1 t i j (by omega) (by omega) (by omega) (by omega)
  have hi : ∀ t i j, 46 ≤ t → fr_W2 t j = false → cb_gI M2 t i j = cb_gI M t i j := fun t i j w w2 => (mF.1 t i j w2).trans (k1 t i j w)
  have kR : ∀ j, cb_gR M2 24 0 j = cb_gR M 24 0 j := fun j => (mF.ref 24 0 j).trans (f2 24 0 j (by omega) (by omega))
  have hW : re_W A := ⟨⟨w1, w2, w3⟩, fun i hi => ⟨(w5 i hi).2.2.1, (w5 i hi).2.2.2.1, w6 i (by omega), (w5 i hi).2.2.2.2.2⟩, w9, w10⟩
  refine re_B_iff.mpr ⟨Q', P', A, 0, 0, ⟨⟨?_, ?_, Q2, P2, fun e => PQ e.symm⟩, hW, ⟨⟨?_, ?_, ?_, ?_, ?_⟩, fun b hb => ?_, fun i hi' => ⟨?_, ?_, ?_, ?_, ?_⟩, fun i j hi' hj => ?_, fun x hx => ?_⟩, ⟨⟨a0, a1, a2, a3, a4⟩, a5, fun i hi' => ⟨(a6 i hi').2.2.1, (a6 i hi').2.2.2.1, (a6 i hi').2.2.2.2.1, (a7 i (by omega)).1⟩, fun i j hi' hj => a9 i j (by omega) (by omega), a10⟩, ⟨⟨(lo 0 0 1 (by omega)).trans p1, m1, by omega⟩, fun j hj => absurd hj (by omega)⟩, ?_, ?_, ?_, ?_⟩, (re_nw_iff w2 w3).mpr ⟨0, ⟨by omega, (lo 16 0 0 (by omega)).trans p8, m5⟩, fun i hi' => ?_, fun l hl => ?_, fun e i he _ => absurd he (by omega)⟩, ⟨⟨i1, by omega, fun j => (kR j).trans (i3 j), ?_⟩, m6⟩, fun x hx => absurd hx (by omega)⟩
  · rw [mF.ref, p5]
  · rw [mF.ref, p6]
  · rw [lo 3 Q' 0 (by omega)]; exact v0
  · rw [lo 3 Q' 1 (by omega)]; exact v1
  · rw [lo 3 Q' 2 (by omega)]; exact v2'
  · rw [lo 3 Q' 3 (by omega)]; exact v3
  · rw [lo 3 Q' 4 (by omega)]; exact v4
  · rw [lo 4 Q' b (by omega)]; exact v5 b hb
  · rw [lo 7 Q' i (by omega)]; exact (v6 i hi').2.2.1
  · rw [lo 8 Q' i (by omega)]; exact (v6 i hi').2.2.2.1
  · rw [lo 9 Q' i (by omega)]; exact (v6 i hi').2.2.2.2.1
  · rw [lo 10 Q' i (by omega)]; exact (v6 i hi').2.2.2.2.2
  · rw [lo 11 Q' i (by omega)]; exact v7 i (by omega)
  · rw [lo 14 Q' (i * 8 + j) (by omega)]; exact v9 (i * 8 + j) (by omega)
  · rw [lo 15 Q' x (by omega)]; exact v10 x hx
  · rw [lo 0 0 3 (by omega), p3, m3]
  · exact (hi 46 0 41 (by omega) rfl).trans c41
  · exact (hi 46 0 44 (by omega) rfl).trans c44
  · exact (hi 46 0 45 (by omega) rfl).trans c45
  · obtain ⟨s1, s2, s3, s4⟩ := p9 i (by omega)
    obtain ⟨k, hk, ek⟩ := (w5 i hi').2.2.2.2.2
    have e17 : cb_gI M2 17 0 i = 0 := (lo 17 0 i (by omega)).trans s1
    have e18 : cb_gI M2 18 0 i = A.c.1 i := (lo 18 0 i (by omega)).trans (s3.trans (v6 i hi').1)
    have e19 : cb_gI M2 19 0 i = A.c.2.1 i := (lo 19 0 i (by omega)).trans (s4.trans (v6 i hi').2.1)
    obtain ⟨b1, b2, -, -, -, b6, b7⟩ := a6 i hi'
    refine ⟨?_, ?_, ?_, ?_, ?_, ?_, ?_, ?_⟩
    · unfold wm_pof
      rw [b6, e17, ek, wm_fmod_0 hk]
    · rw [b7, e17]
    · rw [b1, e18]
    · rw [b2, e19]
    · rw [(a7 i (by omega)).2, lo 22 0 i (by omega), s2]
    · rw [e17]
      exact ⟨by decide, by decide⟩
    · rw [e18]
      exact (w5 i hi').1
    · rw [e19]
      exact (w5 i hi').2.1
  · obtain ⟨s1, s2⟩ := p10 l (by omega)
    have e20 : cb_gI M2 20 0 l = A.hk.1 l := (lo 20 0 l (by omega)).trans (s1.trans (v8 l hl).1)
    have e21 : cb_gI M2 21 0 l = A.hk.2 l := (lo 21 0 l (by omega)).trans (s2.trans (v8 l hl).2)
    rw [e20, e21]
    exact ⟨(a8 l hl).1, (a8 l hl).2, (w7 l hl).1, (w7 l hl).2⟩
  · rw [lo 0 0 8 (by omega), p4]
    rfl
theorem re_wall {M : cb_M} {m : Nat} (hR : re_R M m) (N : Int32) : sp_X9_wall [cb_i N] M (re_post re_cI sp_X10_wall [cb_i N] m) := by
  obtain ⟨P, Q, A, c, t, ⟨⟨r4, r5, P2, Q2, PQ⟩, -, -, -, ⟨⟨t1, t2, t6⟩, tb⟩, -⟩, -⟩ := re_B_iff.mp hR
  refine Exists.intro P (Exists.intro Q (Exists.intro t (And.intro ⟨r4, r5, P2, Q2, PQ, t1, t6⟩ ?_)))
  refine And.intro (fun w => Exists.intro _ (And.intro rfl (Exists.intro t (And.intro ⟨t2, t6⟩ (wg_rN (by omega) w (re_tT hR rfl)))))) (fun k k1 k2 ke => ?_)
  intro M1 v hp Z
  have h46 : ∀ t i j, 46 ≤ t → cb_gI M1 t i j = cb_gI M t i j := fun t i j w => hp.1.1 t i j (by omega) (by omega) (by omega) (by omega)
  refine Exists.intro t (And.intro ⟨(h46 46 0 1 (by omega)).trans t2, t6⟩ (wg_rY (by omega) k1 k2 ke (fun M2 v2 hm => ?_)))
  have e47 : cb_gI (re_lz M1 Z) 47 0 = cb_gI M 47 0 := funext fun j => h46 47 0 j (by omega)
  rw [e47, ← rd_loop_cong (tx := cb_gI M 2 0) (ty := cb_gI M 47 0) (len := k) (fun i hi => re_by_q (tb i (by omega)))] at hm
  have key : M2.2.2 = Z ∧ v2 = v ∧ re_R (re_lz M2 M1.2.2) m := by
    cases eR : rd_loop (cb_gI M 2 0) k 61 rd_0 0 0 with
    | inl x =>
      obtain ⟨b, bb⟩ := x
      rw [eR] at hp hm
      obtain ⟨a1, a2, a3, a4⟩ := hm
      exact ⟨re_fr a3, re_wall_no (k := k) (M2 := re_lz M2 M1.2.2) hR r4 r5 hp ⟨a1, a2, (re_frZ a3).2, a4⟩⟩
    | inr A' =>
      rw [eR] at hp hm
      obtain ⟨a1, a2, a3, a4⟩ := hm
      exact ⟨re_fr a3, re_wall_yes (M2 := re_lz M2 M1.2.2) hR r4 r5 (rd_loop_W rd_0_W eR) hp ⟨a1, a2, (re_frZ a3).2, a4⟩⟩
  exact ⟨by rw [key.2.1], hm.1, key.1, key.2.2.un⟩
