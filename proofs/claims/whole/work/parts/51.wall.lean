/-! ===== wall, restore ===== -/
/-- what a new wall leaves as it was -/
def vw_fr (Q : Nat) (M M' : cb_M) : Prop := (∀ t i j, ¬ t = 1 → ¬ (3 ≤ t ∧ t ≤ 15 ∧ i = Q) → ¬ (t = 0 ∧ (j = 1 ∨ j = 3 ∨ j = 8)) → ¬ (16 ≤ t ∧ t ≤ 23 ∧ i = 0) → cb_gI M' t i j = cb_gI M t i j) ∧ (∀ t i j, ¬ t = 1 → ¬ (t = 0 ∧ (j = 4 ∨ j = 5)) → cb_gR M' t i j = cb_gR M t i j) ∧ M'.2.2 = M.2.2
def vw_post (M : cb_M) (P Q : Nat) (R : rd_X ⊕ rd_P) (v : Int32) (M' : cb_M) : Prop := vw_fr Q M M' ∧ cb_gI M' 0 0 1 = 0 ∧ (match R with
  | .inl (k, b) => v = k - 10 ∧ ¬ k = 0 ∧ cb_gI M' 0 0 3 = nI b ∧ cb_gI M' 0 0 8 = cb_gI M 0 0 8 ∧ cb_gR M' 0 0 4 = cb_gR M 0 0 4 ∧ cb_gR M' 0 0 5 = cb_gR M 0 0 5 ∧ ∀ t j, 16 ≤ t → t ≤ 23 → cb_gI M' t 0 j = cb_gI M t 0 j
  | .inr A => v = nI A.n ∧ cb_gI M' 0 0 3 = -1 ∧ cb_gI M' 0 0 8 = 0 ∧ cb_gR M' 0 0 4 = some Q ∧ cb_gR M' 0 0 5 = some P ∧ rd_V M' Q A ∧ cb_gI M' 16 0 0 = 0 ∧ (∀ i, i < 8 → cb_gI M' 17 0 i = 0 ∧ cb_gI M' 22 0 i = -2147483648 ∧ cb_gI M' 18 0 i = cb_gI M' 5 Q i ∧ cb_gI M' 19 0 i = cb_gI M' 6 Q i) ∧ ∀ l, l < 6 → cb_gI M' 20 0 l = cb_gI M' 12 Q l ∧ cb_gI M' 21 0 l = cb_gI M' 13 Q l)
theorem mo_start_lo (M : cb_M) (Q : Nat) {t i j : Nat} (h : t < 16 ∨ 24 ≤ t ∨ ¬ i = 0) : cb_gI (mo_start M 0 Q) t i j = cb_gI M t i j := by
  unfold mo_start
  rw [cb_gI_cp, if_neg (by omega), cb_gI_cp, if_neg (by omega), cb_gI_cp, if_neg (by omega), cb_gI_cp, if_neg (by omega), cb_gI_fl, if_neg (by omega), cb_gI_fl, if_neg (by omega), cb_gs_ne (by omega)]
theorem va_cpy_0 {f g : Nat → Int32} {n k : Nat} (h : k < n) : va_cpy f g 0 0 n k = f k := by
  unfold va_cpy
  rw [if_pos (by omega), show 0 + (k - 0) = k by omega]
theorem mo_start_hi (M : cb_M) (Q : Nat) : cb_gI (mo_start M 0 Q) 16 0 0 = 0 ∧ (∀ i, i < 8 → cb_gI (mo_start M 0 Q) 17 0 i = 0 ∧ cb_gI (mo_start M 0 Q) 22 0 i = -2147483648 ∧ cb_gI (mo_start M 0 Q) 18 0 i = cb_gI M 5 Q i ∧ cb_gI (mo_start M 0 Q) 19 0 i = cb_gI M 6 Q i) ∧ ∀ l, l < 6 → cb_gI (mo_start M 0 Q) 20 0 l = cb_gI M 12 Q l ∧ cb_gI (mo_start M 0 Q) 21 0 l = cb_gI M 13 Q l := by
  unfold mo_start
  refine ⟨?_, fun i hi => ⟨?_, ?_, ?_, ?_⟩, fun l hl => ⟨?_, ?_⟩⟩
  · rw [cb_gI_cp, if_neg (by omega), cb_gI_cp, if_neg (by omega), cb_gI_cp, if_neg (by omega), cb_gI_cp, if_neg (by omega), cb_gI_fl, if_neg (by omega), cb_gI_fl, if_neg (by omega), cb_gs_eq]
  · rw [cb_gI_cp, if_neg (by omega), cb_gI_cp, if_neg (by omega), cb_gI_cp, if_neg (by omega), cb_gI_cp, if_neg (by omega), cb_gI_fl, if_neg (by omega), cb_gI_fl, if_pos ⟨rfl, rfl, hi⟩]
  · rw [cb_gI_cp, if_neg (by omega), cb_gI_cp, if_neg (by omega), cb_gI_cp, if_neg (by omega), cb_gI_cp, if_neg (by omega), cb_gI_fl, if_pos ⟨rfl, rfl, hi⟩]
  · rw [cb_gI_cp, if_neg (by omega), cb_gI_cp, if_neg (by omega), cb_gI_cp, if_neg (by omega), cb_gI_cp, if_pos ⟨rfl, rfl⟩, va_cpy_0 hi, cb_gI_fl, if_neg (by omega), cb_gI_fl, if_neg (by omega), cb_gs_ne (by omega)]
  · rw [cb_gI_cp, if_neg (by omega), cb_gI_cp, if_neg (by omega), cb_gI_cp, if_pos ⟨rfl, rfl⟩, va_cpy_0 hi, cb_gI_cp, if_neg (by omega), cb_gI_fl, if_neg (by omega), cb_gI_fl, if_neg (by omega), cb_gs_ne (by omega)]
  · rw [cb_gI_cp, if_neg (by omega), cb_gI_cp, if_pos ⟨rfl, rfl⟩, va_cpy_0 hl, cb_gI_cp, if_neg (by omega), cb_gI_cp, if_neg (by omega), cb_gI_fl, if_neg (by omega), cb_gI_fl, if_neg (by omega), cb_gs_ne (by omega)]
  · rw [cb_gI_cp, if_pos ⟨rfl, rfl⟩, va_cpy_0 hl, cb_gI_cp, if_neg (by omega), cb_gI_cp, if_neg (by omega), cb_gI_cp, if_neg (by omega), cb_gI_fl, if_neg (by omega), cb_gI_fl, if_neg (by omega), cb_gs_ne (by omega)]
def sp_X9_wall : cb_Sw := fun r M K => match r with
  | [.inl N] => ∃ P Q t, (cb_gR M 0 0 4 = some P ∧ cb_gR M 0 0 5 = some Q ∧ P < 2 ∧ Q < 2 ∧ ¬ P = Q ∧ cb_gI M 0 0 1 = nI t ∧ t ≤ 600) ∧ wg_r 0 t N (K (.inr 1) M) fun k => ∀ M' v, vw_post M P Q (rd_loop (cb_gI M 2 0) k 61 rd_0 0 0) v M' → K (.inl (some (cb_i v))) M'
  | _ => False
def pt_X9_wall : cb_PT := cb_wm 1 sp_X9_wall
theorem rc_X9_wall : cb_rc cb_tb RX9 pt_X9_wall := cb_wm_rc
def md_X9_wall : cb_D := (RX9, cX9_wall, 4, (some .int), (1, 6, 8, 179), [
  (0, .iload_n 1, 1, 0, 1, 0, 0),
  (1, .iconst 0, 1, 0, 0, 0, 0),
  (2, .aload_n 0, 1, 0, 0, 0, 0),
  (3, .getfield 13, 3, 0, 9, 1, 359),
  (6, .invokestatic 101, 3, 0, 0, 0, 0),
  (9, .aload_n 0, 1, 0, 0, 0, 0),
  (10, .iconst 0, 1, 0, 0, 0, 0),
  (11, .putfield 13, 3, 0, 9, 1, 359),
  (14, .aload_n 0, 1, 0, 0, 0, 0),
  (15, .getfield 20, 3, 0, 9, 2, 360),
  (18, .aload_n 0, 1, 0, 0, 0, 0),
  (19, .getfield 9, 3, 0, 9, 0, 358),
  (22, .iload_n 1, 1, 0, 1, 0, 0),
  (23, .aload_n 0, 1, 0, 0, 0, 0),
  (24, .getfield 34, 3, 0, 9, 5, 363),
  (27, .invokevirtual 105, 3, 0, 1, 0, 0),
  (30, .istore_n 2, 1, 0, 2, 0, 0),
  (31, .aload_n 0, 1, 0, 0, 0, 0),
  (32, .aload_n 0, 1, 0, 0, 0, 0),
  (33, .getfield 20, 3, 0, 9, 2, 360),
  (36, .getfield 109, 3, 0, 6, 5, 45),
  (39, .putfield 24, 3, 0, 9, 3, 361),
  (42, .iload_n 2, 1, 0, 2, 0, 0),
  (43, .ifCond .eq 8, 3, 0, 51, 0, 0),
  (46, .iload_n 2, 1, 0, 2, 0, 0),
  (47, .bipush 10, 2, 10, 0, 0, 0),
  (49, .isub, 1, 0, 0, 0, 0),
  (50, .ireturn, 1, 0, 0, 0, 0),
  (51, .aload_n 0, 1, 0, 0, 0, 0),
  (52, .getfield 34, 3, 0, 9, 5, 363),
  (55, .astore_n 3, 1, 0, 3, 0, 0),
  (56, .aload_n 0, 1, 0, 0, 0, 0),
  (57, .aload_n 0, 1, 0, 0, 0, 0),
  (58, .getfield 30, 3, 0, 9, 4, 362),
  (61, .putfield 34, 3, 0, 9, 5, 363),
  (64, .aload_n 0, 1, 0, 0, 0, 0),
  (65, .aload_n 3, 1, 0, 3, 0, 0),
  (66, .putfield 30, 3, 0, 9, 4, 362),
  (69, .aload_n 0, 1, 0, 0, 0, 0),
  (70, .getfield 40, 3, 0, 9, 6, 364),
  (73, .aload_n 0, 1, 0, 0, 0, 0),
  (74, .getfield 30, 3, 0, 9, 4, 362),
  (77, .invokevirtual 110, 3, 0, 2, 0, 0),
  (80, .aload_n 0, 1, 0, 0, 0, 0),
  (81, .iconst 0, 1, 0, 0, 0, 0),
  (82, .putfield 48, 3, 0, 9, 8, 366),
  (85, .aload_n 0, 1, 0, 0, 0, 0),
  (86, .getfield 30, 3, 0, 9, 4, 362),
  (89, .getfield 114, 3, 0, 4, 1, 72),
  (92, .ireturn, 1, 0, 0, 0, 0)],
  [(1, 101, 3, 1, 6, pt_X9_needWithin), (0, 105, 4, 0, 0, pt_X6_readText), (0, 110, 2, 0, 0, pt_X3_startOf)], [])
set_option maxRecDepth 100000 in
theorem vd_X9_wall : md_X9_wall.cd.all (cb_vE md_X9_wall) = true := by decide +kernel
theorem wd_X9_wall : cb_wd yX9_wall md_X9_wall := ⟨cb_tw (i := 547) (by decide +kernel), cb_tw (i := 1) (by decide +kernel), by decide, by decide⟩
theorem cs_X9_wall : ∀ X, cb_Bs md_X9_wall X → ∀ g ∈ md_X9_wall.ga, cb_CS cb_tb md_X9_wall X g := fun X B => List.forall_mem_cons.mpr ⟨cb_csS B ok_X9_needWithin wd_X9_needWithin (cb_tw (i := 548) (by decide +kernel)) (cb_tw (i := 549) (by decide +kernel)) ⟨by decide, by decide⟩ (by decide +kernel), List.forall_mem_cons.mpr ⟨cb_csV B ok_X6_readText wd_X6_readText (cb_tw (i := 617) (by decide +kernel)) (cb_tw (i := 618) (by decide +kernel)) (cb_tw (i := 619) (by decide +kernel)) rc_X6_readText ⟨by decide, by decide⟩ (by decide +kernel), List.forall_mem_cons.mpr ⟨cb_csV B ok_X3_startOf wd_X3_startOf (cb_tw (i := 764) (by decide +kernel)) (cb_tw (i := 765) (by decide +kernel)) (cb_tw (i := 766) (by decide +kernel)) rc_X3_startOf ⟨by decide, by decide⟩ (by decide +kernel), fun _ h => nomatch h⟩⟩⟩
theorem ok_X9_wall : cb_MOK cb_tb yX9_wall md_X9_wall pt_X9_wall := by
  refine cb_okw0 ⟨plainFor_of_name (by decide), rfl⟩ (by decide) cs_X9_wall (by decide) (fun X n0 f r M hr h => ?_)
  match r, hr, h with
  | [.inl N], hr, h =>
    obtain ⟨P, Q, t, ⟨hP, hQ, hP2, hQ2, hPQ, ht, ht6⟩, h⟩ := h
    have haQ := cb_aPP (n := n0) (f := f) hQ2 (t := 3) rfl
    have haP := cb_aPP (n := n0) (f := f) hP2 (t := 3) rfl
    have hg := wg_r_i (lo := 0) (hi := t) (D := ∃ k, k ≤ t ∧ N = nI k ∧ ∀ M' v, vw_post M P Q (rd_loop (cb_gI M 2 0) k 61 rd_0 0 0) v M' → X.K (.inl (some (cb_i v))) (cb_aS n0, f) M') (by omega) (Nat.zero_le _) h (fun k _ h2 hN hc => ⟨k, h2, hN, hc⟩)
    refine cb_run cb_tb_ok vd_X9_wall (cuts := []) 90 ?_
    show wg_i 0 (cb_gI M 0 0 1) N _ _
    rw [ht]
    refine And.intro hg.1 (fun w => ?_)
    obtain ⟨k, hkt, hN, h⟩ := hg.2 w
    refine Exists.intro (some Q) (And.intro hQ (And.intro (cb_on rfl) ⟨rfl, rfl, rfl, hQ2, k, ⟨hN, by omega⟩, fun M1 v hF1 hq1 => ?_⟩))
    have htx : cb_gI (cb_sI M 0 0 1 0) 2 0 = cb_gI M 2 0 := rfl
    rw [htx] at hq1
    have f1 : ∀ t i j, ¬ t = 1 → ¬ (3 ≤ t ∧ t ≤ 15 ∧ i = Q) → ¬ (t = 0 ∧ j = 1) → cb_gI M1 t i j = cb_gI M t i j := fun t i j h1 h2 h3 => by
      rw [hF1.1 t i j h1 h2, cb_gs_ne (fun w => h3 ⟨w.1, w.2.2⟩)]
    have r1 : ∀ t i j, ¬ t = 1 → cb_gR M1 t i j = cb_gR M t i j := fun t i j h1 => hF1.2.1 t i j h1
    have g1 : cb_gI M1 0 0 1 = 0 := (hF1.1 0 0 1 (by decide) (by omega)).trans (cb_gs_eq _ _ _ _ _)
    cases hR : rd_loop (cb_gI M 2 0) k 61 rd_0 0 0 with
    | inl x =>
      obtain ⟨kk, b⟩ := x
      rw [hR] at hq1 h
      obtain ⟨rfl, hk0, g5⟩ := hq1
      refine And.intro (fun q => absurd q hk0) (fun _ => And.intro trivial (h (cb_sI M1 0 0 3 (cb_gI M1 1 0 5)) _ ⟨⟨fun t i j h1 h2 h3 h4 => ?_, fun t i j h1 h2 => r1 t i j h1, hF1.2.2⟩, ?_, rfl, hk0, ?_, ?_, r1 0 0 4 (by decide), r1 0 0 5 (by decide), fun t j h1 h2 => ?_⟩))
      · rw [cb_gs_ne (fun w => h3 ⟨w.1, by omega⟩)]
        exact f1 t i j h1 h2 (fun w => h3 ⟨w.1, by omega⟩)
      · rw [cb_gs_ne (by omega)]
        exact g1
      · rw [cb_gs_eq]
        exact g5
      · rw [cb_gs_ne (by omega)]
        exact f1 0 0 8 (by decide) (by omega) (by omega)
      · rw [cb_gs_ne (by omega)]
        exact f1 t 0 j (by omega) (by omega) (by omega)
    | inr A =>
      rw [hR] at hq1 h
      obtain ⟨rfl, hV, g5⟩ := hq1
      have q1 : cb_gR M1 0 0 5 = some Q := (r1 0 0 5 (by decide)).trans hQ
      have p1 : cb_gR M1 0 0 4 = some P := (r1 0 0 4 (by decide)).trans hP
      refine And.intro (fun _ => ?_) (fun q => absurd rfl q)
      obtain ⟨M2, hM2⟩ : ∃ M2, M2 = cb_sR (cb_sR (cb_sI M1 0 0 3 (cb_gI M1 1 0 5)) 0 0 5 (some P)) 0 0 4 (some Q) := ⟨_, rfl⟩
      have hm2 : ∀ t i j, cb_gI M2 t i j = cb_gI (cb_sI M1 0 0 3 (cb_gI M1 1 0 5)) t i j := fun t i j => by rw [hM2]; rfl
      have hr4 : cb_gR M2 0 0 4 = some Q := by rw [hM2]; rfl
      have hr5 : cb_gR M2 0 0 5 = some P := by rw [hM2]; rfl
      refine Exists.intro (some Q) (And.intro q1 (Exists.intro (some P) (And.intro p1 ?_)))
      refine Exists.intro (some Q) (And.intro rfl (And.intro (cb_on rfl) (And.intro hQ2 (Exists.intro (some Q) (And.intro rfl (cb_av.of haQ (And.intro trivial ?_)))))))
      have hlow : ∀ t i j, ¬ (t = 0 ∧ j = 8) → (t < 16 ∨ 24 ≤ t ∨ ¬ i = 0) → cb_gI (cb_sI (mo_start M2 0 Q) 0 0 8 0) t i j = cb_gI M2 t i j := fun t i j h1 h2 => by
        rw [cb_gs_ne (fun w => h1 ⟨w.1, w.2.2⟩)]
        exact mo_start_lo M2 Q h2
      have hfin := h (cb_sI (mo_start M2 0 Q) 0 0 8 0) (nI A.n) ⟨⟨fun t i j h1 h2 h3 h4 => ?_, fun t i j h1 h2 => ?_, ?_⟩, ?_, rfl, ?_, ?_, hr4, hr5, ?_, ?_, fun i hi => ?_, fun l hl => ?_⟩
      · rw [hM2] at hfin
        refine cb_eqK hfin ?_
        show cb_gI (mo_start (cb_sR (cb_sR (cb_sI M1 0 0 3 (cb_gI M1 1 0 5)) 0 0 5 (some P)) 0 0 4 (some Q)) 0 Q) 3 Q 1 = _
        rw [← hM2, mo_start_lo M2 Q (Or.inl (by decide)), hm2, cb_gs_ne (by omega)]
        exact hV.1.2.1
      · by_cases w : t < 16 ∨ 24 ≤ t ∨ ¬ i = 0
        · rw [hlow t i j (fun z => h3 ⟨z.1, by omega⟩) w, hm2, cb_gs_ne (fun z => h3 ⟨z.1, by omega⟩)]
          exact f1 t i j h1 h2 (fun z => h3 ⟨z.1, by omega⟩)
        · exact absurd ⟨by omega, by omega, by omega⟩ h4
      · show cb_gR M2 t i j = _
        rw [hM2, cb_gR_sR, if_neg (fun w => h2 ⟨w.1, by omega⟩), cb_gR_sR, if_neg (fun w => h2 ⟨w.1, by omega⟩)]
        exact r1 t i j h1
      · show M2.2.2 = _
        rw [hM2]
        exact hF1.2.2
      · rw [hlow 0 0 1 (by omega) (Or.inl (by decide)), hm2, cb_gs_ne (by omega)]
        exact g1
      · rw [hlow 0 0 3 (by omega) (Or.inl (by decide)), hm2, cb_gs_eq]
        exact g5
      · exact cb_gs_eq _ _ _ _ _
      · unfold rd_V
        have hh : ∀ t j, 3 ≤ t → t ≤ 15 → cb_gI (cb_sI (mo_start M2 0 Q) 0 0 8 0) t Q j = cb_gI M1 t Q j := fun t j h1 h2 => by
          rw [hlow t Q j (by omega) (Or.inl (by omega)), hm2, cb_gs_ne (by omega)]
        have hf : ∀ t, 3 ≤ t → t ≤ 15 → cb_gI (cb_sI (mo_start M2 0 Q) 0 0 8 0) t Q = cb_gI M1 t Q := fun t h1 h2 => funext fun j => hh t j h1 h2
        rw [hf 3 (by decide) (by decide), hf 4 (by decide) (by decide), hf 5 (by decide) (by decide), hf 6 (by decide) (by decide), hf 7 (by decide) (by decide), hf 8 (by decide) (by decide), hf 9 (by decide) (by decide), hf 10 (by decide) (by decide), hf 11 (by decide) (by decide), hf 12 (by decide) (by decide), hf 13 (by decide) (by decide), hf 14 (by decide) (by decide), hf 15 (by decide) (by decide)]
        exact hV
      · rw [cb_gs_ne (by omega)]
        exact (mo_start_hi M2 Q).1
      · rw [hlow 5 Q i (by omega) (Or.inl (by decide)), hlow 6 Q i (by omega) (Or.inl (by decide))]
        exact (mo_start_hi M2 Q).2.1 i hi
      · rw [hlow 12 Q l (by omega) (Or.inl (by decide)), hlow 13 Q l (by omega) (Or.inl (by decide))]
        exact (mo_start_hi M2 Q).2.2 l hl
