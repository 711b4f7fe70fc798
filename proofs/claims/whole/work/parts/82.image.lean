/-! ===== the reference: image, restore ===== -/
def mo_i (t i j : Nat) : Nat := if t = 46 then 0 else if t = 69 then 1 + 5 * j else if t = 70 then 1 + 5 * j + 1 else if t = 64 then 1 + 5 * j + 2 else if t = 65 then 1 + 5 * j + 3 else if t = 71 then 1 + 5 * j + 4 else if t = 72 then 41 + 2 * j else if t = 73 then 41 + 2 * j + 1 else if t = 75 then 53 + 16 * i + 2 * j else 53 + 16 * i + 2 * j + 1
theorem mo_i_c (s : Nat) : mo_i (mo_c s).1 (mo_c s).2.1 (mo_c s).2.2 = s := by
  by_cases h0 : s < 53
  · have : ∀ s, s < 53 → mo_i (mo_c s).1 (mo_c s).2.1 (mo_c s).2.2 = s := by decide
    exact this s h0
  · obtain ⟨d, i, r, hi, hr, rfl⟩ : ∃ d i r, i < 8 ∧ r < 2 ∧ s = 53 + 16 * d + 2 * i + r := ⟨(s - 53) / 16, (s - 53) / 2 % 8, (s - 53) % 2, by omega, by omega, by omega⟩
    rcases (show r = 0 ∨ r = 1 by omega) with rfl | rfl
    · rw [Nat.add_zero, (mo_c_d hi).1]
      rfl
    · rw [(mo_c_d hi).2]
      rfl
theorem mo_inj {a b : Nat} (h : mo_c a = mo_c b) : a = b := by rw [← mo_i_c a, ← mo_i_c b, h]
theorem mo_c_ne (s : Nat) : ¬ (mo_c s).1 = 79 ∧ ¬ ((mo_c s).1 = 46 ∧ ¬ (mo_c s).2.2 = 33) := by
  by_cases h0 : s < 53
  · have : ∀ s, s < 53 → ¬ (mo_c s).1 = 79 ∧ ¬ ((mo_c s).1 = 46 ∧ ¬ (mo_c s).2.2 = 33) := by decide
    exact this s h0
  · obtain ⟨d, i, r, hi, hr, rfl⟩ : ∃ d i r, i < 8 ∧ r < 2 ∧ s = 53 + 16 * d + 2 * i + r := ⟨(s - 53) / 16, (s - 53) / 2 % 8, (s - 53) % 2, by omega, by omega, by omega⟩
    rcases (show r = 0 ∨ r = 1 by omega) with rfl | rfl
    · rw [Nat.add_zero, (mo_c_d hi).1]
      exact ⟨(by decide : ¬ (75 : Nat) = 79), fun w => absurd w.1 (by decide : ¬ (75 : Nat) = 46)⟩
    · rw [(mo_c_d hi).2]
      exact ⟨(by decide : ¬ (77 : Nat) = 79), fun w => absurd w.1 (by decide : ¬ (77 : Nat) = 46)⟩
abbrev mo_g (M : cb_M) (s : Nat) : Int32 := cb_gI M (mo_c s).1 (mo_c s).2.1 (mo_c s).2.2
/-- an image is made -/
def mo_P (M : cb_M) (q s : Nat) (M' : cb_M) : Prop := cb_gI M' 46 0 35 = nI s ∧ M'.2 = M.2 ∧ (∀ t i j, ¬ (t = 46 ∧ i = 0 ∧ j = 35) → ¬ (t = 79 ∧ i = q) → cb_gI M' t i j = cb_gI M t i j) ∧ ∀ a, a < s → cb_gI M' 79 q a = mo_g M a
theorem mo_P_s {M : cb_M} {q s : Nat} {M' : cb_M} (h : mo_P M q s M') : mo_P M q (s + 1) (mo_step false q s M') := by
  obtain ⟨h1, h2, h3, h4⟩ := h
  have hne := mo_c_ne s
  have eg : mo_g M' s = mo_g M s := h3 _ _ _ (fun w => hne.2 ⟨w.1, by omega⟩) (fun w => hne.1 w.1)
  unfold mo_step
  rw [if_neg (by decide), if_neg (by decide)]
  refine ⟨?_, h2, fun t i j n1 n2 => ?_, fun a ha => ?_⟩
  · rw [cb_gs_ne (fun w => hne.2 ⟨w.1.symm, by omega⟩), cb_gs_eq]
  · by_cases e : t = (mo_c s).1 ∧ i = (mo_c s).2.1 ∧ j = (mo_c s).2.2
    · obtain ⟨rfl, rfl, rfl⟩ := e
      rw [cb_gs_eq]
      exact eg
    · rw [cb_gs_ne e, cb_gs_ne n1, cb_gs_ne (fun w => n2 ⟨w.1, w.2.1⟩)]
      exact h3 t i j n1 n2
  · rw [cb_gs_ne (fun w => hne.1 w.1.symm), cb_gs_ne (by omega)]
    by_cases e : a = s
    · subst e
      rw [cb_gs_eq]
      exact eg
    · rw [cb_gs_ne (fun w => e w.2.2)]
      exact h4 a (by omega)
/-- an image comes back -/
def mo_R (M : cb_M) (q s : Nat) (M' : cb_M) : Prop := cb_gI M' 46 0 35 = nI s ∧ M'.2 = M.2 ∧ (∀ t i j, ¬ (t = 46 ∧ i = 0 ∧ j = 35) → (∀ a, a < s → ¬ mo_c a = (t, i, j)) → cb_gI M' t i j = cb_gI M t i j) ∧ ∀ a, a < s → mo_g M' a = cb_gI M 79 q a
theorem mo_R_s {M : cb_M} {q s : Nat} {M' : cb_M} (h : mo_R M q s M') : mo_R M q (s + 1) (mo_step true q s M') := by
  obtain ⟨h1, h2, h3, h4⟩ := h
  have hne := mo_c_ne s
  have eg : cb_gI M' 79 q s = cb_gI M 79 q s := h3 _ _ _ (by omega) (fun a _ w => (mo_c_ne a).1 (by rw [w]))
  unfold mo_step
  rw [if_pos rfl, if_pos rfl, eg]
  refine ⟨?_, h2, fun t i j n1 n2 => ?_, fun a ha => ?_⟩
  · rw [cb_gs_ne (fun w => hne.2 ⟨w.1.symm, by omega⟩), cb_gs_eq]
  · rw [cb_gs_ne (fun w => n2 s (by omega) (Prod.ext w.1.symm (Prod.ext w.2.1.symm w.2.2.symm))), cb_gs_ne n1]
    exact h3 t i j n1 (fun a ha => n2 a (by omega))
  · by_cases e : a = s
    · subst e
      exact cb_gs_eq _ _ _ _ _
    · have n0 : ¬ ((mo_c a).1 = (mo_c s).1 ∧ (mo_c a).2.1 = (mo_c s).2.1 ∧ (mo_c a).2.2 = (mo_c s).2.2) := fun w => e (mo_inj (Prod.ext w.1 (Prod.ext w.2.1 w.2.2)))
      have n1 := mo_c_ne a
      show cb_gI _ (mo_c a).1 (mo_c a).2.1 (mo_c a).2.2 = _
      rw [cb_gs_ne n0, cb_gs_ne (fun w => n1.2 ⟨w.1, by omega⟩)]
      exact h4 a (by omega)
def sp_X10_image : cb_Sp := fun _ r M K => match r with
  | [] => ∃ c, (cb_gI M 46 0 34 = nI c ∧ c ≤ 3) ∧ (c = 3 → mR (-1) M K) ∧ (c < 3 → ∀ M', cb_gI M' 46 0 0 = 0 → cb_gI M' 46 0 34 = nI (c + 1) → M'.2 = M.2 → (∀ t i j, ¬ (t = 46 ∧ i = 0 ∧ (j = 0 ∨ j = 34 ∨ j = 35)) → ¬ (t = 79 ∧ i = c) → cb_gI M' t i j = cb_gI M t i j) → (∀ a, a < 6469 → cb_gI M' 79 c a = mo_g M a) → K (some (cb_i (nI (c + 1)))) M')
  | _ => False
theorem mo_g_0 (M : cb_M) (s : Nat) {j : Nat} (hj : ¬ j = 33) (x : Int32) : mo_g (cb_sI M 46 0 j x) s = mo_g M s := cb_gs_ne (fun w => (mo_c_ne s).2 ⟨w.1, by omega⟩)
def pt_X10_image : cb_PT := cb_m 46 0 sp_X10_image
theorem rc_X10_image : cb_rc cb_tb RX10 pt_X10_image := cb_m_rc rfl rfl
def md_X10_image : cb_D := (RX10, cX10_image, 1, (some .int), (0, 0, 2, 47), [
  (0, .aload_n 0, 1, 0, 0, 0, 0),
  (1, .iconst 0, 1, 0, 0, 0, 0),
  (2, .putfield 126, 3, 0, 10, 0, 1328),
  (5, .aload_n 0, 1, 0, 0, 0, 0),
  (6, .getfield 213, 3, 0, 10, 34, 1362),
  (9, .iconst 3, 1, 3, 0, 0, 0),
  (10, .if_icmp .ne 5, 3, 0, 15, 0, 0),
  (13, .iconst (-1), 1, (-1), 0, 0, 0),
  (14, .ireturn, 1, 0, 0, 0, 0),
  (15, .aload_n 0, 1, 0, 0, 0, 0),
  (16, .aload_n 0, 1, 0, 0, 0, 0),
  (17, .getfield 91, 3, 0, 10, 36, 1364),
  (20, .aload_n 0, 1, 0, 0, 0, 0),
  (21, .getfield 213, 3, 0, 10, 34, 1362),
  (24, .aaload, 1, 0, 0, 0, 0),
  (25, .iconst 0, 1, 0, 0, 0, 0),
  (26, .invokevirtual 366, 3, 0, 0, 0, 0),
  (29, .aload_n 0, 1, 0, 0, 0, 0),
  (30, .dup, 1, 0, 0, 0, 0),
  (31, .getfield 213, 3, 0, 10, 34, 1362),
  (34, .iconst 1, 1, 1, 0, 0, 0),
  (35, .iadd, 1, 0, 0, 0, 0),
  (36, .putfield 213, 3, 0, 10, 34, 1362),
  (39, .aload_n 0, 1, 0, 0, 0, 0),
  (40, .getfield 213, 3, 0, 10, 34, 1362),
  (43, .ireturn, 1, 0, 0, 0, 0)],
  [(0, 366, 3, 0, 0, pt_X10_movesAll)], [])
set_option maxRecDepth 100000 in
theorem vd_X10_image : md_X10_image.cd.all (cb_vE md_X10_image) = true := by decide +kernel
theorem wd_X10_image : cb_wd yX10_image md_X10_image := ⟨cb_tw (i := 1859) (by decide +kernel), cb_tw (i := 11) (by decide +kernel), by decide, by decide⟩
theorem cs_X10_image : ∀ X, cb_Bs md_X10_image X → ∀ g ∈ md_X10_image.ga, cb_CS cb_tb md_X10_image X g := fun X B => List.forall_mem_cons.mpr ⟨cb_csV B ok_X10_movesAll wd_X10_movesAll (cb_tw (i := 1860) (by decide +kernel)) (cb_tw (i := 1862) (by decide +kernel)) (cb_tp (i := 87) (by decide +kernel)) rc_X10_movesAll ⟨by decide, by decide⟩ (by decide +kernel), fun _ h => nomatch h⟩
theorem ok_X10_image : cb_MOK cb_tb yX10_image md_X10_image pt_X10_image := by
  refine cb_okm ⟨plainFor_of_name (by decide), rfl⟩ (by decide) cs_X10_image (by decide) (fun X n0 f i r M hr ha h => ?_)
  have h0 := cb_a1 (T := 46) rfl ha
  subst h0
  match r, hr, h with
  | [], hr, h =>
    obtain ⟨c, ⟨hc, hc3⟩, h3, h⟩ := h
    refine cb_run cb_tb_ok vd_X10_image (cuts := []) 90 ?_
    refine cb_ifne (fun q => ?_) (fun q => And.intro trivial ?_)
    · have q : ¬ cb_gI M 46 0 34 = 3 := q
      rw [hc] at q
      have q : c < 3 := by
        apply Classical.byContradiction
        intro w
        exact q (by rw [show c = 3 by omega]; rfl)
      have h := h q
      have vc : vp_in (cb_gI M 46 0 34) 3 := by rw [hc]; exact vp_in_nI q (by decide)
      have cc : (cb_gI M 46 0 34).toNatClampNeg = c := by rw [hc]; exact nI_clamp (by omega)
      refine And.intro vc (And.intro (cb_on rfl) ?_)
      show sp_X10_movesAll 0 [.inr (.inr (some (79, (cb_gI M 46 0 34).toNatClampNeg))), .inl 0] (cb_sI M 46 0 0 0) _
      rw [cc]
      refine ⟨rfl, q, false, mo_P (cb_sI M 46 0 0 0) c, ⟨rfl, ⟨rfl, rfl, fun t i j n1 _ => cb_gs_ne n1, fun a ha => absurd ha (by omega)⟩, fun s M' _ hP => ⟨hP.1, mo_P_s hP⟩⟩, fun M' hP => And.intro trivial ?_⟩
      obtain ⟨p1, p2, p3, p4⟩ := hP
      have e34 : cb_gI M' 46 0 34 = nI c := (p3 46 0 34 (by omega) (by omega)).trans hc
      have hK := h (cb_sI M' 46 0 34 (nI (c + 1))) (p3 46 0 0 (by omega) (by omega)) (cb_gs_eq _ _ _ _ _) p2 (fun t i j n1 n2 => ?_) (fun a ha => ?_)
      · show X.K (.inl (some (cb_i (cb_gI M' 46 0 34 + 1)))) (cb_aS n0, f) (cb_sI M' 46 0 34 (cb_gI M' 46 0 34 + 1))
        rw [e34, nI_1]
        exact hK
      · rw [cb_gs_ne (fun w => n1 ⟨w.1, w.2.1, Or.inr (Or.inl w.2.2)⟩), p3 t i j (fun w => n1 ⟨w.1, w.2.1, Or.inr (Or.inr w.2.2)⟩) n2, cb_gs_ne (fun w => n1 ⟨w.1, w.2.1, Or.inl w.2.2⟩)]
      · rw [cb_gs_ne (by omega), p4 a ha]
        exact mo_g_0 M a (by decide) 0
    · have q : cb_gI M 46 0 34 = 3 := q
      rw [hc] at q
      exact h3 ((nI_eq (b := 3) (by omega) (by decide)).mp q) _ (mx1 M) rfl
def sp_X10_restore : cb_Sp := fun _ r M K => match r with
  | [] => ∃ c, (cb_gI M 46 0 34 = nI c ∧ c ≤ 3) ∧ (c = 0 → mR (-1) M K) ∧ (0 < c → ∀ M', cb_gI M' 46 0 0 = 0 → cb_gI M' 46 0 34 = nI (c - 1) → M'.2 = M.2 → (∀ t i j, ¬ (t = 46 ∧ i = 0 ∧ (j = 0 ∨ j = 34 ∨ j = 35)) → (∀ a, a < 6469 → ¬ mo_c a = (t, i, j)) → cb_gI M' t i j = cb_gI M t i j) → (∀ a, a < 6469 → mo_g M' a = cb_gI M 79 (c - 1) a) → K (some (cb_i (nI (c - 1)))) M')
  | _ => False
def pt_X10_restore : cb_PT := cb_m 46 0 sp_X10_restore
theorem rc_X10_restore : cb_rc cb_tb RX10 pt_X10_restore := cb_m_rc rfl rfl
def md_X10_restore : cb_D := (RX10, cX10_restore, 1, (some .int), (0, 0, 2, 47), [
  (0, .aload_n 0, 1, 0, 0, 0, 0),
  (1, .iconst 0, 1, 0, 0, 0, 0),
  (2, .putfield 126, 3, 0, 10, 0, 1328),
  (5, .aload_n 0, 1, 0, 0, 0, 0),
  (6, .getfield 213, 3, 0, 10, 34, 1362),
  (9, .ifCond .ne 5, 3, 0, 14, 0, 0),
  (12, .iconst (-1), 1, (-1), 0, 0, 0),
  (13, .ireturn, 1, 0, 0, 0, 0),
  (14, .aload_n 0, 1, 0, 0, 0, 0),
  (15, .dup, 1, 0, 0, 0, 0),
  (16, .getfield 213, 3, 0, 10, 34, 1362),
  (19, .iconst 1, 1, 1, 0, 0, 0),
  (20, .isub, 1, 0, 0, 0, 0),
  (21, .putfield 213, 3, 0, 10, 34, 1362),
  (24, .aload_n 0, 1, 0, 0, 0, 0),
  (25, .aload_n 0, 1, 0, 0, 0, 0),
  (26, .getfield 91, 3, 0, 10, 36, 1364),
  (29, .aload_n 0, 1, 0, 0, 0, 0),
  (30, .getfield 213, 3, 0, 10, 34, 1362),
  (33, .aaload, 1, 0, 0, 0, 0),
  (34, .iconst 1, 1, 1, 0, 0, 0),
  (35, .invokevirtual 366, 3, 0, 0, 0, 0),
  (38, .aload_n 0, 1, 0, 0, 0, 0),
  (39, .getfield 213, 3, 0, 10, 34, 1362),
  (42, .ireturn, 1, 0, 0, 0, 0)],
  [(0, 366, 3, 0, 0, pt_X10_movesAll)], [])
set_option maxRecDepth 100000 in
theorem vd_X10_restore : md_X10_restore.cd.all (cb_vE md_X10_restore) = true := by decide +kernel
theorem wd_X10_restore : cb_wd yX10_restore md_X10_restore := ⟨cb_tw (i := 1871) (by decide +kernel), cb_tw (i := 11) (by decide +kernel), by decide, by decide⟩
theorem cs_X10_restore : ∀ X, cb_Bs md_X10_restore X → ∀ g ∈ md_X10_restore.ga, cb_CS cb_tb md_X10_restore X g := fun X B => List.forall_mem_cons.mpr ⟨cb_csV B ok_X10_movesAll wd_X10_movesAll (cb_tw (i := 1860) (by decide +kernel)) (cb_tw (i := 1862) (by decide +kernel)) (cb_tp (i := 87) (by decide +kernel)) rc_X10_movesAll ⟨by decide, by decide⟩ (by decide +kernel), fun _ h => nomatch h⟩
theorem ok_X10_restore : cb_MOK cb_tb yX10_restore md_X10_restore pt_X10_restore := by
  refine cb_okm ⟨plainFor_of_name (by decide), rfl⟩ (by decide) cs_X10_restore (by decide) (fun X n0 f i r M hr ha h => ?_)
  have h0 := cb_a1 (T := 46) rfl ha
  subst h0
  match r, hr, h with
  | [], hr, h =>
    obtain ⟨c, ⟨hc, hc3⟩, h3, h⟩ := h
    refine cb_run cb_tb_ok vd_X10_restore (cuts := []) 90 ?_
    refine cb_ifne (fun q => ?_) (fun q => And.intro trivial ?_)
    · have q : ¬ cb_gI M 46 0 34 = 0 := q
      rw [hc] at q
      have q : 0 < c := by
        apply Classical.byContradiction
        intro w
        exact q (by rw [show c = 0 by omega]; rfl)
      have h := h q
      have ec : cb_gI M 46 0 34 - 1 = nI (c - 1) := by rw [hc, show (1 : Int32) = nI 1 from rfl, ← nI_sub (by omega)]
      have vc : vp_in (cb_gI M 46 0 34 - 1) 3 := by rw [ec]; exact vp_in_nI (by omega) (by decide)
      have cc : (cb_gI M 46 0 34 - 1).toNatClampNeg = c - 1 := by rw [ec]; exact nI_clamp (by omega)
      refine And.intro vc (And.intro (cb_on rfl) ?_)
      show sp_X10_movesAll 0 [.inr (.inr (some (79, (cb_gI M 46 0 34 - 1).toNatClampNeg))), .inl 1] (cb_sI (cb_sI M 46 0 0 0) 46 0 34 (cb_gI M 46 0 34 - 1)) _
      rw [cc, ec]
      refine ⟨rfl, by omega, true, mo_R (cb_sI (cb_sI M 46 0 0 0) 46 0 34 (nI (c - 1))) (c - 1), ⟨rfl, ⟨rfl, rfl, fun t i j n1 _ => cb_gs_ne n1, fun a ha => absurd ha (by omega)⟩, fun s M' _ hP => ⟨hP.1, mo_R_s hP⟩⟩, fun M' hP => And.intro trivial ?_⟩
      obtain ⟨p1, p2, p3, p4⟩ := hP
      have nc : ∀ j, ¬ j = 33 → ∀ a, a < 6469 → ¬ mo_c a = (46, 0, j) := fun j hj a _ w => (mo_c_ne a).2 ⟨by rw [w], by rw [w]; exact hj⟩
      have e34 : cb_gI M' 46 0 34 = nI (c - 1) := (p3 46 0 34 (by omega) (nc 34 (by decide))).trans (cb_gs_eq _ _ _ _ _)
      have hK := h M' (p3 46 0 0 (by omega) (nc 0 (by decide))) e34 p2 (fun t i j n1 n2 => ?_) (fun a ha => ?_)
      · show X.K (.inl (some (cb_i (cb_gI M' 46 0 34)))) (cb_aS n0, f) M'
        rw [e34]
        exact hK
      · rw [p3 t i j (fun w => n1 ⟨w.1, w.2.1, Or.inr (Or.inr w.2.2)⟩) n2, cb_gs_ne (fun w => n1 ⟨w.1, w.2.1, Or.inr (Or.inl w.2.2)⟩), cb_gs_ne (fun w => n1 ⟨w.1, w.2.1, Or.inl w.2.2⟩)]
      · rw [p4 a ha]
        rw [cb_gs_ne (by omega), cb_gs_ne (by omega)]
    · have q : cb_gI M 46 0 34 = 0 := q
      rw [hc] at q
      exact h3 ((nI_eq (b := 0) (by omega) (by decide)).mp q) _ (mx1 M) rfl
