/-! ===== the class: restore ===== -/
def pt_X9_restore : cb_PT := fun As a M K => match As with
  | [.inr (.inr (some (t, i)))] => (t = 0 ∧ i = 0) ∧ ∃ m f c, a = (cb_aS m, f) ∧ (cb_gI M 0 0 8 = nI c ∧ c ≤ 3) ∧ (c = 0 → K (.inl (some (cb_i (-1)))) a M) ∧ (0 < c → (c ≤ m ∧ cb_gR M 24 0 (c - 1) = some c) ∧ ∃ d, (cb_gI M 16 c 0 = nI d ∧ d ≤ 400) ∧ K (.inl (some (cb_i (nI (c - 1))))) a (mo_copy (cb_sI M 0 0 8 (nI (c - 1))) 0 c d))
  | _ => False
theorem pt_restore_to {As : List cb_V} {a : cb_A} {M : cb_M} {K : cb_Out → cb_A → cb_M → Prop} (h : pt_X9_restore As a M K) : As = [cb_r 0 0] ∧ ∃ m f c, a = (cb_aS m, f) ∧ (cb_gI M 0 0 8 = nI c ∧ c ≤ 3) ∧ (c = 0 → K (.inl (some (cb_i (-1)))) a M) ∧ (0 < c → (c ≤ m ∧ cb_gR M 24 0 (c - 1) = some c) ∧ ∃ d, (cb_gI M 16 c 0 = nI d ∧ d ≤ 400) ∧ K (.inl (some (cb_i (nI (c - 1))))) a (mo_copy (cb_sI M 0 0 8 (nI (c - 1))) 0 c d)) := by
  unfold pt_X9_restore at h
  split at h
  · obtain ⟨⟨rfl, rfl⟩, h⟩ := h
    exact ⟨rfl, h⟩
  · exact h.elim
theorem rc_X9_restore : cb_rc cb_tb RX9 pt_X9_restore := by
  intro As a M K h
  obtain ⟨rfl, m, f, c, rfl, -⟩ := pt_restore_to h
  exact ⟨0, 0, [], (RX9, TX9, 15), rfl, rfl, rfl, rfl, rfl⟩
def md_X9_restore : cb_D := (RX9, cX9_restore, 2, (some .int), (0, 0, 2, 81), [
  (0, .aload_n 0, 1, 0, 0, 0, 0),
  (1, .getfield 48, 3, 0, 9, 8, 366),
  (4, .iconst 1, 1, 1, 0, 0, 0),
  (5, .if_icmp .ge 5, 3, 0, 10, 0, 0),
  (8, .iconst (-1), 1, (-1), 0, 0, 0),
  (9, .ireturn, 1, 0, 0, 0, 0),
  (10, .aload_n 0, 1, 0, 0, 0, 0),
  (11, .dup, 1, 0, 0, 0, 0),
  (12, .getfield 48, 3, 0, 9, 8, 366),
  (15, .iconst 1, 1, 1, 0, 0, 0),
  (16, .isub, 1, 0, 0, 0, 0),
  (17, .putfield 48, 3, 0, 9, 8, 366),
  (20, .aload_n 0, 1, 0, 0, 0, 0),
  (21, .getfield 44, 3, 0, 9, 7, 365),
  (24, .aload_n 0, 1, 0, 0, 0, 0),
  (25, .getfield 48, 3, 0, 9, 8, 366),
  (28, .aaload, 1, 0, 0, 0, 0),
  (29, .astore_n 1, 1, 0, 1, 0, 0),
  (30, .aload_n 1, 1, 0, 1, 0, 0),
  (31, .ifnull 11, 3, 0, 42, 0, 0),
  (34, .aload_n 0, 1, 0, 0, 0, 0),
  (35, .getfield 40, 3, 0, 9, 6, 364),
  (38, .aload_n 1, 1, 0, 1, 0, 0),
  (39, .invokevirtual 333, 3, 0, 0, 0, 0),
  (42, .aload_n 0, 1, 0, 0, 0, 0),
  (43, .getfield 48, 3, 0, 9, 8, 366),
  (46, .ireturn, 1, 0, 0, 0, 0)],
  [(0, 333, 2, 0, 0, pt_X3_copyFrom)], [])
set_option maxRecDepth 100000 in
theorem vd_X9_restore : md_X9_restore.cd.all (cb_vE md_X9_restore) = true := by decide +kernel
theorem wd_X9_restore : cb_wd yX9_restore md_X9_restore := ⟨cb_tw (i := 535) (by decide +kernel), cb_tw (i := 1) (by decide +kernel), by decide, by decide⟩
theorem cs_X9_restore : ∀ X, cb_Bs md_X9_restore X → ∀ g ∈ md_X9_restore.ga, cb_CS cb_tb md_X9_restore X g := fun X B => List.forall_mem_cons.mpr ⟨cb_csV B ok_X3_copyFrom wd_X3_copyFrom (cb_tw (i := 526) (by decide +kernel)) (cb_tw (i := 527) (by decide +kernel)) (cb_tw (i := 528) (by decide +kernel)) rc_X3_copyFrom ⟨by decide, by decide⟩ (by decide +kernel), fun _ h => nomatch h⟩
theorem ok_X9_restore : cb_MOK cb_tb yX9_restore md_X9_restore pt_X9_restore := by
  refine cb_of ⟨plainFor_of_name (by decide), rfl⟩ (fun As a M K h => ?_) cs_X9_restore (fun _ _ _ _ _ => cb_Ts0 (by decide)) (fun X As a M h => ?_)
  · obtain ⟨rfl, -⟩ := pt_restore_to h
    exact (by decide : 1 ≤ 2)
  · obtain ⟨rfl, n0, f, c, rfl, ⟨hc, hc3⟩, h0, h⟩ := pt_restore_to h
    refine cb_run cb_tb_ok vd_X9_restore (cuts := []) 40 ?_
    refine And.intro (fun q => ?_) (fun q => And.intro trivial ?_)
    · have q : 1 ≤ cb_gI M 0 0 8 := q
      rw [hc] at q
      have q := (nI_leI (a := 1) (by decide) (by omega)).mp q
      obtain ⟨⟨hcm, hr⟩, d, ⟨hd, hd4⟩, hK⟩ := h (by omega)
      have ec : cb_gI M 0 0 8 - 1 = nI (c - 1) := by rw [hc, show (1 : Int32) = nI 1 from rfl, ← nI_sub (by omega)]
      have vc : vp_in (cb_gI M 0 0 8 - 1) 3 := by rw [ec]; exact vp_in_nI (by omega) (by decide)
      have cc : (cb_gI M 0 0 8 - 1).toNatClampNeg = c - 1 := by rw [ec]; exact nI_clamp (by omega)
      have ac : cb_aS n0 16 c = true := by
        show Nat.ble c n0 = true
        exact Nat.ble_eq.mpr hcm
      refine And.intro vc (Exists.intro (some c) (And.intro ?_ ?_))
      · show cb_gR M 24 0 (cb_gI M 0 0 8 - 1).toNatClampNeg = some c
        rw [cc]
        exact hr
      · refine And.intro (cb_on rfl) (And.intro ac ⟨d, ⟨hd, hd4⟩, And.intro trivial ?_⟩)
        show X.K (.inl (some (cb_i (cb_gI (mo_copy (cb_sI M 0 0 8 (cb_gI M 0 0 8 - 1)) 0 c d) 0 0 8)))) (cb_aS n0, f) (mo_copy (cb_sI M 0 0 8 (cb_gI M 0 0 8 - 1)) 0 c d)
        rw [ec]
        have e8 : cb_gI (mo_copy (cb_sI M 0 0 8 (nI (c - 1))) 0 c d) 0 0 8 = nI (c - 1) := by
          unfold mo_copy
          rw [cb_gI_cp, if_neg (by omega), cb_gI_cp, if_neg (by omega), cb_gI_cp, if_neg (by omega), cb_gI_cp, if_neg (by omega), cb_gI_cp, if_neg (by omega), cb_gI_cp, if_neg (by omega), cb_gI_cp, if_neg (by omega), cb_gs_ne (by omega), cb_gs_eq]
        rw [e8]
        exact hK
    · have q : ¬ 1 ≤ cb_gI M 0 0 8 := q
      rw [hc] at q
      have q : c = 0 := by
        apply Classical.byContradiction
        intro w
        exact q (nI_le (a := 1) (by omega) (by omega))
      exact h0 q
