/-! ===== the class: image ===== -/
def im_new (M : cb_M) (m : Nat) : cb_M := cb_sR (cb_zr M (m + 1)) 24 0 m (some (m + 1))
def im_end (M : cb_M) (c d : Nat) : cb_M := cb_sI (mo_copy M (c + 1) 0 d) 0 0 8 (nI (c + 1))
def pt_X9_image : cb_PT := fun As a M K => As = [cb_r 0 0] ∧ ∃ m f c d, a = (cb_aS m, f) ∧ im_I M m c ∧ (cb_gI M 16 0 0 = nI d ∧ d ≤ 400) ∧ (c = 3 → K (.inl (some (cb_i (-1)))) a M) ∧ (c < 3 → c < m → K (.inl (some (cb_i (nI (c + 1))))) a (im_end M c d)) ∧ (c < 3 → c = m → ∀ o, K (.inl (some (cb_i (nI (c + 1))))) (cb_aS (m + 1), none) (im_end (im_new (cb_sR M 25 0 1 o) m) c d))
def md_X9_image : cb_D := (RX9, cX9_image, 2, (some .int), (8, 3252, 2, 81), [
  (0, .aload_n 0, 1, 0, 0, 0, 0),
  (1, .getfield 48, 3, 0, 9, 8, 366),
  (4, .iconst 3, 1, 3, 0, 0, 0),
  (5, .if_icmp .lt 5, 3, 0, 10, 0, 0),
  (8, .iconst (-1), 1, (-1), 0, 0, 0),
  (9, .ireturn, 1, 0, 0, 0, 0),
  (10, .aload_n 0, 1, 0, 0, 0, 0),
  (11, .getfield 44, 3, 0, 9, 7, 365),
  (14, .aload_n 0, 1, 0, 0, 0, 0),
  (15, .getfield 48, 3, 0, 9, 8, 366),
  (18, .aaload, 1, 0, 0, 0, 0),
  (19, .ifnonnull 19, 3, 0, 38, 0, 0),
  (22, .aload_n 0, 1, 0, 0, 0, 0),
  (23, .getfield 44, 3, 0, 9, 7, 365),
  (26, .aload_n 0, 1, 0, 0, 0, 0),
  (27, .getfield 48, 3, 0, 9, 8, 366),
  (38, .aload_n 0, 1, 0, 0, 0, 0),
  (39, .getfield 44, 3, 0, 9, 7, 365),
  (42, .aload_n 0, 1, 0, 0, 0, 0),
  (43, .getfield 48, 3, 0, 9, 8, 366),
  (46, .aaload, 1, 0, 0, 0, 0),
  (47, .astore_n 1, 1, 0, 1, 0, 0),
  (48, .aload_n 1, 1, 0, 1, 0, 0),
  (49, .ifnull 11, 3, 0, 60, 0, 0),
  (52, .aload_n 1, 1, 0, 1, 0, 0),
  (53, .aload_n 0, 1, 0, 0, 0, 0),
  (54, .getfield 40, 3, 0, 9, 6, 364),
  (57, .invokevirtual 333, 3, 0, 0, 0, 0),
  (60, .aload_n 0, 1, 0, 0, 0, 0),
  (61, .dup, 1, 0, 0, 0, 0),
  (62, .getfield 48, 3, 0, 9, 8, 366),
  (65, .iconst 1, 1, 1, 0, 0, 0),
  (66, .iadd, 1, 0, 0, 0, 0),
  (67, .putfield 48, 3, 0, 9, 8, 366),
  (70, .aload_n 0, 1, 0, 0, 0, 0),
  (71, .getfield 48, 3, 0, 9, 8, 366),
  (74, .ireturn, 1, 0, 0, 0, 0)],
  [(0, 333, 2, 0, 0, pt_X3_copyFrom)], [])
set_option maxRecDepth 100000 in
theorem vd_X9_image : md_X9_image.cd.all (cb_vE md_X9_image) = true := by decide +kernel
theorem wd_X9_image : cb_wd yX9_image md_X9_image := ⟨cb_tw (i := 525) (by decide +kernel), cb_tw (i := 1) (by decide +kernel), by decide, by decide⟩
theorem cs_X9_image : ∀ X, cb_Bs md_X9_image X → ∀ g ∈ md_X9_image.ga, cb_CS cb_tb md_X9_image X g := fun X B => List.forall_mem_cons.mpr ⟨cb_csV B ok_X3_copyFrom wd_X3_copyFrom (cb_tw (i := 526) (by decide +kernel)) (cb_tw (i := 527) (by decide +kernel)) (cb_tw (i := 528) (by decide +kernel)) rc_X3_copyFrom ⟨by decide, by decide⟩ (by decide +kernel), fun _ h => nomatch h⟩
theorem im_tail {X : cb_X} {m c d k n : Nat} {f : Option Nat} {M : cb_M} (hkn : (k = 0 ∧ n = 0) ∨ (k = 8 ∧ n = 3252)) (hc : cb_gI M 0 0 8 = nI c) (hc3 : c < 3) (hr : cb_gR M 24 0 c = some (c + 1)) (hcm : c + 1 ≤ m) (hd : cb_gI M 16 0 0 = nI d) (hd4 : d ≤ 400) (hK : X.K (.inl (some (cb_i (nI (c + 1))))) (cb_aS m, f) (im_end M c d)) :
    cb_Gd cb_tb md_X9_image X 38 [some (cb_r 0 0), none] [] (cb_aS m, f) M k n := by
  have vc : vp_in (cb_gI M 0 0 8) 3 := by rw [hc]; exact vp_in_nI hc3 (by decide)
  have cc : (cb_gI M 0 0 8).toNatClampNeg = c := by rw [hc]; exact nI_clamp (by omega)
  have ac : cb_aS m 16 (c + 1) = true := by
    rw [im_aS (by omega) (by omega)]
    exact Nat.ble_eq.mpr hcm
  have a0 : cb_aS m 16 0 = true := by
    rw [im_aS (by omega) (by omega)]
    exact Nat.ble_eq.mpr (by omega)
  have e8 : cb_gI (mo_copy M (c + 1) 0 d) 0 0 8 = nI c := by
    unfold mo_copy
    rw [cb_gI_cp, if_neg (by omega), cb_gI_cp, if_neg (by omega), cb_gI_cp, if_neg (by omega), cb_gI_cp, if_neg (by omega), cb_gI_cp, if_neg (by omega), cb_gI_cp, if_neg (by omega), cb_gI_cp, if_neg (by omega), cb_gs_ne (by omega), hc]
  have e1 : nI c + 1 = nI (c + 1) := by rw [show (1 : Int32) = nI 1 from rfl, ← nI_add]
  rcases hkn with ⟨rfl, rfl⟩ | ⟨rfl, rfl⟩
  all_goals
    refine cb_run cb_tb_ok vd_X9_image (cuts := []) 40 ?_
    refine And.intro vc (Exists.intro (some (c + 1)) (And.intro ?_ ?_))
    · show cb_gR M 24 0 (cb_gI M 0 0 8).toNatClampNeg = some (c + 1)
      rw [cc]
      exact hr
    · refine And.intro (cb_on ac) (And.intro a0 ⟨d, ⟨hd, hd4⟩, And.intro trivial ?_⟩)
      show X.K (.inl (some (cb_i (cb_gI (cb_sI (mo_copy M (c + 1) 0 d) 0 0 8 (cb_gI (mo_copy M (c + 1) 0 d) 0 0 8 + 1)) 0 0 8)))) (cb_aS m, f) (cb_sI (mo_copy M (c + 1) 0 d) 0 0 8 (cb_gI (mo_copy M (c + 1) 0 d) 0 0 8 + 1))
      rw [e8, e1, cb_gs_eq]
      exact hK
theorem ok_X9_image : cb_MI yX9_image md_X9_image pt_X9_image := by
  refine cb_ofi ⟨plainFor_of_name (by decide), rfl⟩ (fun As a M K h => ?_) rfl cs_X9_image (by decide) (fun X As a M h hE hl0 hCC => ?_)
  · obtain ⟨rfl, -⟩ := h
    exact (by decide : 1 ≤ 2)
  · obtain ⟨rfl, m, f, c, d, rfl, hI, ⟨hd, hd4⟩, h3, h1, h2⟩ := h
    obtain ⟨hm3, hcm, h24, hc⟩ := id hI
    have a24 : ∀ m, cb_aS m 24 0 = true := fun _ => rfl
    refine cb_run cb_tb_ok vd_X9_image (cuts := [30, 38]) 40 ?_
    refine And.intro (fun q => ?_) (fun q => And.intro trivial ?_)
    · have q : cb_gI M 0 0 8 < 3 := q
      have hc3 : c < 3 := by
        rw [hc] at q
        exact (nI_ltI (b := 3) (by omega) (by decide)).mp q
      have vc : vp_in (cb_gI M 0 0 8) 3 := by rw [hc]; exact vp_in_nI hc3 (by decide)
      have cc : (cb_gI M 0 0 8).toNatClampNeg = c := by rw [hc]; exact nI_clamp (by omega)
      by_cases hlt : c < m
      · refine And.intro vc (Exists.intro (some (c + 1)) (And.intro ?_ ?_))
        · show cb_gR M 24 0 (cb_gI M 0 0 8).toNatClampNeg = some (c + 1)
          rw [cc, h24 c, if_pos hlt]
        · exact im_tail (Or.inl ⟨rfl, rfl⟩) hc hc3 (by rw [h24 c, if_pos hlt]) hlt hd hd4 (h1 hc3 hlt)
      · have e : c = m := by omega
        subst e
        refine And.intro vc (Exists.intro none (And.intro ?_ ?_))
        · show cb_gR M 24 0 (cb_gI M 0 0 8).toNatClampNeg = none
          rw [cc, h24 c, if_neg hlt]
        · intro C H locs lc hP hS hL
          obtain ⟨G1, o, hG1, ho, hP1⟩ := hP.g9 hI
          have hI1 : im_I (cb_sR M 25 0 1 o) c c := ⟨hm3, hcm, fun j => (show cb_gR (cb_sR M 25 0 1 o) 24 0 j = cb_gR M 24 0 j by rw [cb_gR_sR, if_neg (by omega)]).trans (h24 j), hc⟩
          have hC1 := hCC _ hG1
          have hGA := cb_alk.gm G1 (q := c + 1) (by omega) H.size
          have hGG := hG1.trans hGA
          have hCn := hCC _ hGG
          have e24a : G1.ad 24 0 = X.G.ad 24 0 := hG1.2.2 24 0 (by omega)
          have key := cg_moment (X := cb_wg X G1) (H := H) (locs := locs) (k := 0) (n := 0) (pc := 30) (lc := lc) (rest := cb_cs X.G.ad [cb_i (cb_gI M 0 0 8), cb_r 24 0]) hC1 hl0 hE rfl ⟨by decide, by decide⟩ (im_nrf hI1 (by rw [cb_gR_sR, if_pos ⟨rfl, rfl, rfl⟩]; exact ho)) hP1 (by show va_S G1.A _ _ _; rw [hG1.A]; exact hS) hL.1 (by rw [cb_cat_sum]; exact (by decide : 2 ≤ 7)) (by decide) (by decide) (by decide +kernel) (by decide +kernel) (by decide +kernel) (fun H' locs' hP' hS' => ?_)
          · exact key
          have hP' : cb_P (cb_gm G1 (c + 1) H.size) cb_tb (cb_aS (c + 1), none) (cb_zr (cb_sR M 25 0 1 o) (c + 1)) H' := hP'
          have hS' : va_S G1.A X.s.heap H' locs' := hS'
          have zI : ∀ t i j, ¬ (16 ≤ t ∧ t ≤ 23 ∧ i = c + 1) → cb_gI (cb_zr (cb_sR M 25 0 1 o) (c + 1)) t i j = cb_gI M t i j := fun t i j w => if_neg (fun e => w (cb_mz_iff.mp e))
          have tail := im_tail (X := cb_wg X (cb_gm G1 (c + 1) H.size)) (M := im_new (cb_sR M 25 0 1 o) c) (m := c + 1) (f := none) (k := 8) (n := 3252) (Or.inr ⟨rfl, rfl⟩) (c := c) (d := d) ((zI 0 0 8 (by omega)).trans hc) hc3 (if_pos ⟨rfl, rfl, rfl⟩) (by omega) ((zI 16 0 0 (by omega)).trans hd) hd4 (h2 hc3 rfl o)
          have a16 : cb_aS (c + 1) 16 (c + 1) = true := by
            rw [im_aS (by omega) (by omega)]
            exact Nat.ble_eq.mpr (Nat.le_refl _)
          have := cg_aast (X := cb_wg X (cb_gm G1 (c + 1) H.size)) (d := md_X9_image) (pc := 37) (M := cb_zr (cb_sR M 25 0 1 o) (c + 1)) (a := (cb_aS (c + 1), none)) (q := c + 1) (j := c) (x := cb_gI M 0 0 8) (st := []) (a24 (c + 1)) a16 vc cc (by decide +kernel) tail hCn H' locs' lc hP' (by show va_S (cb_gm G1 (c + 1) H.size).A _ _ _; rw [hGA.A]; exact hS') ⟨hL.1, hL.2.1, fun i v hi => ?_⟩
          · have ez : (cb_gm G1 (c + 1) H.size).ad 16 (c + 1) = H.size := if_pos (cb_mz_iff.mpr ⟨by omega, by omega, rfl⟩)
            have e24 : (cb_gm G1 (c + 1) H.size).ad 24 0 = X.G.ad 24 0 := hGG.2.2 24 0 (by omega)
            have es : cb_cs (cb_gm G1 (c + 1) H.size).ad [cb_r 16 (c + 1), cb_i (cb_gI M 0 0 8), cb_r 24 0] = [.ref H.size, .int (cb_gI M 0 0 8), .ref (X.G.ad 24 0)] := by
              show [Value.ref ((cb_gm G1 (c + 1) H.size).ad 16 (c + 1)), .int (cb_gI M 0 0 8), .ref ((cb_gm G1 (c + 1) H.size).ad 24 0)] = _
              rw [ez, e24]
            have this : (cb_wg X (cb_gm G1 (c + 1) H.size)).go H' locs' 8 3252 (F0 X.m 37 lc (cb_cs (cb_gm G1 (c + 1) H.size).ad [cb_r 16 (c + 1), cb_i (cb_gI M 0 0 8), cb_r 24 0])) := this
            rw [es] at this
            exact this
          · match i, hi with
            | 0, hi =>
              have hi : v = cb_r 0 0 := (Option.some.inj (Option.some.inj hi)).symm
              subst hi
              have := hL.2.2 0 (cb_r 0 0) rfl
              have e0 : cb_c (cb_gm G1 (c + 1) H.size).ad (cb_r 0 0) = cb_c X.G.ad (cb_r 0 0) := by
                exact congrArg Value.ref (hGG.2.2 0 0 (by omega))
              show _ = some (Slot.val (cb_c (cb_gm G1 (c + 1) H.size).ad (cb_r 0 0)))
              rw [e0]
              exact this
            | 1, hi => cases hi
            | i + 2, hi => cases hi
    · have q : ¬ cb_gI M 0 0 8 < 3 := q
      have : c = 3 := by
        apply Classical.byContradiction
        intro w
        rw [hc] at q
        exact q ((nI_ltI (b := 3) (by omega) (by decide)).mpr (by omega))
      exact h3 this
