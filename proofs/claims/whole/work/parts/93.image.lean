/-! ===== a new moment, at the machine ===== -/
theorem im_born_a {m t i : Nat} {z z2 : Option Nat} (h : cb_aS (m + 1) t i = true) : ma_X3 (cb_ab (cb_aS m, z) 16 (m + 1), z2).1 (m + 1) t i = true := by
  by_cases w : 16 ≤ t ∧ t ≤ 23
  · rw [im_aS w.1 w.2] at h
    have h := Nat.le_of_ble_eq_true h
    by_cases e : i = m + 1
    · subst e
      have : t = 16 ∨ t = 17 ∨ t = 18 ∨ t = 19 ∨ t = 20 ∨ t = 21 ∨ t = 22 ∨ t = 23 := by omega
      have b := Nat.beq_refl (m + 1)
      rcases this with rfl | rfl | rfl | rfl | rfl | rfl | rfl | rfl <;> simp [ma_X3, cb_ab]
    · have : cb_aS m t i = true := by
        rw [im_aS w.1 w.2]
        exact Nat.ble_eq.mpr (by omega)
      simp [ma_X3, cb_ab, this]
  · have : cb_aS m t i = true := by
      rw [im_aS2 (m' := m + 1) w]
      exact h
    simp [ma_X3, cb_ab, this]
theorem im_born_s {M : cb_M} {q : Nat} (t i j : Nat) : cb_sv cb_tb (cb_zr M q) t i j = cb_sv cb_sd (mm_X3 (cb_zr (cb_tosd M) q) q) t i j := by
  by_cases w : cb_mz t i q = true
  · obtain ⟨h1, h2, rfl⟩ := cb_mz_iff.mp w
    have z1 : ∀ t j, cb_mz t i i = true → cb_gI (cb_zr M i) t i j = 0 := fun t j w => if_pos w
    have z2 : ∀ t j, cb_mz t i i = true → cb_gI (cb_zr (cb_tosd M) i) t i j = 0 := fun t j w => if_pos w
    by_cases e : t = 16
    · subst e
      have z3 : ∀ j, cb_gI (mm_X3 (cb_zr (cb_tosd M) i) i) 16 i j = 0 := fun j => by
        unfold mm_X3
        simp only [cb_gI_sR, cb_gI_sI]
        split
        · rfl
        · exact z2 16 j w
      match j with
      | 0 =>
        show cb_i (cb_gI (cb_zr M i) 16 i 0) = cb_i (cb_gI (mm_X3 (cb_zr (cb_tosd M) i) i) 16 i 0)
        rw [z1 _ _ w, z3]
      | 1 => exact (by simp [mm_X3, cb_gR_sR, cb_sv, cb_fk, cb_nth, cb_tb, cb_sd])
      | 2 => exact (by simp [mm_X3, cb_gR_sR, cb_sv, cb_fk, cb_nth, cb_tb, cb_sd])
      | 3 => exact (by simp [mm_X3, cb_gR_sR, cb_sv, cb_fk, cb_nth, cb_tb, cb_sd])
      | 4 => exact (by simp [mm_X3, cb_gR_sR, cb_sv, cb_fk, cb_nth, cb_tb, cb_sd])
      | 5 => exact (by simp [mm_X3, cb_gR_sR, cb_sv, cb_fk, cb_nth, cb_tb, cb_sd])
      | 6 => exact (by simp [mm_X3, cb_gR_sR, cb_sv, cb_fk, cb_nth, cb_tb, cb_sd])
      | 7 => exact (by simp [mm_X3, cb_gR_sR, cb_sv, cb_fk, cb_nth, cb_tb, cb_sd])
      | j + 8 =>
        show cb_i (cb_gI (cb_zr M i) 16 i (j + 8)) = cb_i (cb_gI (mm_X3 (cb_zr (cb_tosd M) i) i) 16 i (j + 8))
        rw [z1 _ _ w, z3]
    · have z3 : ∀ j, cb_gI (mm_X3 (cb_zr (cb_tosd M) i) i) t i j = 0 := fun j => by
        unfold mm_X3
        simp only [cb_gI_sR, cb_gI_sI]
        rw [if_neg (fun w => e w.1)]
        exact z2 t j w
      have h0 : cb_sv cb_tb (cb_zr M i) t i j = cb_i (cb_gI (cb_zr M i) t i j) := by
        have : t = 17 ∨ t = 18 ∨ t = 19 ∨ t = 20 ∨ t = 21 ∨ t = 22 ∨ t = 23 := by omega
        rcases this with rfl | rfl | rfl | rfl | rfl | rfl | rfl <;> rfl
      have h9 : cb_sv cb_sd (mm_X3 (cb_zr (cb_tosd M) i) i) t i j = cb_i (cb_gI (mm_X3 (cb_zr (cb_tosd M) i) i) t i j) := by
        have : t = 17 ∨ t = 18 ∨ t = 19 ∨ t = 20 ∨ t = 21 ∨ t = 22 ∨ t = 23 := by omega
        rcases this with rfl | rfl | rfl | rfl | rfl | rfl | rfl <;> rfl
      rw [h0, h9, z1 _ _ w, z3]
  · rw [cb_zr_sv cb_tb M w j]
    have n16 : ∀ j', ¬ (t = 16 ∧ i = q ∧ j = j') := fun j' e => w (cb_mz_iff.mpr (by omega))
    unfold mm_X3
    rw [cb_sv_sR (n16 _), cb_sv_sR (n16 _), cb_sv_sR (n16 _), cb_sv_sR (n16 _), cb_sv_sR (n16 _), cb_sv_sR (n16 _), cb_sv_sR (n16 _), cb_sv_sI (n16 _), cb_zr_sv cb_sd (cb_tosd M) w j, cb_sv_sd]
theorem cg_moment {d : cb_D} {X : cb_X} (C : cb_Cx cb_tb d X) (hl0 : X.l.stackTraces = false) (hE : cb_AO X.s) (hown9 : d.own = RX9) (hRm : 2 ≤ d.fr ∧ 50 ≤ d.lo) {m : Nat} {f : Option Nat} {M : cb_M} (hnr : cb_nrf cb_tb (cb_aS m, f) M (m + 1)) {H : Heap} {locs : List Loc} {k n pc : Nat} {lc : Array Slot} {rest : List Value} (hP : cb_P X.G cb_tb (cb_aS m, f) M H) (hS : X.fm H locs) (hsz : lc.size = d.nL) (hcat : (rest.map fun v => v.category).sum ≤ 7) (hk : k + 8 ≤ d.mc) (hms : n + 3252 ≤ d.ms)
    (hd1 : decode d.cc pc = .ok (.new 37, 3)) (hd2 : decode d.cc (pc + 3) = .ok (.dup, 1)) (hd3 : decode d.cc (pc + 4) = .ok (.invokespecial 39, 3))
    (kk : ∀ H' locs', cb_P (cb_gm X.G (m + 1) H.size) cb_tb (cb_aS (m + 1), none) (cb_zr M (m + 1)) H' → X.fm H' locs' → X.go H' locs' (k + 8) (n + 3252) (F0 X.m (pc + 7) lc (.ref H.size :: rest))) : X.go H locs k n (F0 X.m pc lc rest) := by
  obtain ⟨hx, hb, hml, hown, hK, hs0, -, -, -, -, hR1, hR2, hR3, hR4⟩ := id C
  obtain ⟨z, hz⟩ : ∃ z, z = H.size := ⟨_, rfl⟩
  rw [← hz] at kk
  obtain ⟨G, hG⟩ : ∃ G, G = cb_gm X.G (m + 1) z := ⟨_, rfl⟩
  rw [← hG] at kk
  have hGA : cb_alk X.G G := by rw [hG]; exact cb_alk.gm X.G (by omega) z
  have hadz : ∀ t, 16 ≤ t → t ≤ 23 → G.ad t (m + 1) = z + (t - 16) := fun t h1 h2 => by
    rw [hG]
    exact if_pos (cb_mz_iff.mpr ⟨h1, h2, rfl⟩)
  have hKG := cb_K.alk hGA hK
  have hzg : G.1 ≤ z := by
    rw [hGA.1]
    have := hS.1
    omega
  have hP1 : cb_P G cb_tb (cb_aS m, f) M H := by rw [hG]; exact hP.gm hnr
  have hP1' : cb_P G cb_tb (cb_aS m, some z) M H := ⟨hP1.1, hP1.2.1, fun z' e => by cases e; exact hz.symm⟩
  have hP2 : cb_P G cb_sd (cb_aS m, some z) (cb_zr (cb_tosd M) (m + 1)) H := hP1'.conv cb_k1 (fun _ _ h => h) (fun _ h => h) (fun t i j ha => by
    rw [cb_zr_sv cb_sd (cb_tosd M) (by rw [(hnr t i ha).1]; decide) j, cb_sv_sd])
  have hq : cb_cl[3]? = some (RX3, TX3, 8) := rfl
  have hKn := hKG.2.2.1 3 _ hq
  have hw1 : Cond.classLink d.own 37 RX3 ∈ lw_tbl := by
    rw [hown9]
    exact cb_tw (i := 162) (by decide +kernel)
  refine W.newcK hx hb hown (hK.1 _ hw1 rfl _) (hK.1 _ (cb_tw (i := 163) (by decide +kernel) : Cond.instantiable RX3 8 ∈ lw_tbl) rfl _) (hK.1 _ (cb_tw (i := 4) (by decide +kernel) : Cond.initialized RX3 ∈ lw_tbl) rfl _) (g := F0 X.m pc lc rest) rfl hd1 (by rw [hR2]; omega) (by rw [hR3]; omega) hKn.2.1 hz.symm (fun H1 kC hkC e1 z1 o1 => ?_)
  have hdf : cb_df (cb_zr (cb_tosd M) (m + 1)) 16 (m + 1) := cb_zr_df _ (cb_mz_iff.mpr ⟨by omega, by omega, rfl⟩)
  have hat : cb_at G cb_sd (cb_zr (cb_tosd M) (m + 1)) 16 (m + 1) H1 := by
    refine cb_at.ofObj rfl ⟨_, hq, ?_⟩
    rw [hadz 16 (by omega) (by omega)]
    exact (u_born (cb_ty.getD (cb_x cb_sd 16) (fun _ => .double)) (cb_hts hKG hq X.args) (fun _ h => h) hKn hkC e1 (cb_cok hq).2.1).to (fun j hj => (cb_sv_df hdf (cb_tb_slot (t := 16) cb_sd_ok rfl hq hj) G.ad).symm)
  have hP3 := hP2.born rfl (hadz 16 (by omega) (by omega)) hat z1 o1 hzg
  have hS3 : X.fm H1 locs := cb_fm_born hS z1 hz.symm o1
  refine lv_dup hx hb hd2 rfl ?_
  have hzr : Value.ref z = .ref (G.ad 16 (m + 1)) := by
    rw [hadz 16 (by omega) (by omega)]
    rfl
  have hl39 : Cond.methodLinkNest d.own 39 yX3_init "WallClocks" ∈ lw_tbl := by
    rw [hown9]
    exact cb_tw (i := 164) (by decide +kernel)
  have hcat2 : ((Value.ref z :: rest).map fun v => v.category).sum ≤ 8 := by
    rw [List.map_cons, List.sum_cons]
    have : (Value.ref z).category = 1 := rfl
    omega
  have := cg_init (d := d) (X := X) (G := G) (K := fun a' M' => a' = (ma_X3 (cb_ab (cb_aS m, some z) 16 (m + 1)) (m + 1), some (z + 1 + 7)) ∧ M' = mm_X3 (cb_zr (cb_tosd M) (m + 1)) (m + 1)) hGA.1 hx hb hml hown hKG hs0 hR1 hR2 hR3 hR4 ok_X3_init hl0 hE rfl rfl wd_X3_init (Or.inr ⟨"WallClocks", hl39⟩) (cb_tw (i := 165) (by decide +kernel)) ⟨hRm.1, hRm.2⟩ (na := 0) (by decide +kernel) (t := 16) (i := m + 1) (r := []) rfl (a := (cb_ab (cb_aS m, some z) 16 (m + 1), some (z + 1))) (M := cb_zr (cb_tosd M) (m + 1)) (by
      refine ⟨⟨rfl, ?_⟩, z + 1, rfl, ⟨?_, ?_, ?_, ?_, ?_, ?_, ?_⟩, ⟨?_, ?_, ?_, ?_, ?_, ?_, ?_⟩, rfl, rfl⟩
      · simp [cb_ab]
      all_goals first
        | (rw [hadz _ (by omega) (by omega)])
        | exact cb_zr_df _ (cb_mz_iff.mpr ⟨by omega, by omega, rfl⟩)) hP3 hS3 (lc := lc) (rest := .ref z :: rest) (k := k + 1) (n := n + 8) (pc := pc + 4) hsz hcat2 (by show k + 1 + 7 ≤ _; omega) (by show n + 8 + 3244 ≤ _; omega) hd3 (fun a' M' H' locs' hK' hP' hS' => by
      obtain ⟨rfl, rfl⟩ := hK'
      exact kk H' locs' (hP'.conv cb_k2 (fun t i h => im_born_a (z := some z) (z2 := some (z + 1)) h) (fun z' e => by cases e) (fun t i j _ => im_born_s t i j)) hS')
  rw [← hzr] at this
  exact this
