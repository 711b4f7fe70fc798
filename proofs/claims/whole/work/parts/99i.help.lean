/-! ===== the law's helpers ===== -/
theorem hl_wm {na : Nat} {sp : cb_Sw} {r : List cb_V} {n : Nat} {f : Option Nat} {M : cb_M} {K1 : cb_Out → cb_M → Prop} (hr : r.length = na) (hl : cb_nl r = true) (h : sp r M K1) : cb_wm na sp (cb_r 0 0 :: r) (cb_aS n, f) M (fun o a' M' => a' = cb_ae o (cb_aS n, f) ∧ K1 o M') := by
  have e : (fun o M' => cb_ae o (cb_aS n, f) = cb_ae o (cb_aS n, f) ∧ K1 o M') = K1 := funext fun o => funext fun M' => propext ⟨fun h => h.2, fun h => ⟨rfl, h⟩⟩
  show cb_ck (Nat.beq 0 0) (cb_ck (Nat.beq r.length na) (cb_ck (cb_nl r) (((∃ n', cb_aS n = cb_aS n') ∧ cb_aS n 0 0 = true) ∧ sp r M fun o M' => cb_ae o (cb_aS n, f) = cb_ae o (cb_aS n, f) ∧ K1 o M')))
  rw [e]
  exact cb_ck.of rfl (cb_ck.of (by rw [hr]; exact Nat.beq_refl na) (cb_ck.of hl ⟨⟨⟨n, rfl⟩, rfl⟩, h⟩))
/-- what a helper owes -/
def hl_post (bz : Bool) (cd : Nat → Option Int32) (a : cb_A) (K : cb_Out → cb_A → cb_M → Prop) : cb_Out → cb_M → Prop := fun o M' => match o with
  | .inl (some (.inl v)) => K (.inl (some (cb_i 0))) a (cb_sL M' 90 0 0 (if bz = true then (if v = 0 then 0 else 1) else v.toInt64))
  | .inr x => ∃ c, cd x = some c ∧ K (.inl (some (cb_i c))) (a.1, none) M'
  | _ => False
def hl_pt (bz : Bool) (cd : Nat → Option Int32) (na : Nat) (sp : cb_Sw) : cb_PT := fun As a M K => ∃ (r : List cb_V) (n : Nat) (f : Option Nat) (K1 : cb_Out → cb_M → Prop), As = cb_r 0 0 :: (r ++ [cb_r 90 0]) ∧ r.length = na ∧ (r.all fun v => match v with | .inl _ => true | _ => false) = true ∧ a = (cb_aS n, f) ∧ sp r M K1 ∧ ∀ o M', K1 o M' → hl_post bz cd a K o M'
theorem vp01 : vp_in 0 1 := by
  intro h
  rcases h with h | h
  · exact absurd h (by decide)
  · exact absurd h (by decide)
def md_L_clock : cb_D := (RL, cL_clock, 5, (some .int), (2, 12, 8, 157), [
  (0, .aload_n 3, 1, 0, 3, 0, 0),
  (1, .iconst 0, 1, 0, 0, 0, 0),
  (2, .aload_n 0, 1, 0, 0, 0, 0),
  (3, .iload_n 1, 1, 0, 1, 0, 0),
  (4, .iload_n 2, 1, 0, 2, 0, 0),
  (8, .i2l, 1, 0, 0, 0, 0),
  (9, .lastore, 1, 0, 0, 0, 0),
  (10, .goto 11, 3, 0, 21, 0, 0),
  (13, .astore 4, 2, 0, 4, 0, 0),
  (15, .iconst 1, 1, 1, 0, 0, 0),
  (16, .ireturn, 1, 0, 0, 0, 0),
  (17, .astore 4, 2, 0, 4, 0, 0),
  (19, .iconst 2, 1, 2, 0, 0, 0),
  (20, .ireturn, 1, 0, 0, 0, 0),
  (21, .iconst 0, 1, 0, 0, 0, 0),
  (22, .ireturn, 1, 0, 0, 0, 0)],
  [], [])
set_option maxRecDepth 100000 in
theorem vd_L_clock : md_L_clock.cd.all (cb_vE md_L_clock) = true := by decide +kernel
theorem hc_L_clock (X : cb_X) (B : cb_Bs md_L_clock X) : cb_CS cb_tb md_L_clock X (0, 18, 3, 2, 12, pt_X9_clock) := cb_csV B ok_X9_clock wd_X9_clock (cb_tw (i := 781) (by decide +kernel)) (cb_tw (i := 782) (by decide +kernel)) (cb_tw (i := 783) (by decide +kernel)) rc_X9_clock ⟨by decide, by decide⟩ (by decide +kernel)
abbrev hh_L_clock : List (Nat × Nat × Nat × Nat) := [(0, 10, 13, 22), (0, 10, 17, 13)]
theorem ok_L_clock : cb_MC yL_clock md_L_clock hh_L_clock (hl_pt false re_c2 2 sp_X9_clock) := by
  refine cb_ofc ⟨by decide, rfl⟩ (fun As a M K h => ?_) rfl rfl (by decide) (fun X As a M h B ht hN => ?_)
  · obtain ⟨r, n, f, K1, rfl, hr, hi, -⟩ := h
    match r, hr, hi with
    | [.inl x0, .inl x1], _, _ => exact (by decide : 4 ≤ 5)
  · obtain ⟨r, n, f, K1, rfl, hr, hi, rfl, h, hK⟩ := h
    match r, hr, hi, h with
    | [.inl x0, .inl x1], _, _, h =>
      refine cb_run cb_tb_ok vd_L_clock (cuts := [5]) 20 ?_
      refine ch_call (K := fun o a' M' => a' = cb_ae o (cb_aS n, f) ∧ K1 o M') (As := cb_r 0 0 :: [cb_i x0, cb_i x1]) (st := [cb_i 0, cb_r 90 0]) (hc_L_clock X B) rfl (by decide) (by decide) (by decide) (by decide +kernel) rfl (hl_wm rfl rfl h) (fun v a' M' hk => ?_) (fun x a' M' hk => ?_)
      · obtain ⟨rfl, hk⟩ := hk
        have hk := hK _ _ hk
        match v, hk with
        | some (.inl v), hk =>
          refine cb_run cb_tb_ok vd_L_clock (cuts := []) 20 ?_
          exact And.intro vp01 (And.intro trivial hk)
      · obtain ⟨rfl, hk⟩ := hk
        obtain ⟨c, hc, hk⟩ := hK _ _ hk
        have hKK := B.2.2.2.2.1
        match x, hc, hk with
        | 0, hc, hk =>
          cases (Option.some.inj hc)
          exact ⟨1, ⟨[], ⟨0, 10, 13, 22⟩, [⟨0, 10, 17, 13⟩], 4, 2, ht, (fun z hz => nomatch hz), by decide, by decide, hKK.1 (.classLink RL 22 "java/util/NoSuchElementException") (cb_tw (i := 780) (by decide +kernel)) rfl _, va_Nw.use (w := .castable "java/util/NoSuchElementException" "java/util/NoSuchElementException") rfl (hKK.2.1 _ (cb_tw (i := 791) (by decide +kernel)) rfl), Or.inr ⟨rfl, by decide +kernel⟩, by decide, ⟨1, by decide +kernel, rfl⟩, by decide +kernel⟩, hk⟩
        | x + 1, hc, hk =>
          cases (Option.some.inj hc)
          exact ⟨2, ⟨[⟨0, 10, 13, 22⟩], ⟨0, 10, 17, 13⟩, [], 4, 2, ht, (fun z hz => by
            cases List.mem_singleton.mp hz
            exact Or.inr ⟨by decide, cb_NSE, hKK.1 _ (cb_tw (i := 780) (by decide +kernel)) rfl _, hN⟩), by decide, by decide, hKK.1 (.classLink RL 13 "java/lang/IllegalArgumentException") (cb_tw (i := 543) (by decide +kernel)) rfl _, va_Nw.use (w := .castable "java/lang/IllegalArgumentException" "java/lang/IllegalArgumentException") rfl (hKK.2.1 _ (cb_tw (i := 553) (by decide +kernel)) rfl), Or.inr ⟨rfl, by decide +kernel⟩, by decide, ⟨2, by decide +kernel, rfl⟩, by decide +kernel⟩, hk⟩
def md_L_hearing : cb_D := (RL, cL_hearing, 5, (some .int), (3, 18, 9, 165), [
  (0, .aload_n 3, 1, 0, 3, 0, 0),
  (1, .iconst 0, 1, 0, 0, 0, 0),
  (2, .aload_n 0, 1, 0, 0, 0, 0),
  (3, .iload_n 1, 1, 0, 1, 0, 0),
  (4, .iload_n 2, 1, 0, 2, 0, 0),
  (8, .i2l, 1, 0, 0, 0, 0),
  (9, .lastore, 1, 0, 0, 0, 0),
  (10, .goto 11, 3, 0, 21, 0, 0),
  (13, .astore 4, 2, 0, 4, 0, 0),
  (15, .iconst 1, 1, 1, 0, 0, 0),
  (16, .ireturn, 1, 0, 0, 0, 0),
  (17, .astore 4, 2, 0, 4, 0, 0),
  (19, .iconst 2, 1, 2, 0, 0, 0),
  (20, .ireturn, 1, 0, 0, 0, 0),
  (21, .iconst 0, 1, 0, 0, 0, 0),
  (22, .ireturn, 1, 0, 0, 0, 0)],
  [], [])
set_option maxRecDepth 100000 in
theorem vd_L_hearing : md_L_hearing.cd.all (cb_vE md_L_hearing) = true := by decide +kernel
theorem hc_L_hearing (X : cb_X) (B : cb_Bs md_L_hearing X) : cb_CS cb_tb md_L_hearing X (0, 24, 3, 3, 18, pt_X9_hearing) := cb_csV B ok_X9_hearing wd_X9_hearing (cb_tw (i := 827) (by decide +kernel)) (cb_tw (i := 828) (by decide +kernel)) (cb_tw (i := 829) (by decide +kernel)) rc_X9_hearing ⟨by decide, by decide⟩ (by decide +kernel)
abbrev hh_L_hearing : List (Nat × Nat × Nat × Nat) := [(0, 10, 13, 22), (0, 10, 17, 13)]
theorem ok_L_hearing : cb_MC yL_hearing md_L_hearing hh_L_hearing (hl_pt false re_c2 2 sp_X9_hearing) := by
  refine cb_ofc ⟨by decide, rfl⟩ (fun As a M K h => ?_) rfl rfl (by decide) (fun X As a M h B ht hN => ?_)
  · obtain ⟨r, n, f, K1, rfl, hr, hi, -⟩ := h
    match r, hr, hi with
    | [.inl x0, .inl x1], _, _ => exact (by decide : 4 ≤ 5)
  · obtain ⟨r, n, f, K1, rfl, hr, hi, rfl, h, hK⟩ := h
    match r, hr, hi, h with
    | [.inl x0, .inl x1], _, _, h =>
      refine cb_run cb_tb_ok vd_L_hearing (cuts := [5]) 20 ?_
      refine ch_call (K := fun o a' M' => a' = cb_ae o (cb_aS n, f) ∧ K1 o M') (As := cb_r 0 0 :: [cb_i x0, cb_i x1]) (st := [cb_i 0, cb_r 90 0]) (hc_L_hearing X B) rfl (by decide) (by decide) (by decide) (by decide +kernel) rfl (hl_wm rfl rfl h) (fun v a' M' hk => ?_) (fun x a' M' hk => ?_)
      · obtain ⟨rfl, hk⟩ := hk
        have hk := hK _ _ hk
        match v, hk with
        | some (.inl v), hk =>
          refine cb_run cb_tb_ok vd_L_hearing (cuts := []) 20 ?_
          exact And.intro vp01 (And.intro trivial hk)
      · obtain ⟨rfl, hk⟩ := hk
        obtain ⟨c, hc, hk⟩ := hK _ _ hk
        have hKK := B.2.2.2.2.1
        match x, hc, hk with
        | 0, hc, hk =>
          cases (Option.some.inj hc)
          exact ⟨1, ⟨[], ⟨0, 10, 13, 22⟩, [⟨0, 10, 17, 13⟩], 4, 2, ht, (fun z hz => nomatch hz), by decide, by decide, hKK.1 (.classLink RL 22 "java/util/NoSuchElementException") (cb_tw (i := 780) (by decide +kernel)) rfl _, va_Nw.use (w := .castable "java/util/NoSuchElementException" "java/util/NoSuchElementException") rfl (hKK.2.1 _ (cb_tw (i := 791) (by decide +kernel)) rfl), Or.inr ⟨rfl, by decide +kernel⟩, by decide, ⟨1, by decide +kernel, rfl⟩, by decide +kernel⟩, hk⟩
        | x + 1, hc, hk =>
          cases (Option.some.inj hc)
          exact ⟨2, ⟨[⟨0, 10, 13, 22⟩], ⟨0, 10, 17, 13⟩, [], 4, 2, ht, (fun z hz => by
            cases List.mem_singleton.mp hz
            exact Or.inr ⟨by decide, cb_NSE, hKK.1 _ (cb_tw (i := 780) (by decide +kernel)) rfl _, hN⟩), by decide, by decide, hKK.1 (.classLink RL 13 "java/lang/IllegalArgumentException") (cb_tw (i := 543) (by decide +kernel)) rfl _, va_Nw.use (w := .castable "java/lang/IllegalArgumentException" "java/lang/IllegalArgumentException") rfl (hKK.2.1 _ (cb_tw (i := 553) (by decide +kernel)) rfl), Or.inr ⟨rfl, by decide +kernel⟩, by decide, ⟨2, by decide +kernel, rfl⟩, by decide +kernel⟩, hk⟩
def md_L_apart : cb_D := (RL, cL_apart, 5, (some .int), (3, 18, 9, 165), [
  (0, .aload_n 3, 1, 0, 3, 0, 0),
  (1, .iconst 0, 1, 0, 0, 0, 0),
  (2, .aload_n 0, 1, 0, 0, 0, 0),
  (3, .iload_n 1, 1, 0, 1, 0, 0),
  (4, .iload_n 2, 1, 0, 2, 0, 0),
  (8, .i2l, 1, 0, 0, 0, 0),
  (9, .lastore, 1, 0, 0, 0, 0),
  (10, .goto 11, 3, 0, 21, 0, 0),
  (13, .astore 4, 2, 0, 4, 0, 0),
  (15, .iconst 1, 1, 1, 0, 0, 0),
  (16, .ireturn, 1, 0, 0, 0, 0),
  (17, .astore 4, 2, 0, 4, 0, 0),
  (19, .iconst 2, 1, 2, 0, 0, 0),
  (20, .ireturn, 1, 0, 0, 0, 0),
  (21, .iconst 0, 1, 0, 0, 0, 0),
  (22, .ireturn, 1, 0, 0, 0, 0)],
  [], [])
set_option maxRecDepth 100000 in
theorem vd_L_apart : md_L_apart.cd.all (cb_vE md_L_apart) = true := by decide +kernel
theorem hc_L_apart (X : cb_X) (B : cb_Bs md_L_apart X) : cb_CS cb_tb md_L_apart X (0, 27, 3, 3, 18, pt_X9_apart) := cb_csV B ok_X9_apart wd_X9_apart (cb_tw (i := 839) (by decide +kernel)) (cb_tw (i := 840) (by decide +kernel)) (cb_tw (i := 841) (by decide +kernel)) rc_X9_apart ⟨by decide, by decide⟩ (by decide +kernel)
abbrev hh_L_apart : List (Nat × Nat × Nat × Nat) := [(0, 10, 13, 22), (0, 10, 17, 13)]
theorem ok_L_apart : cb_MC yL_apart md_L_apart hh_L_apart (hl_pt false re_c2 2 sp_X9_apart) := by
  refine cb_ofc ⟨by decide, rfl⟩ (fun As a M K h => ?_) rfl rfl (by decide) (fun X As a M h B ht hN => ?_)
  · obtain ⟨r, n, f, K1, rfl, hr, hi, -⟩ := h
    match r, hr, hi with
    | [.inl x0, .inl x1], _, _ => exact (by decide : 4 ≤ 5)
  · obtain ⟨r, n, f, K1, rfl, hr, hi, rfl, h, hK⟩ := h
    match r, hr, hi, h with
    | [.inl x0, .inl x1], _, _, h =>
      refine cb_run cb_tb_ok vd_L_apart (cuts := [5]) 20 ?_
      refine ch_call (K := fun o a' M' => a' = cb_ae o (cb_aS n, f) ∧ K1 o M') (As := cb_r 0 0 :: [cb_i x0, cb_i x1]) (st := [cb_i 0, cb_r 90 0]) (hc_L_apart X B) rfl (by decide) (by decide) (by decide) (by decide +kernel) rfl (hl_wm rfl rfl h) (fun v a' M' hk => ?_) (fun x a' M' hk => ?_)
      · obtain ⟨rfl, hk⟩ := hk
        have hk := hK _ _ hk
        match v, hk with
        | some (.inl v), hk =>
          refine cb_run cb_tb_ok vd_L_apart (cuts := []) 20 ?_
          exact And.intro vp01 (And.intro trivial hk)
      · obtain ⟨rfl, hk⟩ := hk
        obtain ⟨c, hc, hk⟩ := hK _ _ hk
        have hKK := B.2.2.2.2.1
        match x, hc, hk with
        | 0, hc, hk =>
          cases (Option.some.inj hc)
          exact ⟨1, ⟨[], ⟨0, 10, 13, 22⟩, [⟨0, 10, 17, 13⟩], 4, 2, ht, (fun z hz => nomatch hz), by decide, by decide, hKK.1 (.classLink RL 22 "java/util/NoSuchElementException") (cb_tw (i := 780) (by decide +kernel)) rfl _, va_Nw.use (w := .castable "java/util/NoSuchElementException" "java/util/NoSuchElementException") rfl (hKK.2.1 _ (cb_tw (i := 791) (by decide +kernel)) rfl), Or.inr ⟨rfl, by decide +kernel⟩, by decide, ⟨1, by decide +kernel, rfl⟩, by decide +kernel⟩, hk⟩
        | x + 1, hc, hk =>
          cases (Option.some.inj hc)
          exact ⟨2, ⟨[⟨0, 10, 13, 22⟩], ⟨0, 10, 17, 13⟩, [], 4, 2, ht, (fun z hz => by
            cases List.mem_singleton.mp hz
            exact Or.inr ⟨by decide, cb_NSE, hKK.1 _ (cb_tw (i := 780) (by decide +kernel)) rfl _, hN⟩), by decide, by decide, hKK.1 (.classLink RL 13 "java/lang/IllegalArgumentException") (cb_tw (i := 543) (by decide +kernel)) rfl _, va_Nw.use (w := .castable "java/lang/IllegalArgumentException" "java/lang/IllegalArgumentException") rfl (hKK.2.1 _ (cb_tw (i := 553) (by decide +kernel)) rfl), Or.inr ⟨rfl, by decide +kernel⟩, by decide, ⟨2, by decide +kernel, rfl⟩, by decide +kernel⟩, hk⟩
def md_L_step : cb_D := (RL, cL_step, 5, (some .int), (3, 18, 9, 165), [
  (0, .aload_n 3, 1, 0, 3, 0, 0),
  (1, .iconst 0, 1, 0, 0, 0, 0),
  (2, .aload_n 0, 1, 0, 0, 0, 0),
  (3, .iload_n 1, 1, 0, 1, 0, 0),
  (4, .iload_n 2, 1, 0, 2, 0, 0),
  (8, .i2l, 1, 0, 0, 0, 0),
  (9, .lastore, 1, 0, 0, 0, 0),
  (10, .goto 11, 3, 0, 21, 0, 0),
  (13, .astore 4, 2, 0, 4, 0, 0),
  (15, .iconst 1, 1, 1, 0, 0, 0),
  (16, .ireturn, 1, 0, 0, 0, 0),
  (17, .astore 4, 2, 0, 4, 0, 0),
  (19, .iconst 2, 1, 2, 0, 0, 0),
  (20, .ireturn, 1, 0, 0, 0, 0),
  (21, .iconst 0, 1, 0, 0, 0, 0),
  (22, .ireturn, 1, 0, 0, 0, 0)],
  [], [])
set_option maxRecDepth 100000 in
theorem vd_L_step : md_L_step.cd.all (cb_vE md_L_step) = true := by decide +kernel
theorem hc_L_step (X : cb_X) (B : cb_Bs md_L_step X) : cb_CS cb_tb md_L_step X (0, 39, 3, 3, 18, pt_X9_step) := cb_csV B ok_X9_step wd_X9_step (cb_tw (i := 926) (by decide +kernel)) (cb_tw (i := 927) (by decide +kernel)) (cb_tw (i := 928) (by decide +kernel)) rc_X9_step ⟨by decide, by decide⟩ (by decide +kernel)
abbrev hh_L_step : List (Nat × Nat × Nat × Nat) := [(0, 10, 13, 22), (0, 10, 17, 13)]
theorem ok_L_step : cb_MC yL_step md_L_step hh_L_step (hl_pt false re_c2 2 sp_X9_step) := by
  refine cb_ofc ⟨by decide, rfl⟩ (fun As a M K h => ?_) rfl rfl (by decide) (fun X As a M h B ht hN => ?_)
  · obtain ⟨r, n, f, K1, rfl, hr, hi, -⟩ := h
    match r, hr, hi with
    | [.inl x0, .inl x1], _, _ => exact (by decide : 4 ≤ 5)
  · obtain ⟨r, n, f, K1, rfl, hr, hi, rfl, h, hK⟩ := h
    match r, hr, hi, h with
    | [.inl x0, .inl x1], _, _, h =>
      refine cb_run cb_tb_ok vd_L_step (cuts := [5]) 20 ?_
      refine ch_call (K := fun o a' M' => a' = cb_ae o (cb_aS n, f) ∧ K1 o M') (As := cb_r 0 0 :: [cb_i x0, cb_i x1]) (st := [cb_i 0, cb_r 90 0]) (hc_L_step X B) rfl (by decide) (by decide) (by decide) (by decide +kernel) rfl (hl_wm rfl rfl h) (fun v a' M' hk => ?_) (fun x a' M' hk => ?_)
      · obtain ⟨rfl, hk⟩ := hk
        have hk := hK _ _ hk
        match v, hk with
        | some (.inl v), hk =>
          refine cb_run cb_tb_ok vd_L_step (cuts := []) 20 ?_
          exact And.intro vp01 (And.intro trivial hk)
      · obtain ⟨rfl, hk⟩ := hk
        obtain ⟨c, hc, hk⟩ := hK _ _ hk
        have hKK := B.2.2.2.2.1
        match x, hc, hk with
        | 0, hc, hk =>
          cases (Option.some.inj hc)
          exact ⟨1, ⟨[], ⟨0, 10, 13, 22⟩, [⟨0, 10, 17, 13⟩], 4, 2, ht, (fun z hz => nomatch hz), by decide, by decide, hKK.1 (.classLink RL 22 "java/util/NoSuchElementException") (cb_tw (i := 780) (by decide +kernel)) rfl _, va_Nw.use (w := .castable "java/util/NoSuchElementException" "java/util/NoSuchElementException") rfl (hKK.2.1 _ (cb_tw (i := 791) (by decide +kernel)) rfl), Or.inr ⟨rfl, by decide +kernel⟩, by decide, ⟨1, by decide +kernel, rfl⟩, by decide +kernel⟩, hk⟩
        | x + 1, hc, hk =>
          cases (Option.some.inj hc)
          exact ⟨2, ⟨[⟨0, 10, 13, 22⟩], ⟨0, 10, 17, 13⟩, [], 4, 2, ht, (fun z hz => by
            cases List.mem_singleton.mp hz
            exact Or.inr ⟨by decide, cb_NSE, hKK.1 _ (cb_tw (i := 780) (by decide +kernel)) rfl _, hN⟩), by decide, by decide, hKK.1 (.classLink RL 13 "java/lang/IllegalArgumentException") (cb_tw (i := 543) (by decide +kernel)) rfl _, va_Nw.use (w := .castable "java/lang/IllegalArgumentException" "java/lang/IllegalArgumentException") rfl (hKK.2.1 _ (cb_tw (i := 553) (by decide +kernel)) rfl), Or.inr ⟨rfl, by decide +kernel⟩, by decide, ⟨2, by decide +kernel, rfl⟩, by decide +kernel⟩, hk⟩
def md_L_off : cb_D := (RL, cL_off, 5, (some .int), (2, 12, 9, 164), [
  (0, .aload_n 3, 1, 0, 3, 0, 0),
  (1, .iconst 0, 1, 0, 0, 0, 0),
  (2, .aload_n 0, 1, 0, 0, 0, 0),
  (3, .iload_n 1, 1, 0, 1, 0, 0),
  (4, .iload_n 2, 1, 0, 2, 0, 0),
  (8, .i2l, 1, 0, 0, 0, 0),
  (9, .lastore, 1, 0, 0, 0, 0),
  (10, .goto 11, 3, 0, 21, 0, 0),
  (13, .astore 4, 2, 0, 4, 0, 0),
  (15, .iconst 1, 1, 1, 0, 0, 0),
  (16, .ireturn, 1, 0, 0, 0, 0),
  (17, .astore 4, 2, 0, 4, 0, 0),
  (19, .iconst 2, 1, 2, 0, 0, 0),
  (20, .ireturn, 1, 0, 0, 0, 0),
  (21, .iconst 0, 1, 0, 0, 0, 0),
  (22, .ireturn, 1, 0, 0, 0, 0)],
  [], [])
set_option maxRecDepth 100000 in
theorem vd_L_off : md_L_off.cd.all (cb_vE md_L_off) = true := by decide +kernel
theorem hc_L_off (X : cb_X) (B : cb_Bs md_L_off X) : cb_CS cb_tb md_L_off X (0, 42, 3, 2, 12, pt_X9_off) := cb_csV B ok_X9_off wd_X9_off (cb_tw (i := 933) (by decide +kernel)) (cb_tw (i := 934) (by decide +kernel)) (cb_tw (i := 935) (by decide +kernel)) rc_X9_off ⟨by decide, by decide⟩ (by decide +kernel)
abbrev hh_L_off : List (Nat × Nat × Nat × Nat) := [(0, 10, 13, 22), (0, 10, 17, 13)]
theorem ok_L_off : cb_MC yL_off md_L_off hh_L_off (hl_pt false re_c2 2 sp_X9_off) := by
  refine cb_ofc ⟨by decide, rfl⟩ (fun As a M K h => ?_) rfl rfl (by decide) (fun X As a M h B ht hN => ?_)
  · obtain ⟨r, n, f, K1, rfl, hr, hi, -⟩ := h
    match r, hr, hi with
    | [.inl x0, .inl x1], _, _ => exact (by decide : 4 ≤ 5)
  · obtain ⟨r, n, f, K1, rfl, hr, hi, rfl, h, hK⟩ := h
    match r, hr, hi, h with
    | [.inl x0, .inl x1], _, _, h =>
      refine cb_run cb_tb_ok vd_L_off (cuts := [5]) 20 ?_
      refine ch_call (K := fun o a' M' => a' = cb_ae o (cb_aS n, f) ∧ K1 o M') (As := cb_r 0 0 :: [cb_i x0, cb_i x1]) (st := [cb_i 0, cb_r 90 0]) (hc_L_off X B) rfl (by decide) (by decide) (by decide) (by decide +kernel) rfl (hl_wm rfl rfl h) (fun v a' M' hk => ?_) (fun x a' M' hk => ?_)
      · obtain ⟨rfl, hk⟩ := hk
        have hk := hK _ _ hk
        match v, hk with
        | some (.inl v), hk =>
          refine cb_run cb_tb_ok vd_L_off (cuts := []) 20 ?_
          exact And.intro vp01 (And.intro trivial hk)
      · obtain ⟨rfl, hk⟩ := hk
        obtain ⟨c, hc, hk⟩ := hK _ _ hk
        have hKK := B.2.2.2.2.1
        match x, hc, hk with
        | 0, hc, hk =>
          cases (Option.some.inj hc)
          exact ⟨1, ⟨[], ⟨0, 10, 13, 22⟩, [⟨0, 10, 17, 13⟩], 4, 2, ht, (fun z hz => nomatch hz), by decide, by decide, hKK.1 (.classLink RL 22 "java/util/NoSuchElementException") (cb_tw (i := 780) (by decide +kernel)) rfl _, va_Nw.use (w := .castable "java/util/NoSuchElementException" "java/util/NoSuchElementException") rfl (hKK.2.1 _ (cb_tw (i := 791) (by decide +kernel)) rfl), Or.inr ⟨rfl, by decide +kernel⟩, by decide, ⟨1, by decide +kernel, rfl⟩, by decide +kernel⟩, hk⟩
        | x + 1, hc, hk =>
          cases (Option.some.inj hc)
          exact ⟨2, ⟨[⟨0, 10, 13, 22⟩], ⟨0, 10, 17, 13⟩, [], 4, 2, ht, (fun z hz => by
            cases List.mem_singleton.mp hz
            exact Or.inr ⟨by decide, cb_NSE, hKK.1 _ (cb_tw (i := 780) (by decide +kernel)) rfl _, hN⟩), by decide, by decide, hKK.1 (.classLink RL 13 "java/lang/IllegalArgumentException") (cb_tw (i := 543) (by decide +kernel)) rfl _, va_Nw.use (w := .castable "java/lang/IllegalArgumentException" "java/lang/IllegalArgumentException") rfl (hKK.2.1 _ (cb_tw (i := 553) (by decide +kernel)) rfl), Or.inr ⟨rfl, by decide +kernel⟩, by decide, ⟨2, by decide +kernel, rfl⟩, by decide +kernel⟩, hk⟩
def md_L_hook : cb_D := (RL, cL_hook, 5, (some .int), (2, 12, 8, 144), [
  (0, .aload_n 3, 1, 0, 3, 0, 0),
  (1, .iconst 0, 1, 0, 0, 0, 0),
  (2, .aload_n 0, 1, 0, 0, 0, 0),
  (3, .iload_n 1, 1, 0, 1, 0, 0),
  (4, .iload_n 2, 1, 0, 2, 0, 0),
  (8, .i2l, 1, 0, 0, 0, 0),
  (9, .lastore, 1, 0, 0, 0, 0),
  (10, .goto 11, 3, 0, 21, 0, 0),
  (13, .astore 4, 2, 0, 4, 0, 0),
  (15, .iconst 1, 1, 1, 0, 0, 0),
  (16, .ireturn, 1, 0, 0, 0, 0),
  (17, .astore 4, 2, 0, 4, 0, 0),
  (19, .iconst 2, 1, 2, 0, 0, 0),
  (20, .ireturn, 1, 0, 0, 0, 0),
  (21, .iconst 0, 1, 0, 0, 0, 0),
  (22, .ireturn, 1, 0, 0, 0, 0)],
  [], [])
set_option maxRecDepth 100000 in
theorem vd_L_hook : md_L_hook.cd.all (cb_vE md_L_hook) = true := by decide +kernel
theorem hc_L_hook (X : cb_X) (B : cb_Bs md_L_hook X) : cb_CS cb_tb md_L_hook X (0, 48, 3, 2, 12, pt_X9_hook) := cb_csV B ok_X9_hook wd_X9_hook (cb_tw (i := 959) (by decide +kernel)) (cb_tw (i := 960) (by decide +kernel)) (cb_tw (i := 961) (by decide +kernel)) rc_X9_hook ⟨by decide, by decide⟩ (by decide +kernel)
abbrev hh_L_hook : List (Nat × Nat × Nat × Nat) := [(0, 10, 13, 22), (0, 10, 17, 13)]
theorem ok_L_hook : cb_MC yL_hook md_L_hook hh_L_hook (hl_pt false re_c2 2 sp_X9_hook) := by
  refine cb_ofc ⟨by decide, rfl⟩ (fun As a M K h => ?_) rfl rfl (by decide) (fun X As a M h B ht hN => ?_)
  · obtain ⟨r, n, f, K1, rfl, hr, hi, -⟩ := h
    match r, hr, hi with
    | [.inl x0, .inl x1], _, _ => exact (by decide : 4 ≤ 5)
  · obtain ⟨r, n, f, K1, rfl, hr, hi, rfl, h, hK⟩ := h
    match r, hr, hi, h with
    | [.inl x0, .inl x1], _, _, h =>
      refine cb_run cb_tb_ok vd_L_hook (cuts := [5]) 20 ?_
      refine ch_call (K := fun o a' M' => a' = cb_ae o (cb_aS n, f) ∧ K1 o M') (As := cb_r 0 0 :: [cb_i x0, cb_i x1]) (st := [cb_i 0, cb_r 90 0]) (hc_L_hook X B) rfl (by decide) (by decide) (by decide) (by decide +kernel) rfl (hl_wm rfl rfl h) (fun v a' M' hk => ?_) (fun x a' M' hk => ?_)
      · obtain ⟨rfl, hk⟩ := hk
        have hk := hK _ _ hk
        match v, hk with
        | some (.inl v), hk =>
          refine cb_run cb_tb_ok vd_L_hook (cuts := []) 20 ?_
          exact And.intro vp01 (And.intro trivial hk)
      · obtain ⟨rfl, hk⟩ := hk
        obtain ⟨c, hc, hk⟩ := hK _ _ hk
        have hKK := B.2.2.2.2.1
        match x, hc, hk with
        | 0, hc, hk =>
          cases (Option.some.inj hc)
          exact ⟨1, ⟨[], ⟨0, 10, 13, 22⟩, [⟨0, 10, 17, 13⟩], 4, 2, ht, (fun z hz => nomatch hz), by decide, by decide, hKK.1 (.classLink RL 22 "java/util/NoSuchElementException") (cb_tw (i := 780) (by decide +kernel)) rfl _, va_Nw.use (w := .castable "java/util/NoSuchElementException" "java/util/NoSuchElementException") rfl (hKK.2.1 _ (cb_tw (i := 791) (by decide +kernel)) rfl), Or.inr ⟨rfl, by decide +kernel⟩, by decide, ⟨1, by decide +kernel, rfl⟩, by decide +kernel⟩, hk⟩
        | x + 1, hc, hk =>
          cases (Option.some.inj hc)
          exact ⟨2, ⟨[⟨0, 10, 13, 22⟩], ⟨0, 10, 17, 13⟩, [], 4, 2, ht, (fun z hz => by
            cases List.mem_singleton.mp hz
            exact Or.inr ⟨by decide, cb_NSE, hKK.1 _ (cb_tw (i := 780) (by decide +kernel)) rfl _, hN⟩), by decide, by decide, hKK.1 (.classLink RL 13 "java/lang/IllegalArgumentException") (cb_tw (i := 543) (by decide +kernel)) rfl _, va_Nw.use (w := .castable "java/lang/IllegalArgumentException" "java/lang/IllegalArgumentException") rfl (hKK.2.1 _ (cb_tw (i := 553) (by decide +kernel)) rfl), Or.inr ⟨rfl, by decide +kernel⟩, by decide, ⟨2, by decide +kernel, rfl⟩, by decide +kernel⟩, hk⟩
def md_L_beginnings : cb_D := (RL, cL_beginnings, 7, (some .int), (5, 30, 9, 169), [
  (0, .aload 5, 2, 0, 5, 0, 0),
  (2, .iconst 0, 1, 0, 0, 0, 0),
  (3, .aload_n 0, 1, 0, 0, 0, 0),
  (4, .iload_n 1, 1, 0, 1, 0, 0),
  (5, .iload_n 2, 1, 0, 2, 0, 0),
  (6, .iload_n 3, 1, 0, 3, 0, 0),
  (7, .iload 4, 2, 0, 4, 0, 0),
  (12, .i2l, 1, 0, 0, 0, 0),
  (13, .lastore, 1, 0, 0, 0, 0),
  (14, .goto 11, 3, 0, 25, 0, 0),
  (17, .astore 6, 2, 0, 6, 0, 0),
  (19, .iconst 1, 1, 1, 0, 0, 0),
  (20, .ireturn, 1, 0, 0, 0, 0),
  (21, .astore 6, 2, 0, 6, 0, 0),
  (23, .iconst 2, 1, 2, 0, 0, 0),
  (24, .ireturn, 1, 0, 0, 0, 0),
  (25, .iconst 0, 1, 0, 0, 0, 0),
  (26, .ireturn, 1, 0, 0, 0, 0)],
  [], [])
set_option maxRecDepth 100000 in
theorem vd_L_beginnings : md_L_beginnings.cd.all (cb_vE md_L_beginnings) = true := by decide +kernel
theorem hc_L_beginnings (X : cb_X) (B : cb_Bs md_L_beginnings X) : cb_CS cb_tb md_L_beginnings X (0, 58, 5, 5, 30, pt_X9_beginnings) := cb_csV B ok_X9_beginnings wd_X9_beginnings (cb_tw (i := 998) (by decide +kernel)) (cb_tw (i := 999) (by decide +kernel)) (cb_tw (i := 1000) (by decide +kernel)) rc_X9_beginnings ⟨by decide, by decide⟩ (by decide +kernel)
abbrev hh_L_beginnings : List (Nat × Nat × Nat × Nat) := [(0, 14, 17, 22), (0, 14, 21, 13)]
theorem ok_L_beginnings : cb_MC yL_beginnings md_L_beginnings hh_L_beginnings (hl_pt false re_c2 4 sp_X9_beginnings) := by
  refine cb_ofc ⟨by decide, rfl⟩ (fun As a M K h => ?_) rfl rfl (by decide) (fun X As a M h B ht hN => ?_)
  · obtain ⟨r, n, f, K1, rfl, hr, hi, -⟩ := h
    match r, hr, hi with
    | [.inl x0, .inl x1, .inl x2, .inl x3], _, _ => exact (by decide : 6 ≤ 7)
  · obtain ⟨r, n, f, K1, rfl, hr, hi, rfl, h, hK⟩ := h
    match r, hr, hi, h with
    | [.inl x0, .inl x1, .inl x2, .inl x3], _, _, h =>
      refine cb_run cb_tb_ok vd_L_beginnings (cuts := [9]) 20 ?_
      refine ch_call (K := fun o a' M' => a' = cb_ae o (cb_aS n, f) ∧ K1 o M') (As := cb_r 0 0 :: [cb_i x0, cb_i x1, cb_i x2, cb_i x3]) (st := [cb_i 0, cb_r 90 0]) (hc_L_beginnings X B) rfl (by decide) (by decide) (by decide) (by decide +kernel) rfl (hl_wm rfl rfl h) (fun v a' M' hk => ?_) (fun x a' M' hk => ?_)
      · obtain ⟨rfl, hk⟩ := hk
        have hk := hK _ _ hk
        match v, hk with
        | some (.inl v), hk =>
          refine cb_run cb_tb_ok vd_L_beginnings (cuts := []) 20 ?_
          exact And.intro vp01 (And.intro trivial hk)
      · obtain ⟨rfl, hk⟩ := hk
        obtain ⟨c, hc, hk⟩ := hK _ _ hk
        have hKK := B.2.2.2.2.1
        match x, hc, hk with
        | 0, hc, hk =>
          cases (Option.some.inj hc)
          exact ⟨1, ⟨[], ⟨0, 14, 17, 22⟩, [⟨0, 14, 21, 13⟩], 6, 2, ht, (fun z hz => nomatch hz), by decide, by decide, hKK.1 (.classLink RL 22 "java/util/NoSuchElementException") (cb_tw (i := 780) (by decide +kernel)) rfl _, va_Nw.use (w := .castable "java/util/NoSuchElementException" "java/util/NoSuchElementException") rfl (hKK.2.1 _ (cb_tw (i := 791) (by decide +kernel)) rfl), Or.inr ⟨rfl, by decide +kernel⟩, by decide, ⟨1, by decide +kernel, rfl⟩, by decide +kernel⟩, hk⟩
        | x + 1, hc, hk =>
          cases (Option.some.inj hc)
          exact ⟨2, ⟨[⟨0, 14, 17, 22⟩], ⟨0, 14, 21, 13⟩, [], 6, 2, ht, (fun z hz => by
            cases List.mem_singleton.mp hz
            exact Or.inr ⟨by decide, cb_NSE, hKK.1 _ (cb_tw (i := 780) (by decide +kernel)) rfl _, hN⟩), by decide, by decide, hKK.1 (.classLink RL 13 "java/lang/IllegalArgumentException") (cb_tw (i := 543) (by decide +kernel)) rfl _, va_Nw.use (w := .castable "java/lang/IllegalArgumentException" "java/lang/IllegalArgumentException") rfl (hKK.2.1 _ (cb_tw (i := 553) (by decide +kernel)) rfl), Or.inr ⟨rfl, by decide +kernel⟩, by decide, ⟨2, by decide +kernel, rfl⟩, by decide +kernel⟩, hk⟩
def md_L_away : cb_D := (RL, cL_away, 5, (some .int), (2, 12, 9, 178), [
  (0, .aload_n 3, 1, 0, 3, 0, 0),
  (1, .iconst 0, 1, 0, 0, 0, 0),
  (2, .aload_n 0, 1, 0, 0, 0, 0),
  (3, .iload_n 1, 1, 0, 1, 0, 0),
  (4, .iload_n 2, 1, 0, 2, 0, 0),
  (8, .i2l, 1, 0, 0, 0, 0),
  (9, .lastore, 1, 0, 0, 0, 0),
  (10, .goto 11, 3, 0, 21, 0, 0),
  (13, .astore 4, 2, 0, 4, 0, 0),
  (15, .iconst 1, 1, 1, 0, 0, 0),
  (16, .ireturn, 1, 0, 0, 0, 0),
  (17, .astore 4, 2, 0, 4, 0, 0),
  (19, .iconst 2, 1, 2, 0, 0, 0),
  (20, .ireturn, 1, 0, 0, 0, 0),
  (21, .iconst 0, 1, 0, 0, 0, 0),
  (22, .ireturn, 1, 0, 0, 0, 0)],
  [], [])
set_option maxRecDepth 100000 in
theorem vd_L_away : md_L_away.cd.all (cb_vE md_L_away) = true := by decide +kernel
theorem hc_L_away (X : cb_X) (B : cb_Bs md_L_away X) : cb_CS cb_tb md_L_away X (0, 62, 3, 2, 12, pt_X9_away) := cb_csV B ok_X9_away wd_X9_away (cb_tw (i := 1008) (by decide +kernel)) (cb_tw (i := 1009) (by decide +kernel)) (cb_tw (i := 1010) (by decide +kernel)) rc_X9_away ⟨by decide, by decide⟩ (by decide +kernel)
abbrev hh_L_away : List (Nat × Nat × Nat × Nat) := [(0, 10, 13, 22), (0, 10, 17, 13)]
theorem ok_L_away : cb_MC yL_away md_L_away hh_L_away (hl_pt false re_c2 2 sp_X9_away) := by
  refine cb_ofc ⟨by decide, rfl⟩ (fun As a M K h => ?_) rfl rfl (by decide) (fun X As a M h B ht hN => ?_)
  · obtain ⟨r, n, f, K1, rfl, hr, hi, -⟩ := h
    match r, hr, hi with
    | [.inl x0, .inl x1], _, _ => exact (by decide : 4 ≤ 5)
  · obtain ⟨r, n, f, K1, rfl, hr, hi, rfl, h, hK⟩ := h
    match r, hr, hi, h with
    | [.inl x0, .inl x1], _, _, h =>
      refine cb_run cb_tb_ok vd_L_away (cuts := [5]) 20 ?_
      refine ch_call (K := fun o a' M' => a' = cb_ae o (cb_aS n, f) ∧ K1 o M') (As := cb_r 0 0 :: [cb_i x0, cb_i x1]) (st := [cb_i 0, cb_r 90 0]) (hc_L_away X B) rfl (by decide) (by decide) (by decide) (by decide +kernel) rfl (hl_wm rfl rfl h) (fun v a' M' hk => ?_) (fun x a' M' hk => ?_)
      · obtain ⟨rfl, hk⟩ := hk
        have hk := hK _ _ hk
        match v, hk with
        | some (.inl v), hk =>
          refine cb_run cb_tb_ok vd_L_away (cuts := []) 20 ?_
          exact And.intro vp01 (And.intro trivial hk)
      · obtain ⟨rfl, hk⟩ := hk
        obtain ⟨c, hc, hk⟩ := hK _ _ hk
        have hKK := B.2.2.2.2.1
        match x, hc, hk with
        | 0, hc, hk =>
          cases (Option.some.inj hc)
          exact ⟨1, ⟨[], ⟨0, 10, 13, 22⟩, [⟨0, 10, 17, 13⟩], 4, 2, ht, (fun z hz => nomatch hz), by decide, by decide, hKK.1 (.classLink RL 22 "java/util/NoSuchElementException") (cb_tw (i := 780) (by decide +kernel)) rfl _, va_Nw.use (w := .castable "java/util/NoSuchElementException" "java/util/NoSuchElementException") rfl (hKK.2.1 _ (cb_tw (i := 791) (by decide +kernel)) rfl), Or.inr ⟨rfl, by decide +kernel⟩, by decide, ⟨1, by decide +kernel, rfl⟩, by decide +kernel⟩, hk⟩
        | x + 1, hc, hk =>
          cases (Option.some.inj hc)
          exact ⟨2, ⟨[⟨0, 10, 13, 22⟩], ⟨0, 10, 17, 13⟩, [], 4, 2, ht, (fun z hz => by
            cases List.mem_singleton.mp hz
            exact Or.inr ⟨by decide, cb_NSE, hKK.1 _ (cb_tw (i := 780) (by decide +kernel)) rfl _, hN⟩), by decide, by decide, hKK.1 (.classLink RL 13 "java/lang/IllegalArgumentException") (cb_tw (i := 543) (by decide +kernel)) rfl _, va_Nw.use (w := .castable "java/lang/IllegalArgumentException" "java/lang/IllegalArgumentException") rfl (hKK.2.1 _ (cb_tw (i := 553) (by decide +kernel)) rfl), Or.inr ⟨rfl, by decide +kernel⟩, by decide, ⟨2, by decide +kernel, rfl⟩, by decide +kernel⟩, hk⟩
def md_L_own : cb_D := (RL, cL_own, 8, (some .int), (5, 30, 9, 188), [
  (0, .aload 6, 2, 0, 6, 0, 0),
  (2, .iconst 0, 1, 0, 0, 0, 0),
  (3, .aload_n 0, 1, 0, 0, 0, 0),
  (4, .iload_n 1, 1, 0, 1, 0, 0),
  (5, .iload_n 2, 1, 0, 2, 0, 0),
  (6, .iload_n 3, 1, 0, 3, 0, 0),
  (7, .iload 4, 2, 0, 4, 0, 0),
  (9, .iload 5, 2, 0, 5, 0, 0),
  (14, .i2l, 1, 0, 0, 0, 0),
  (15, .lastore, 1, 0, 0, 0, 0),
  (16, .goto 11, 3, 0, 27, 0, 0),
  (19, .astore 7, 2, 0, 7, 0, 0),
  (21, .iconst 1, 1, 1, 0, 0, 0),
  (22, .ireturn, 1, 0, 0, 0, 0),
  (23, .astore 7, 2, 0, 7, 0, 0),
  (25, .iconst 2, 1, 2, 0, 0, 0),
  (26, .ireturn, 1, 0, 0, 0, 0),
  (27, .iconst 0, 1, 0, 0, 0, 0),
  (28, .ireturn, 1, 0, 0, 0, 0)],
  [], [])
set_option maxRecDepth 100000 in
theorem vd_L_own : md_L_own.cd.all (cb_vE md_L_own) = true := by decide +kernel
theorem hc_L_own (X : cb_X) (B : cb_Bs md_L_own X) : cb_CS cb_tb md_L_own X (0, 72, 6, 5, 30, pt_X9_own) := cb_csV B ok_X9_own wd_X9_own (cb_tw (i := 1108) (by decide +kernel)) (cb_tw (i := 1109) (by decide +kernel)) (cb_tw (i := 1110) (by decide +kernel)) rc_X9_own ⟨by decide, by decide⟩ (by decide +kernel)
abbrev hh_L_own : List (Nat × Nat × Nat × Nat) := [(0, 16, 19, 22), (0, 16, 23, 13)]
theorem ok_L_own : cb_MC yL_own md_L_own hh_L_own (hl_pt false re_c2 5 sp_X9_own) := by
  refine cb_ofc ⟨by decide, rfl⟩ (fun As a M K h => ?_) rfl rfl (by decide) (fun X As a M h B ht hN => ?_)
  · obtain ⟨r, n, f, K1, rfl, hr, hi, -⟩ := h
    match r, hr, hi with
    | [.inl x0, .inl x1, .inl x2, .inl x3, .inl x4], _, _ => exact (by decide : 7 ≤ 8)
  · obtain ⟨r, n, f, K1, rfl, hr, hi, rfl, h, hK⟩ := h
    match r, hr, hi, h with
    | [.inl x0, .inl x1, .inl x2, .inl x3, .inl x4], _, _, h =>
      refine cb_run cb_tb_ok vd_L_own (cuts := [11]) 20 ?_
      refine ch_call (K := fun o a' M' => a' = cb_ae o (cb_aS n, f) ∧ K1 o M') (As := cb_r 0 0 :: [cb_i x0, cb_i x1, cb_i x2, cb_i x3, cb_i x4]) (st := [cb_i 0, cb_r 90 0]) (hc_L_own X B) rfl (by decide) (by decide) (by decide) (by decide +kernel) rfl (hl_wm rfl rfl h) (fun v a' M' hk => ?_) (fun x a' M' hk => ?_)
      · obtain ⟨rfl, hk⟩ := hk
        have hk := hK _ _ hk
        match v, hk with
        | some (.inl v), hk =>
          refine cb_run cb_tb_ok vd_L_own (cuts := []) 20 ?_
          exact And.intro vp01 (And.intro trivial hk)
      · obtain ⟨rfl, hk⟩ := hk
        obtain ⟨c, hc, hk⟩ := hK _ _ hk
        have hKK := B.2.2.2.2.1
        match x, hc, hk with
        | 0, hc, hk =>
          cases (Option.some.inj hc)
          exact ⟨1, ⟨[], ⟨0, 16, 19, 22⟩, [⟨0, 16, 23, 13⟩], 7, 2, ht, (fun z hz => nomatch hz), by decide, by decide, hKK.1 (.classLink RL 22 "java/util/NoSuchElementException") (cb_tw (i := 780) (by decide +kernel)) rfl _, va_Nw.use (w := .castable "java/util/NoSuchElementException" "java/util/NoSuchElementException") rfl (hKK.2.1 _ (cb_tw (i := 791) (by decide +kernel)) rfl), Or.inr ⟨rfl, by decide +kernel⟩, by decide, ⟨1, by decide +kernel, rfl⟩, by decide +kernel⟩, hk⟩
        | x + 1, hc, hk =>
          cases (Option.some.inj hc)
          exact ⟨2, ⟨[⟨0, 16, 19, 22⟩], ⟨0, 16, 23, 13⟩, [], 7, 2, ht, (fun z hz => by
            cases List.mem_singleton.mp hz
            exact Or.inr ⟨by decide, cb_NSE, hKK.1 _ (cb_tw (i := 780) (by decide +kernel)) rfl _, hN⟩), by decide, by decide, hKK.1 (.classLink RL 13 "java/lang/IllegalArgumentException") (cb_tw (i := 543) (by decide +kernel)) rfl _, va_Nw.use (w := .castable "java/lang/IllegalArgumentException" "java/lang/IllegalArgumentException") rfl (hKK.2.1 _ (cb_tw (i := 553) (by decide +kernel)) rfl), Or.inr ⟨rfl, by decide +kernel⟩, by decide, ⟨2, by decide +kernel, rfl⟩, by decide +kernel⟩, hk⟩
def md_L_look : cb_D := (RL, cL_look, 6, (some .int), (3, 18, 9, 165), [
  (0, .aload 4, 2, 0, 4, 0, 0),
  (2, .iconst 0, 1, 0, 0, 0, 0),
  (3, .aload_n 0, 1, 0, 0, 0, 0),
  (4, .iload_n 1, 1, 0, 1, 0, 0),
  (5, .iload_n 2, 1, 0, 2, 0, 0),
  (6, .iload_n 3, 1, 0, 3, 0, 0),
  (10, .i2l, 1, 0, 0, 0, 0),
  (11, .lastore, 1, 0, 0, 0, 0),
  (12, .goto 11, 3, 0, 23, 0, 0),
  (15, .astore 5, 2, 0, 5, 0, 0),
  (17, .iconst 1, 1, 1, 0, 0, 0),
  (18, .ireturn, 1, 0, 0, 0, 0),
  (19, .astore 5, 2, 0, 5, 0, 0),
  (21, .iconst 2, 1, 2, 0, 0, 0),
  (22, .ireturn, 1, 0, 0, 0, 0),
  (23, .iconst 0, 1, 0, 0, 0, 0),
  (24, .ireturn, 1, 0, 0, 0, 0)],
  [], [])
set_option maxRecDepth 100000 in
theorem vd_L_look : md_L_look.cd.all (cb_vE md_L_look) = true := by decide +kernel
theorem hc_L_look (X : cb_X) (B : cb_Bs md_L_look X) : cb_CS cb_tb md_L_look X (0, 76, 4, 3, 18, pt_X9_look) := cb_csV B ok_X9_look wd_X9_look (cb_tw (i := 1129) (by decide +kernel)) (cb_tw (i := 1130) (by decide +kernel)) (cb_tw (i := 1131) (by decide +kernel)) rc_X9_look ⟨by decide, by decide⟩ (by decide +kernel)
abbrev hh_L_look : List (Nat × Nat × Nat × Nat) := [(0, 12, 15, 22), (0, 12, 19, 13)]
theorem ok_L_look : cb_MC yL_look md_L_look hh_L_look (hl_pt false re_c2 3 sp_X9_look) := by
  refine cb_ofc ⟨by decide, rfl⟩ (fun As a M K h => ?_) rfl rfl (by decide) (fun X As a M h B ht hN => ?_)
  · obtain ⟨r, n, f, K1, rfl, hr, hi, -⟩ := h
    match r, hr, hi with
    | [.inl x0, .inl x1, .inl x2], _, _ => exact (by decide : 5 ≤ 6)
  · obtain ⟨r, n, f, K1, rfl, hr, hi, rfl, h, hK⟩ := h
    match r, hr, hi, h with
    | [.inl x0, .inl x1, .inl x2], _, _, h =>
      refine cb_run cb_tb_ok vd_L_look (cuts := [7]) 20 ?_
      refine ch_call (K := fun o a' M' => a' = cb_ae o (cb_aS n, f) ∧ K1 o M') (As := cb_r 0 0 :: [cb_i x0, cb_i x1, cb_i x2]) (st := [cb_i 0, cb_r 90 0]) (hc_L_look X B) rfl (by decide) (by decide) (by decide) (by decide +kernel) rfl (hl_wm rfl rfl h) (fun v a' M' hk => ?_) (fun x a' M' hk => ?_)
      · obtain ⟨rfl, hk⟩ := hk
        have hk := hK _ _ hk
        match v, hk with
        | some (.inl v), hk =>
          refine cb_run cb_tb_ok vd_L_look (cuts := []) 20 ?_
          exact And.intro vp01 (And.intro trivial hk)
      · obtain ⟨rfl, hk⟩ := hk
        obtain ⟨c, hc, hk⟩ := hK _ _ hk
        have hKK := B.2.2.2.2.1
        match x, hc, hk with
        | 0, hc, hk =>
          cases (Option.some.inj hc)
          exact ⟨1, ⟨[], ⟨0, 12, 15, 22⟩, [⟨0, 12, 19, 13⟩], 5, 2, ht, (fun z hz => nomatch hz), by decide, by decide, hKK.1 (.classLink RL 22 "java/util/NoSuchElementException") (cb_tw (i := 780) (by decide +kernel)) rfl _, va_Nw.use (w := .castable "java/util/NoSuchElementException" "java/util/NoSuchElementException") rfl (hKK.2.1 _ (cb_tw (i := 791) (by decide +kernel)) rfl), Or.inr ⟨rfl, by decide +kernel⟩, by decide, ⟨1, by decide +kernel, rfl⟩, by decide +kernel⟩, hk⟩
        | x + 1, hc, hk =>
          cases (Option.some.inj hc)
          exact ⟨2, ⟨[⟨0, 12, 15, 22⟩], ⟨0, 12, 19, 13⟩, [], 5, 2, ht, (fun z hz => by
            cases List.mem_singleton.mp hz
            exact Or.inr ⟨by decide, cb_NSE, hKK.1 _ (cb_tw (i := 780) (by decide +kernel)) rfl _, hN⟩), by decide, by decide, hKK.1 (.classLink RL 13 "java/lang/IllegalArgumentException") (cb_tw (i := 543) (by decide +kernel)) rfl _, va_Nw.use (w := .castable "java/lang/IllegalArgumentException" "java/lang/IllegalArgumentException") rfl (hKK.2.1 _ (cb_tw (i := 553) (by decide +kernel)) rfl), Or.inr ⟨rfl, by decide +kernel⟩, by decide, ⟨2, by decide +kernel, rfl⟩, by decide +kernel⟩, hk⟩
def md_L_book : cb_D := (RL, cL_book, 5, (some .int), (2, 12, 8, 145), [
  (0, .aload_n 3, 1, 0, 3, 0, 0),
  (1, .iconst 0, 1, 0, 0, 0, 0),
  (2, .aload_n 0, 1, 0, 0, 0, 0),
  (3, .iload_n 1, 1, 0, 1, 0, 0),
  (4, .iload_n 2, 1, 0, 2, 0, 0),
  (8, .i2l, 1, 0, 0, 0, 0),
  (9, .lastore, 1, 0, 0, 0, 0),
  (10, .goto 11, 3, 0, 21, 0, 0),
  (13, .astore 4, 2, 0, 4, 0, 0),
  (15, .iconst 1, 1, 1, 0, 0, 0),
  (16, .ireturn, 1, 0, 0, 0, 0),
  (17, .astore 4, 2, 0, 4, 0, 0),
  (19, .iconst 2, 1, 2, 0, 0, 0),
  (20, .ireturn, 1, 0, 0, 0, 0),
  (21, .iconst 0, 1, 0, 0, 0, 0),
  (22, .ireturn, 1, 0, 0, 0, 0)],
  [], [])
set_option maxRecDepth 100000 in
theorem vd_L_book : md_L_book.cd.all (cb_vE md_L_book) = true := by decide +kernel
theorem hc_L_book (X : cb_X) (B : cb_Bs md_L_book X) : cb_CS cb_tb md_L_book X (0, 79, 3, 2, 12, pt_X9_book) := cb_csV B ok_X9_book wd_X9_book (cb_tw (i := 1141) (by decide +kernel)) (cb_tw (i := 1142) (by decide +kernel)) (cb_tw (i := 1143) (by decide +kernel)) rc_X9_book ⟨by decide, by decide⟩ (by decide +kernel)
abbrev hh_L_book : List (Nat × Nat × Nat × Nat) := [(0, 10, 13, 22), (0, 10, 17, 13)]
theorem ok_L_book : cb_MC yL_book md_L_book hh_L_book (hl_pt false re_c2 2 sp_X9_book) := by
  refine cb_ofc ⟨by decide, rfl⟩ (fun As a M K h => ?_) rfl rfl (by decide) (fun X As a M h B ht hN => ?_)
  · obtain ⟨r, n, f, K1, rfl, hr, hi, -⟩ := h
    match r, hr, hi with
    | [.inl x0, .inl x1], _, _ => exact (by decide : 4 ≤ 5)
  · obtain ⟨r, n, f, K1, rfl, hr, hi, rfl, h, hK⟩ := h
    match r, hr, hi, h with
    | [.inl x0, .inl x1], _, _, h =>
      refine cb_run cb_tb_ok vd_L_book (cuts := [5]) 20 ?_
      refine ch_call (K := fun o a' M' => a' = cb_ae o (cb_aS n, f) ∧ K1 o M') (As := cb_r 0 0 :: [cb_i x0, cb_i x1]) (st := [cb_i 0, cb_r 90 0]) (hc_L_book X B) rfl (by decide) (by decide) (by decide) (by decide +kernel) rfl (hl_wm rfl rfl h) (fun v a' M' hk => ?_) (fun x a' M' hk => ?_)
      · obtain ⟨rfl, hk⟩ := hk
        have hk := hK _ _ hk
        match v, hk with
        | some (.inl v), hk =>
          refine cb_run cb_tb_ok vd_L_book (cuts := []) 20 ?_
          exact And.intro vp01 (And.intro trivial hk)
      · obtain ⟨rfl, hk⟩ := hk
        obtain ⟨c, hc, hk⟩ := hK _ _ hk
        have hKK := B.2.2.2.2.1
        match x, hc, hk with
        | 0, hc, hk =>
          cases (Option.some.inj hc)
          exact ⟨1, ⟨[], ⟨0, 10, 13, 22⟩, [⟨0, 10, 17, 13⟩], 4, 2, ht, (fun z hz => nomatch hz), by decide, by decide, hKK.1 (.classLink RL 22 "java/util/NoSuchElementException") (cb_tw (i := 780) (by decide +kernel)) rfl _, va_Nw.use (w := .castable "java/util/NoSuchElementException" "java/util/NoSuchElementException") rfl (hKK.2.1 _ (cb_tw (i := 791) (by decide +kernel)) rfl), Or.inr ⟨rfl, by decide +kernel⟩, by decide, ⟨1, by decide +kernel, rfl⟩, by decide +kernel⟩, hk⟩
        | x + 1, hc, hk =>
          cases (Option.some.inj hc)
          exact ⟨2, ⟨[⟨0, 10, 13, 22⟩], ⟨0, 10, 17, 13⟩, [], 4, 2, ht, (fun z hz => by
            cases List.mem_singleton.mp hz
            exact Or.inr ⟨by decide, cb_NSE, hKK.1 _ (cb_tw (i := 780) (by decide +kernel)) rfl _, hN⟩), by decide, by decide, hKK.1 (.classLink RL 13 "java/lang/IllegalArgumentException") (cb_tw (i := 543) (by decide +kernel)) rfl _, va_Nw.use (w := .castable "java/lang/IllegalArgumentException" "java/lang/IllegalArgumentException") rfl (hKK.2.1 _ (cb_tw (i := 553) (by decide +kernel)) rfl), Or.inr ⟨rfl, by decide +kernel⟩, by decide, ⟨2, by decide +kernel, rfl⟩, by decide +kernel⟩, hk⟩
def md_L_fraud : cb_D := (RL, cL_fraud, 5, (some .int), (2, 12, 9, 164), [
  (0, .aload_n 3, 1, 0, 3, 0, 0),
  (1, .iconst 0, 1, 0, 0, 0, 0),
  (2, .aload_n 0, 1, 0, 0, 0, 0),
  (3, .iload_n 1, 1, 0, 1, 0, 0),
  (4, .iload_n 2, 1, 0, 2, 0, 0),
  (8, .ifCond .eq 7, 3, 0, 15, 0, 0),
  (11, .lconst 1, 1, 0, 0, 0, 0),
  (12, .goto 4, 3, 0, 16, 0, 0),
  (15, .lconst 0, 1, 0, 0, 0, 0),
  (16, .lastore, 1, 0, 0, 0, 0),
  (17, .goto 11, 3, 0, 28, 0, 0),
  (20, .astore 4, 2, 0, 4, 0, 0),
  (22, .iconst 1, 1, 1, 0, 0, 0),
  (23, .ireturn, 1, 0, 0, 0, 0),
  (24, .astore 4, 2, 0, 4, 0, 0),
  (26, .iconst 2, 1, 2, 0, 0, 0),
  (27, .ireturn, 1, 0, 0, 0, 0),
  (28, .iconst 0, 1, 0, 0, 0, 0),
  (29, .ireturn, 1, 0, 0, 0, 0)],
  [], [])
set_option maxRecDepth 100000 in
theorem vd_L_fraud : md_L_fraud.cd.all (cb_vE md_L_fraud) = true := by decide +kernel
theorem hc_L_fraud (X : cb_X) (B : cb_Bs md_L_fraud X) : cb_CS cb_tb md_L_fraud X (0, 85, 3, 2, 12, pt_X9_fraud) := cb_csV B ok_X9_fraud wd_X9_fraud (cb_tw (i := 1164) (by decide +kernel)) (cb_tw (i := 1165) (by decide +kernel)) (cb_tw (i := 1166) (by decide +kernel)) rc_X9_fraud ⟨by decide, by decide⟩ (by decide +kernel)
abbrev hh_L_fraud : List (Nat × Nat × Nat × Nat) := [(0, 17, 20, 22), (0, 17, 24, 13)]
theorem ok_L_fraud : cb_MC yL_fraud md_L_fraud hh_L_fraud (hl_pt true re_c2 2 sp_X9_fraud) := by
  refine cb_ofc ⟨by decide, rfl⟩ (fun As a M K h => ?_) rfl rfl (by decide) (fun X As a M h B ht hN => ?_)
  · obtain ⟨r, n, f, K1, rfl, hr, hi, -⟩ := h
    match r, hr, hi with
    | [.inl x0, .inl x1], _, _ => exact (by decide : 4 ≤ 5)
  · obtain ⟨r, n, f, K1, rfl, hr, hi, rfl, h, hK⟩ := h
    match r, hr, hi, h with
    | [.inl x0, .inl x1], _, _, h =>
      refine cb_run cb_tb_ok vd_L_fraud (cuts := [5]) 20 ?_
      refine ch_call (K := fun o a' M' => a' = cb_ae o (cb_aS n, f) ∧ K1 o M') (As := cb_r 0 0 :: [cb_i x0, cb_i x1]) (st := [cb_i 0, cb_r 90 0]) (hc_L_fraud X B) rfl (by decide) (by decide) (by decide) (by decide +kernel) rfl (hl_wm rfl rfl h) (fun v a' M' hk => ?_) (fun x a' M' hk => ?_)
      · obtain ⟨rfl, hk⟩ := hk
        have hk := hK _ _ hk
        match v, hk with
        | some (.inl v), hk =>
          refine cb_run cb_tb_ok vd_L_fraud (cuts := []) 20 ?_
          refine And.intro (fun q => And.intro vp01 (And.intro trivial ?_)) (fun q => And.intro vp01 (And.intro trivial ?_))
          · have q : v = 0 := q
            have hk : X.K (.inl (some (cb_i 0))) (cb_aS n, f) (cb_sL M' 90 0 0 (if v = 0 then 0 else 1)) := hk
            rw [if_pos q] at hk
            exact hk
          · have q : ¬ v = 0 := q
            have hk : X.K (.inl (some (cb_i 0))) (cb_aS n, f) (cb_sL M' 90 0 0 (if v = 0 then 0 else 1)) := hk
            rw [if_neg q] at hk
            exact hk
      · obtain ⟨rfl, hk⟩ := hk
        obtain ⟨c, hc, hk⟩ := hK _ _ hk
        have hKK := B.2.2.2.2.1
        match x, hc, hk with
        | 0, hc, hk =>
          cases (Option.some.inj hc)
          exact ⟨1, ⟨[], ⟨0, 17, 20, 22⟩, [⟨0, 17, 24, 13⟩], 4, 2, ht, (fun z hz => nomatch hz), by decide, by decide, hKK.1 (.classLink RL 22 "java/util/NoSuchElementException") (cb_tw (i := 780) (by decide +kernel)) rfl _, va_Nw.use (w := .castable "java/util/NoSuchElementException" "java/util/NoSuchElementException") rfl (hKK.2.1 _ (cb_tw (i := 791) (by decide +kernel)) rfl), Or.inr ⟨rfl, by decide +kernel⟩, by decide, ⟨1, by decide +kernel, rfl⟩, by decide +kernel⟩, hk⟩
        | x + 1, hc, hk =>
          cases (Option.some.inj hc)
          exact ⟨2, ⟨[⟨0, 17, 20, 22⟩], ⟨0, 17, 24, 13⟩, [], 4, 2, ht, (fun z hz => by
            cases List.mem_singleton.mp hz
            exact Or.inr ⟨by decide, cb_NSE, hKK.1 _ (cb_tw (i := 780) (by decide +kernel)) rfl _, hN⟩), by decide, by decide, hKK.1 (.classLink RL 13 "java/lang/IllegalArgumentException") (cb_tw (i := 543) (by decide +kernel)) rfl _, va_Nw.use (w := .castable "java/lang/IllegalArgumentException" "java/lang/IllegalArgumentException") rfl (hKK.2.1 _ (cb_tw (i := 553) (by decide +kernel)) rfl), Or.inr ⟨rfl, by decide +kernel⟩, by decide, ⟨2, by decide +kernel, rfl⟩, by decide +kernel⟩, hk⟩
def md_L_stays : cb_D := (RL, cL_stays, 6, (some .int), (4, 24, 9, 166), [
  (0, .aload 4, 2, 0, 4, 0, 0),
  (2, .iconst 0, 1, 0, 0, 0, 0),
  (3, .aload_n 0, 1, 0, 0, 0, 0),
  (4, .iload_n 1, 1, 0, 1, 0, 0),
  (5, .iload_n 2, 1, 0, 2, 0, 0),
  (6, .iload_n 3, 1, 0, 3, 0, 0),
  (10, .i2l, 1, 0, 0, 0, 0),
  (11, .lastore, 1, 0, 0, 0, 0),
  (12, .goto 11, 3, 0, 23, 0, 0),
  (15, .astore 5, 2, 0, 5, 0, 0),
  (17, .iconst 1, 1, 1, 0, 0, 0),
  (18, .ireturn, 1, 0, 0, 0, 0),
  (19, .astore 5, 2, 0, 5, 0, 0),
  (21, .iconst 2, 1, 2, 0, 0, 0),
  (22, .ireturn, 1, 0, 0, 0, 0),
  (23, .iconst 0, 1, 0, 0, 0, 0),
  (24, .ireturn, 1, 0, 0, 0, 0)],
  [], [])
set_option maxRecDepth 100000 in
theorem vd_L_stays : md_L_stays.cd.all (cb_vE md_L_stays) = true := by decide +kernel
theorem hc_L_stays (X : cb_X) (B : cb_Bs md_L_stays X) : cb_CS cb_tb md_L_stays X (0, 89, 4, 4, 24, pt_X9_stays) := cb_csV B ok_X9_stays wd_X9_stays (cb_tw (i := 1187) (by decide +kernel)) (cb_tw (i := 1188) (by decide +kernel)) (cb_tw (i := 1189) (by decide +kernel)) rc_X9_stays ⟨by decide, by decide⟩ (by decide +kernel)
abbrev hh_L_stays : List (Nat × Nat × Nat × Nat) := [(0, 12, 15, 22), (0, 12, 19, 13)]
theorem ok_L_stays : cb_MC yL_stays md_L_stays hh_L_stays (hl_pt false re_c2 3 sp_X9_stays) := by
  refine cb_ofc ⟨by decide, rfl⟩ (fun As a M K h => ?_) rfl rfl (by decide) (fun X As a M h B ht hN => ?_)
  · obtain ⟨r, n, f, K1, rfl, hr, hi, -⟩ := h
    match r, hr, hi with
    | [.inl x0, .inl x1, .inl x2], _, _ => exact (by decide : 5 ≤ 6)
  · obtain ⟨r, n, f, K1, rfl, hr, hi, rfl, h, hK⟩ := h
    match r, hr, hi, h with
    | [.inl x0, .inl x1, .inl x2], _, _, h =>
      refine cb_run cb_tb_ok vd_L_stays (cuts := [7]) 20 ?_
      refine ch_call (K := fun o a' M' => a' = cb_ae o (cb_aS n, f) ∧ K1 o M') (As := cb_r 0 0 :: [cb_i x0, cb_i x1, cb_i x2]) (st := [cb_i 0, cb_r 90 0]) (hc_L_stays X B) rfl (by decide) (by decide) (by decide) (by decide +kernel) rfl (hl_wm rfl rfl h) (fun v a' M' hk => ?_) (fun x a' M' hk => ?_)
      · obtain ⟨rfl, hk⟩ := hk
        have hk := hK _ _ hk
        match v, hk with
        | some (.inl v), hk =>
          refine cb_run cb_tb_ok vd_L_stays (cuts := []) 20 ?_
          exact And.intro vp01 (And.intro trivial hk)
      · obtain ⟨rfl, hk⟩ := hk
        obtain ⟨c, hc, hk⟩ := hK _ _ hk
        have hKK := B.2.2.2.2.1
        match x, hc, hk with
        | 0, hc, hk =>
          cases (Option.some.inj hc)
          exact ⟨1, ⟨[], ⟨0, 12, 15, 22⟩, [⟨0, 12, 19, 13⟩], 5, 2, ht, (fun z hz => nomatch hz), by decide, by decide, hKK.1 (.classLink RL 22 "java/util/NoSuchElementException") (cb_tw (i := 780) (by decide +kernel)) rfl _, va_Nw.use (w := .castable "java/util/NoSuchElementException" "java/util/NoSuchElementException") rfl (hKK.2.1 _ (cb_tw (i := 791) (by decide +kernel)) rfl), Or.inr ⟨rfl, by decide +kernel⟩, by decide, ⟨1, by decide +kernel, rfl⟩, by decide +kernel⟩, hk⟩
        | x + 1, hc, hk =>
          cases (Option.some.inj hc)
          exact ⟨2, ⟨[⟨0, 12, 15, 22⟩], ⟨0, 12, 19, 13⟩, [], 5, 2, ht, (fun z hz => by
            cases List.mem_singleton.mp hz
            exact Or.inr ⟨by decide, cb_NSE, hKK.1 _ (cb_tw (i := 780) (by decide +kernel)) rfl _, hN⟩), by decide, by decide, hKK.1 (.classLink RL 13 "java/lang/IllegalArgumentException") (cb_tw (i := 543) (by decide +kernel)) rfl _, va_Nw.use (w := .castable "java/lang/IllegalArgumentException" "java/lang/IllegalArgumentException") rfl (hKK.2.1 _ (cb_tw (i := 553) (by decide +kernel)) rfl), Or.inr ⟨rfl, by decide +kernel⟩, by decide, ⟨2, by decide +kernel, rfl⟩, by decide +kernel⟩, hk⟩
def md_L_drawn : cb_D := (RL, cL_drawn, 7, (some .int), (5, 30, 9, 167), [
  (0, .aload 5, 2, 0, 5, 0, 0),
  (2, .iconst 0, 1, 0, 0, 0, 0),
  (3, .aload_n 0, 1, 0, 0, 0, 0),
  (4, .iload_n 1, 1, 0, 1, 0, 0),
  (5, .iload_n 2, 1, 0, 2, 0, 0),
  (6, .iload_n 3, 1, 0, 3, 0, 0),
  (7, .iload 4, 2, 0, 4, 0, 0),
  (12, .i2l, 1, 0, 0, 0, 0),
  (13, .lastore, 1, 0, 0, 0, 0),
  (14, .goto 11, 3, 0, 25, 0, 0),
  (17, .astore 6, 2, 0, 6, 0, 0),
  (19, .iconst 1, 1, 1, 0, 0, 0),
  (20, .ireturn, 1, 0, 0, 0, 0),
  (21, .astore 6, 2, 0, 6, 0, 0),
  (23, .iconst 2, 1, 2, 0, 0, 0),
  (24, .ireturn, 1, 0, 0, 0, 0),
  (25, .iconst 0, 1, 0, 0, 0, 0),
  (26, .ireturn, 1, 0, 0, 0, 0)],
  [], [])
set_option maxRecDepth 100000 in
theorem vd_L_drawn : md_L_drawn.cd.all (cb_vE md_L_drawn) = true := by decide +kernel
theorem hc_L_drawn (X : cb_X) (B : cb_Bs md_L_drawn X) : cb_CS cb_tb md_L_drawn X (0, 92, 5, 5, 30, pt_X9_drawn) := cb_csV B ok_X9_drawn wd_X9_drawn (cb_tw (i := 1214) (by decide +kernel)) (cb_tw (i := 1215) (by decide +kernel)) (cb_tw (i := 1216) (by decide +kernel)) rc_X9_drawn ⟨by decide, by decide⟩ (by decide +kernel)
abbrev hh_L_drawn : List (Nat × Nat × Nat × Nat) := [(0, 14, 17, 22), (0, 14, 21, 13)]
theorem ok_L_drawn : cb_MC yL_drawn md_L_drawn hh_L_drawn (hl_pt false re_c2 4 sp_X9_drawn) := by
  refine cb_ofc ⟨by decide, rfl⟩ (fun As a M K h => ?_) rfl rfl (by decide) (fun X As a M h B ht hN => ?_)
  · obtain ⟨r, n, f, K1, rfl, hr, hi, -⟩ := h
    match r, hr, hi with
    | [.inl x0, .inl x1, .inl x2, .inl x3], _, _ => exact (by decide : 6 ≤ 7)
  · obtain ⟨r, n, f, K1, rfl, hr, hi, rfl, h, hK⟩ := h
    match r, hr, hi, h with
    | [.inl x0, .inl x1, .inl x2, .inl x3], _, _, h =>
      refine cb_run cb_tb_ok vd_L_drawn (cuts := [9]) 20 ?_
      refine ch_call (K := fun o a' M' => a' = cb_ae o (cb_aS n, f) ∧ K1 o M') (As := cb_r 0 0 :: [cb_i x0, cb_i x1, cb_i x2, cb_i x3]) (st := [cb_i 0, cb_r 90 0]) (hc_L_drawn X B) rfl (by decide) (by decide) (by decide) (by decide +kernel) rfl (hl_wm rfl rfl h) (fun v a' M' hk => ?_) (fun x a' M' hk => ?_)
      · obtain ⟨rfl, hk⟩ := hk
        have hk := hK _ _ hk
        match v, hk with
        | some (.inl v), hk =>
          refine cb_run cb_tb_ok vd_L_drawn (cuts := []) 20 ?_
          exact And.intro vp01 (And.intro trivial hk)
      · obtain ⟨rfl, hk⟩ := hk
        obtain ⟨c, hc, hk⟩ := hK _ _ hk
        have hKK := B.2.2.2.2.1
        match x, hc, hk with
        | 0, hc, hk =>
          cases (Option.some.inj hc)
          exact ⟨1, ⟨[], ⟨0, 14, 17, 22⟩, [⟨0, 14, 21, 13⟩], 6, 2, ht, (fun z hz => nomatch hz), by decide, by decide, hKK.1 (.classLink RL 22 "java/util/NoSuchElementException") (cb_tw (i := 780) (by decide +kernel)) rfl _, va_Nw.use (w := .castable "java/util/NoSuchElementException" "java/util/NoSuchElementException") rfl (hKK.2.1 _ (cb_tw (i := 791) (by decide +kernel)) rfl), Or.inr ⟨rfl, by decide +kernel⟩, by decide, ⟨1, by decide +kernel, rfl⟩, by decide +kernel⟩, hk⟩
        | x + 1, hc, hk =>
          cases (Option.some.inj hc)
          exact ⟨2, ⟨[⟨0, 14, 17, 22⟩], ⟨0, 14, 21, 13⟩, [], 6, 2, ht, (fun z hz => by
            cases List.mem_singleton.mp hz
            exact Or.inr ⟨by decide, cb_NSE, hKK.1 _ (cb_tw (i := 780) (by decide +kernel)) rfl _, hN⟩), by decide, by decide, hKK.1 (.classLink RL 13 "java/lang/IllegalArgumentException") (cb_tw (i := 543) (by decide +kernel)) rfl _, va_Nw.use (w := .castable "java/lang/IllegalArgumentException" "java/lang/IllegalArgumentException") rfl (hKK.2.1 _ (cb_tw (i := 553) (by decide +kernel)) rfl), Or.inr ⟨rfl, by decide +kernel⟩, by decide, ⟨2, by decide +kernel, rfl⟩, by decide +kernel⟩, hk⟩
def md_L_comes : cb_D := (RL, cL_comes, 7, (some .int), (5, 30, 9, 167), [
  (0, .aload 5, 2, 0, 5, 0, 0),
  (2, .iconst 0, 1, 0, 0, 0, 0),
  (3, .aload_n 0, 1, 0, 0, 0, 0),
  (4, .iload_n 1, 1, 0, 1, 0, 0),
  (5, .iload_n 2, 1, 0, 2, 0, 0),
  (6, .iload_n 3, 1, 0, 3, 0, 0),
  (7, .iload 4, 2, 0, 4, 0, 0),
  (12, .i2l, 1, 0, 0, 0, 0),
  (13, .lastore, 1, 0, 0, 0, 0),
  (14, .goto 11, 3, 0, 25, 0, 0),
  (17, .astore 6, 2, 0, 6, 0, 0),
  (19, .iconst 1, 1, 1, 0, 0, 0),
  (20, .ireturn, 1, 0, 0, 0, 0),
  (21, .astore 6, 2, 0, 6, 0, 0),
  (23, .iconst 2, 1, 2, 0, 0, 0),
  (24, .ireturn, 1, 0, 0, 0, 0),
  (25, .iconst 0, 1, 0, 0, 0, 0),
  (26, .ireturn, 1, 0, 0, 0, 0)],
  [], [])
set_option maxRecDepth 100000 in
theorem vd_L_comes : md_L_comes.cd.all (cb_vE md_L_comes) = true := by decide +kernel
theorem hc_L_comes (X : cb_X) (B : cb_Bs md_L_comes X) : cb_CS cb_tb md_L_comes X (0, 95, 5, 5, 30, pt_X9_comes) := cb_csV B ok_X9_comes wd_X9_comes (cb_tw (i := 1223) (by decide +kernel)) (cb_tw (i := 1224) (by decide +kernel)) (cb_tw (i := 1225) (by decide +kernel)) rc_X9_comes ⟨by decide, by decide⟩ (by decide +kernel)
abbrev hh_L_comes : List (Nat × Nat × Nat × Nat) := [(0, 14, 17, 22), (0, 14, 21, 13)]
theorem ok_L_comes : cb_MC yL_comes md_L_comes hh_L_comes (hl_pt false re_c2 4 sp_X9_comes) := by
  refine cb_ofc ⟨by decide, rfl⟩ (fun As a M K h => ?_) rfl rfl (by decide) (fun X As a M h B ht hN => ?_)
  · obtain ⟨r, n, f, K1, rfl, hr, hi, -⟩ := h
    match r, hr, hi with
    | [.inl x0, .inl x1, .inl x2, .inl x3], _, _ => exact (by decide : 6 ≤ 7)
  · obtain ⟨r, n, f, K1, rfl, hr, hi, rfl, h, hK⟩ := h
    match r, hr, hi, h with
    | [.inl x0, .inl x1, .inl x2, .inl x3], _, _, h =>
      refine cb_run cb_tb_ok vd_L_comes (cuts := [9]) 20 ?_
      refine ch_call (K := fun o a' M' => a' = cb_ae o (cb_aS n, f) ∧ K1 o M') (As := cb_r 0 0 :: [cb_i x0, cb_i x1, cb_i x2, cb_i x3]) (st := [cb_i 0, cb_r 90 0]) (hc_L_comes X B) rfl (by decide) (by decide) (by decide) (by decide +kernel) rfl (hl_wm rfl rfl h) (fun v a' M' hk => ?_) (fun x a' M' hk => ?_)
      · obtain ⟨rfl, hk⟩ := hk
        have hk := hK _ _ hk
        match v, hk with
        | some (.inl v), hk =>
          refine cb_run cb_tb_ok vd_L_comes (cuts := []) 20 ?_
          exact And.intro vp01 (And.intro trivial hk)
      · obtain ⟨rfl, hk⟩ := hk
        obtain ⟨c, hc, hk⟩ := hK _ _ hk
        have hKK := B.2.2.2.2.1
        match x, hc, hk with
        | 0, hc, hk =>
          cases (Option.some.inj hc)
          exact ⟨1, ⟨[], ⟨0, 14, 17, 22⟩, [⟨0, 14, 21, 13⟩], 6, 2, ht, (fun z hz => nomatch hz), by decide, by decide, hKK.1 (.classLink RL 22 "java/util/NoSuchElementException") (cb_tw (i := 780) (by decide +kernel)) rfl _, va_Nw.use (w := .castable "java/util/NoSuchElementException" "java/util/NoSuchElementException") rfl (hKK.2.1 _ (cb_tw (i := 791) (by decide +kernel)) rfl), Or.inr ⟨rfl, by decide +kernel⟩, by decide, ⟨1, by decide +kernel, rfl⟩, by decide +kernel⟩, hk⟩
        | x + 1, hc, hk =>
          cases (Option.some.inj hc)
          exact ⟨2, ⟨[⟨0, 14, 17, 22⟩], ⟨0, 14, 21, 13⟩, [], 6, 2, ht, (fun z hz => by
            cases List.mem_singleton.mp hz
            exact Or.inr ⟨by decide, cb_NSE, hKK.1 _ (cb_tw (i := 780) (by decide +kernel)) rfl _, hN⟩), by decide, by decide, hKK.1 (.classLink RL 13 "java/lang/IllegalArgumentException") (cb_tw (i := 543) (by decide +kernel)) rfl _, va_Nw.use (w := .castable "java/lang/IllegalArgumentException" "java/lang/IllegalArgumentException") rfl (hKK.2.1 _ (cb_tw (i := 553) (by decide +kernel)) rfl), Or.inr ⟨rfl, by decide +kernel⟩, by decide, ⟨2, by decide +kernel, rfl⟩, by decide +kernel⟩, hk⟩
def md_L_wanted : cb_D := (RL, cL_wanted, 7, (some .int), (4, 24, 9, 186), [
  (0, .aload 5, 2, 0, 5, 0, 0),
  (2, .iconst 0, 1, 0, 0, 0, 0),
  (3, .aload_n 0, 1, 0, 0, 0, 0),
  (4, .iload_n 1, 1, 0, 1, 0, 0),
  (5, .iload_n 2, 1, 0, 2, 0, 0),
  (6, .iload_n 3, 1, 0, 3, 0, 0),
  (7, .iload 4, 2, 0, 4, 0, 0),
  (12, .i2l, 1, 0, 0, 0, 0),
  (13, .lastore, 1, 0, 0, 0, 0),
  (14, .goto 11, 3, 0, 25, 0, 0),
  (17, .astore 6, 2, 0, 6, 0, 0),
  (19, .iconst 1, 1, 1, 0, 0, 0),
  (20, .ireturn, 1, 0, 0, 0, 0),
  (21, .astore 6, 2, 0, 6, 0, 0),
  (23, .iconst 2, 1, 2, 0, 0, 0),
  (24, .ireturn, 1, 0, 0, 0, 0),
  (25, .iconst 0, 1, 0, 0, 0, 0),
  (26, .ireturn, 1, 0, 0, 0, 0)],
  [], [])
set_option maxRecDepth 100000 in
theorem vd_L_wanted : md_L_wanted.cd.all (cb_vE md_L_wanted) = true := by decide +kernel
theorem hc_L_wanted (X : cb_X) (B : cb_Bs md_L_wanted X) : cb_CS cb_tb md_L_wanted X (0, 104, 5, 4, 24, pt_X9_wanted) := cb_csV B ok_X9_wanted wd_X9_wanted (cb_tw (i := 1264) (by decide +kernel)) (cb_tw (i := 1265) (by decide +kernel)) (cb_tw (i := 1266) (by decide +kernel)) rc_X9_wanted ⟨by decide, by decide⟩ (by decide +kernel)
abbrev hh_L_wanted : List (Nat × Nat × Nat × Nat) := [(0, 14, 17, 22), (0, 14, 21, 13)]
theorem ok_L_wanted : cb_MC yL_wanted md_L_wanted hh_L_wanted (hl_pt false re_c2 4 sp_X9_wanted) := by
  refine cb_ofc ⟨by decide, rfl⟩ (fun As a M K h => ?_) rfl rfl (by decide) (fun X As a M h B ht hN => ?_)
  · obtain ⟨r, n, f, K1, rfl, hr, hi, -⟩ := h
    match r, hr, hi with
    | [.inl x0, .inl x1, .inl x2, .inl x3], _, _ => exact (by decide : 6 ≤ 7)
  · obtain ⟨r, n, f, K1, rfl, hr, hi, rfl, h, hK⟩ := h
    match r, hr, hi, h with
    | [.inl x0, .inl x1, .inl x2, .inl x3], _, _, h =>
      refine cb_run cb_tb_ok vd_L_wanted (cuts := [9]) 20 ?_
      refine ch_call (K := fun o a' M' => a' = cb_ae o (cb_aS n, f) ∧ K1 o M') (As := cb_r 0 0 :: [cb_i x0, cb_i x1, cb_i x2, cb_i x3]) (st := [cb_i 0, cb_r 90 0]) (hc_L_wanted X B) rfl (by decide) (by decide) (by decide) (by decide +kernel) rfl (hl_wm rfl rfl h) (fun v a' M' hk => ?_) (fun x a' M' hk => ?_)
      · obtain ⟨rfl, hk⟩ := hk
        have hk := hK _ _ hk
        match v, hk with
        | some (.inl v), hk =>
          refine cb_run cb_tb_ok vd_L_wanted (cuts := []) 20 ?_
          exact And.intro vp01 (And.intro trivial hk)
      · obtain ⟨rfl, hk⟩ := hk
        obtain ⟨c, hc, hk⟩ := hK _ _ hk
        have hKK := B.2.2.2.2.1
        match x, hc, hk with
        | 0, hc, hk =>
          cases (Option.some.inj hc)
          exact ⟨1, ⟨[], ⟨0, 14, 17, 22⟩, [⟨0, 14, 21, 13⟩], 6, 2, ht, (fun z hz => nomatch hz), by decide, by decide, hKK.1 (.classLink RL 22 "java/util/NoSuchElementException") (cb_tw (i := 780) (by decide +kernel)) rfl _, va_Nw.use (w := .castable "java/util/NoSuchElementException" "java/util/NoSuchElementException") rfl (hKK.2.1 _ (cb_tw (i := 791) (by decide +kernel)) rfl), Or.inr ⟨rfl, by decide +kernel⟩, by decide, ⟨1, by decide +kernel, rfl⟩, by decide +kernel⟩, hk⟩
        | x + 1, hc, hk =>
          cases (Option.some.inj hc)
          exact ⟨2, ⟨[⟨0, 14, 17, 22⟩], ⟨0, 14, 21, 13⟩, [], 6, 2, ht, (fun z hz => by
            cases List.mem_singleton.mp hz
            exact Or.inr ⟨by decide, cb_NSE, hKK.1 _ (cb_tw (i := 780) (by decide +kernel)) rfl _, hN⟩), by decide, by decide, hKK.1 (.classLink RL 13 "java/lang/IllegalArgumentException") (cb_tw (i := 543) (by decide +kernel)) rfl _, va_Nw.use (w := .castable "java/lang/IllegalArgumentException" "java/lang/IllegalArgumentException") rfl (hKK.2.1 _ (cb_tw (i := 553) (by decide +kernel)) rfl), Or.inr ⟨rfl, by decide +kernel⟩, by decide, ⟨2, by decide +kernel, rfl⟩, by decide +kernel⟩, hk⟩
def md_L_sale : cb_D := (RL, cL_sale, 5, (some .int), (2, 12, 9, 164), [
  (0, .aload_n 3, 1, 0, 3, 0, 0),
  (1, .iconst 0, 1, 0, 0, 0, 0),
  (2, .aload_n 0, 1, 0, 0, 0, 0),
  (3, .iload_n 1, 1, 0, 1, 0, 0),
  (4, .iload_n 2, 1, 0, 2, 0, 0),
  (8, .i2l, 1, 0, 0, 0, 0),
  (9, .lastore, 1, 0, 0, 0, 0),
  (10, .goto 11, 3, 0, 21, 0, 0),
  (13, .astore 4, 2, 0, 4, 0, 0),
  (15, .iconst 1, 1, 1, 0, 0, 0),
  (16, .ireturn, 1, 0, 0, 0, 0),
  (17, .astore 4, 2, 0, 4, 0, 0),
  (19, .iconst 2, 1, 2, 0, 0, 0),
  (20, .ireturn, 1, 0, 0, 0, 0),
  (21, .iconst 0, 1, 0, 0, 0, 0),
  (22, .ireturn, 1, 0, 0, 0, 0)],
  [], [])
set_option maxRecDepth 100000 in
theorem vd_L_sale : md_L_sale.cd.all (cb_vE md_L_sale) = true := by decide +kernel
theorem hc_L_sale (X : cb_X) (B : cb_Bs md_L_sale X) : cb_CS cb_tb md_L_sale X (0, 107, 3, 2, 12, pt_X9_sale) := cb_csV B ok_X9_sale wd_X9_sale (cb_tw (i := 1276) (by decide +kernel)) (cb_tw (i := 1277) (by decide +kernel)) (cb_tw (i := 1278) (by decide +kernel)) rc_X9_sale ⟨by decide, by decide⟩ (by decide +kernel)
abbrev hh_L_sale : List (Nat × Nat × Nat × Nat) := [(0, 10, 13, 22), (0, 10, 17, 13)]
theorem ok_L_sale : cb_MC yL_sale md_L_sale hh_L_sale (hl_pt false re_c2 2 sp_X9_sale) := by
  refine cb_ofc ⟨by decide, rfl⟩ (fun As a M K h => ?_) rfl rfl (by decide) (fun X As a M h B ht hN => ?_)
  · obtain ⟨r, n, f, K1, rfl, hr, hi, -⟩ := h
    match r, hr, hi with
    | [.inl x0, .inl x1], _, _ => exact (by decide : 4 ≤ 5)
  · obtain ⟨r, n, f, K1, rfl, hr, hi, rfl, h, hK⟩ := h
    match r, hr, hi, h with
    | [.inl x0, .inl x1], _, _, h =>
      refine cb_run cb_tb_ok vd_L_sale (cuts := [5]) 20 ?_
      refine ch_call (K := fun o a' M' => a' = cb_ae o (cb_aS n, f) ∧ K1 o M') (As := cb_r 0 0 :: [cb_i x0, cb_i x1]) (st := [cb_i 0, cb_r 90 0]) (hc_L_sale X B) rfl (by decide) (by decide) (by decide) (by decide +kernel) rfl (hl_wm rfl rfl h) (fun v a' M' hk => ?_) (fun x a' M' hk => ?_)
      · obtain ⟨rfl, hk⟩ := hk
        have hk := hK _ _ hk
        match v, hk with
        | some (.inl v), hk =>
          refine cb_run cb_tb_ok vd_L_sale (cuts := []) 20 ?_
          exact And.intro vp01 (And.intro trivial hk)
      · obtain ⟨rfl, hk⟩ := hk
        obtain ⟨c, hc, hk⟩ := hK _ _ hk
        have hKK := B.2.2.2.2.1
        match x, hc, hk with
        | 0, hc, hk =>
          cases (Option.some.inj hc)
          exact ⟨1, ⟨[], ⟨0, 10, 13, 22⟩, [⟨0, 10, 17, 13⟩], 4, 2, ht, (fun z hz => nomatch hz), by decide, by decide, hKK.1 (.classLink RL 22 "java/util/NoSuchElementException") (cb_tw (i := 780) (by decide +kernel)) rfl _, va_Nw.use (w := .castable "java/util/NoSuchElementException" "java/util/NoSuchElementException") rfl (hKK.2.1 _ (cb_tw (i := 791) (by decide +kernel)) rfl), Or.inr ⟨rfl, by decide +kernel⟩, by decide, ⟨1, by decide +kernel, rfl⟩, by decide +kernel⟩, hk⟩
        | x + 1, hc, hk =>
          cases (Option.some.inj hc)
          exact ⟨2, ⟨[⟨0, 10, 13, 22⟩], ⟨0, 10, 17, 13⟩, [], 4, 2, ht, (fun z hz => by
            cases List.mem_singleton.mp hz
            exact Or.inr ⟨by decide, cb_NSE, hKK.1 _ (cb_tw (i := 780) (by decide +kernel)) rfl _, hN⟩), by decide, by decide, hKK.1 (.classLink RL 13 "java/lang/IllegalArgumentException") (cb_tw (i := 543) (by decide +kernel)) rfl _, va_Nw.use (w := .castable "java/lang/IllegalArgumentException" "java/lang/IllegalArgumentException") rfl (hKK.2.1 _ (cb_tw (i := 553) (by decide +kernel)) rfl), Or.inr ⟨rfl, by decide +kernel⟩, by decide, ⟨2, by decide +kernel, rfl⟩, by decide +kernel⟩, hk⟩
def md_L_winter : cb_D := (RL, cL_winter, 6, (some .int), (2, 12, 9, 165), [
  (0, .aload 4, 2, 0, 4, 0, 0),
  (2, .iconst 0, 1, 0, 0, 0, 0),
  (3, .aload_n 0, 1, 0, 0, 0, 0),
  (4, .iload_n 1, 1, 0, 1, 0, 0),
  (5, .iload_n 2, 1, 0, 2, 0, 0),
  (6, .iload_n 3, 1, 0, 3, 0, 0),
  (10, .i2l, 1, 0, 0, 0, 0),
  (11, .lastore, 1, 0, 0, 0, 0),
  (12, .goto 11, 3, 0, 23, 0, 0),
  (15, .astore 5, 2, 0, 5, 0, 0),
  (17, .iconst 1, 1, 1, 0, 0, 0),
  (18, .ireturn, 1, 0, 0, 0, 0),
  (19, .astore 5, 2, 0, 5, 0, 0),
  (21, .iconst 2, 1, 2, 0, 0, 0),
  (22, .ireturn, 1, 0, 0, 0, 0),
  (23, .iconst 0, 1, 0, 0, 0, 0),
  (24, .ireturn, 1, 0, 0, 0, 0)],
  [], [])
set_option maxRecDepth 100000 in
theorem vd_L_winter : md_L_winter.cd.all (cb_vE md_L_winter) = true := by decide +kernel
theorem hc_L_winter (X : cb_X) (B : cb_Bs md_L_winter X) : cb_CS cb_tb md_L_winter X (0, 113, 4, 2, 12, pt_X9_winter) := cb_csV B ok_X9_winter wd_X9_winter (cb_tw (i := 1303) (by decide +kernel)) (cb_tw (i := 1304) (by decide +kernel)) (cb_tw (i := 1305) (by decide +kernel)) rc_X9_winter ⟨by decide, by decide⟩ (by decide +kernel)
abbrev hh_L_winter : List (Nat × Nat × Nat × Nat) := [(0, 12, 15, 22), (0, 12, 19, 13)]
theorem ok_L_winter : cb_MC yL_winter md_L_winter hh_L_winter (hl_pt false re_c2 3 sp_X9_winter) := by
  refine cb_ofc ⟨by decide, rfl⟩ (fun As a M K h => ?_) rfl rfl (by decide) (fun X As a M h B ht hN => ?_)
  · obtain ⟨r, n, f, K1, rfl, hr, hi, -⟩ := h
    match r, hr, hi with
    | [.inl x0, .inl x1, .inl x2], _, _ => exact (by decide : 5 ≤ 6)
  · obtain ⟨r, n, f, K1, rfl, hr, hi, rfl, h, hK⟩ := h
    match r, hr, hi, h with
    | [.inl x0, .inl x1, .inl x2], _, _, h =>
      refine cb_run cb_tb_ok vd_L_winter (cuts := [7]) 20 ?_
      refine ch_call (K := fun o a' M' => a' = cb_ae o (cb_aS n, f) ∧ K1 o M') (As := cb_r 0 0 :: [cb_i x0, cb_i x1, cb_i x2]) (st := [cb_i 0, cb_r 90 0]) (hc_L_winter X B) rfl (by decide) (by decide) (by decide) (by decide +kernel) rfl (hl_wm rfl rfl h) (fun v a' M' hk => ?_) (fun x a' M' hk => ?_)
      · obtain ⟨rfl, hk⟩ := hk
        have hk := hK _ _ hk
        match v, hk with
        | some (.inl v), hk =>
          refine cb_run cb_tb_ok vd_L_winter (cuts := []) 20 ?_
          exact And.intro vp01 (And.intro trivial hk)
      · obtain ⟨rfl, hk⟩ := hk
        obtain ⟨c, hc, hk⟩ := hK _ _ hk
        have hKK := B.2.2.2.2.1
        match x, hc, hk with
        | 0, hc, hk =>
          cases (Option.some.inj hc)
          exact ⟨1, ⟨[], ⟨0, 12, 15, 22⟩, [⟨0, 12, 19, 13⟩], 5, 2, ht, (fun z hz => nomatch hz), by decide, by decide, hKK.1 (.classLink RL 22 "java/util/NoSuchElementException") (cb_tw (i := 780) (by decide +kernel)) rfl _, va_Nw.use (w := .castable "java/util/NoSuchElementException" "java/util/NoSuchElementException") rfl (hKK.2.1 _ (cb_tw (i := 791) (by decide +kernel)) rfl), Or.inr ⟨rfl, by decide +kernel⟩, by decide, ⟨1, by decide +kernel, rfl⟩, by decide +kernel⟩, hk⟩
        | x + 1, hc, hk =>
          cases (Option.some.inj hc)
          exact ⟨2, ⟨[⟨0, 12, 15, 22⟩], ⟨0, 12, 19, 13⟩, [], 5, 2, ht, (fun z hz => by
            cases List.mem_singleton.mp hz
            exact Or.inr ⟨by decide, cb_NSE, hKK.1 _ (cb_tw (i := 780) (by decide +kernel)) rfl _, hN⟩), by decide, by decide, hKK.1 (.classLink RL 13 "java/lang/IllegalArgumentException") (cb_tw (i := 543) (by decide +kernel)) rfl _, va_Nw.use (w := .castable "java/lang/IllegalArgumentException" "java/lang/IllegalArgumentException") rfl (hKK.2.1 _ (cb_tw (i := 553) (by decide +kernel)) rfl), Or.inr ⟨rfl, by decide +kernel⟩, by decide, ⟨2, by decide +kernel, rfl⟩, by decide +kernel⟩, hk⟩
def md_L_winters : cb_D := (RL, cL_winters, 7, (some .int), (3, 18, 9, 168), [
  (0, .aload 5, 2, 0, 5, 0, 0),
  (2, .iconst 0, 1, 0, 0, 0, 0),
  (3, .aload_n 0, 1, 0, 0, 0, 0),
  (4, .iload_n 1, 1, 0, 1, 0, 0),
  (5, .iload_n 2, 1, 0, 2, 0, 0),
  (6, .iload_n 3, 1, 0, 3, 0, 0),
  (7, .iload 4, 2, 0, 4, 0, 0),
  (12, .i2l, 1, 0, 0, 0, 0),
  (13, .lastore, 1, 0, 0, 0, 0),
  (14, .goto 11, 3, 0, 25, 0, 0),
  (17, .astore 6, 2, 0, 6, 0, 0),
  (19, .iconst 1, 1, 1, 0, 0, 0),
  (20, .ireturn, 1, 0, 0, 0, 0),
  (21, .astore 6, 2, 0, 6, 0, 0),
  (23, .iconst 2, 1, 2, 0, 0, 0),
  (24, .ireturn, 1, 0, 0, 0, 0),
  (25, .iconst 0, 1, 0, 0, 0, 0),
  (26, .ireturn, 1, 0, 0, 0, 0)],
  [], [])
set_option maxRecDepth 100000 in
theorem vd_L_winters : md_L_winters.cd.all (cb_vE md_L_winters) = true := by decide +kernel
theorem hc_L_winters (X : cb_X) (B : cb_Bs md_L_winters X) : cb_CS cb_tb md_L_winters X (0, 116, 5, 3, 18, pt_X9_winters) := cb_csV B ok_X9_winters wd_X9_winters (cb_tw (i := 1315) (by decide +kernel)) (cb_tw (i := 1316) (by decide +kernel)) (cb_tw (i := 1317) (by decide +kernel)) rc_X9_winters ⟨by decide, by decide⟩ (by decide +kernel)
abbrev hh_L_winters : List (Nat × Nat × Nat × Nat) := [(0, 14, 17, 22), (0, 14, 21, 13)]
theorem ok_L_winters : cb_MC yL_winters md_L_winters hh_L_winters (hl_pt false re_c2 4 sp_X9_winters) := by
  refine cb_ofc ⟨by decide, rfl⟩ (fun As a M K h => ?_) rfl rfl (by decide) (fun X As a M h B ht hN => ?_)
  · obtain ⟨r, n, f, K1, rfl, hr, hi, -⟩ := h
    match r, hr, hi with
    | [.inl x0, .inl x1, .inl x2, .inl x3], _, _ => exact (by decide : 6 ≤ 7)
  · obtain ⟨r, n, f, K1, rfl, hr, hi, rfl, h, hK⟩ := h
    match r, hr, hi, h with
    | [.inl x0, .inl x1, .inl x2, .inl x3], _, _, h =>
      refine cb_run cb_tb_ok vd_L_winters (cuts := [9]) 20 ?_
      refine ch_call (K := fun o a' M' => a' = cb_ae o (cb_aS n, f) ∧ K1 o M') (As := cb_r 0 0 :: [cb_i x0, cb_i x1, cb_i x2, cb_i x3]) (st := [cb_i 0, cb_r 90 0]) (hc_L_winters X B) rfl (by decide) (by decide) (by decide) (by decide +kernel) rfl (hl_wm rfl rfl h) (fun v a' M' hk => ?_) (fun x a' M' hk => ?_)
      · obtain ⟨rfl, hk⟩ := hk
        have hk := hK _ _ hk
        match v, hk with
        | some (.inl v), hk =>
          refine cb_run cb_tb_ok vd_L_winters (cuts := []) 20 ?_
          exact And.intro vp01 (And.intro trivial hk)
      · obtain ⟨rfl, hk⟩ := hk
        obtain ⟨c, hc, hk⟩ := hK _ _ hk
        have hKK := B.2.2.2.2.1
        match x, hc, hk with
        | 0, hc, hk =>
          cases (Option.some.inj hc)
          exact ⟨1, ⟨[], ⟨0, 14, 17, 22⟩, [⟨0, 14, 21, 13⟩], 6, 2, ht, (fun z hz => nomatch hz), by decide, by decide, hKK.1 (.classLink RL 22 "java/util/NoSuchElementException") (cb_tw (i := 780) (by decide +kernel)) rfl _, va_Nw.use (w := .castable "java/util/NoSuchElementException" "java/util/NoSuchElementException") rfl (hKK.2.1 _ (cb_tw (i := 791) (by decide +kernel)) rfl), Or.inr ⟨rfl, by decide +kernel⟩, by decide, ⟨1, by decide +kernel, rfl⟩, by decide +kernel⟩, hk⟩
        | x + 1, hc, hk =>
          cases (Option.some.inj hc)
          exact ⟨2, ⟨[⟨0, 14, 17, 22⟩], ⟨0, 14, 21, 13⟩, [], 6, 2, ht, (fun z hz => by
            cases List.mem_singleton.mp hz
            exact Or.inr ⟨by decide, cb_NSE, hKK.1 _ (cb_tw (i := 780) (by decide +kernel)) rfl _, hN⟩), by decide, by decide, hKK.1 (.classLink RL 13 "java/lang/IllegalArgumentException") (cb_tw (i := 543) (by decide +kernel)) rfl _, va_Nw.use (w := .castable "java/lang/IllegalArgumentException" "java/lang/IllegalArgumentException") rfl (hKK.2.1 _ (cb_tw (i := 553) (by decide +kernel)) rfl), Or.inr ⟨rfl, by decide +kernel⟩, by decide, ⟨2, by decide +kernel, rfl⟩, by decide +kernel⟩, hk⟩
def md_L_pull : cb_D := (RL, cL_pull, 4, (some .int), (1, 6, 8, 156), [
  (0, .aload_n 2, 1, 0, 2, 0, 0),
  (1, .iconst 0, 1, 0, 0, 0, 0),
  (2, .aload_n 0, 1, 0, 0, 0, 0),
  (3, .iload_n 1, 1, 0, 1, 0, 0),
  (7, .i2l, 1, 0, 0, 0, 0),
  (8, .lastore, 1, 0, 0, 0, 0),
  (9, .goto 6, 3, 0, 15, 0, 0),
  (12, .astore_n 3, 1, 0, 3, 0, 0),
  (13, .iconst 1, 1, 1, 0, 0, 0),
  (14, .ireturn, 1, 0, 0, 0, 0),
  (15, .iconst 0, 1, 0, 0, 0, 0),
  (16, .ireturn, 1, 0, 0, 0, 0)],
  [], [])
set_option maxRecDepth 100000 in
theorem vd_L_pull : md_L_pull.cd.all (cb_vE md_L_pull) = true := by decide +kernel
theorem hc_L_pull (X : cb_X) (B : cb_Bs md_L_pull X) : cb_CS cb_tb md_L_pull X (0, 30, 2, 1, 6, pt_X9_pull) := cb_csV B ok_X9_pull wd_X9_pull (cb_tw (i := 847) (by decide +kernel)) (cb_tw (i := 848) (by decide +kernel)) (cb_tw (i := 849) (by decide +kernel)) rc_X9_pull ⟨by decide, by decide⟩ (by decide +kernel)
abbrev hh_L_pull : List (Nat × Nat × Nat × Nat) := [(0, 9, 12, 22)]
theorem ok_L_pull : cb_MC yL_pull md_L_pull hh_L_pull (hl_pt false re_cN 1 sp_X9_pull) := by
  refine cb_ofc ⟨by decide, rfl⟩ (fun As a M K h => ?_) rfl rfl (by decide) (fun X As a M h B ht hN => ?_)
  · obtain ⟨r, n, f, K1, rfl, hr, hi, -⟩ := h
    match r, hr, hi with
    | [.inl x0], _, _ => exact (by decide : 3 ≤ 4)
  · obtain ⟨r, n, f, K1, rfl, hr, hi, rfl, h, hK⟩ := h
    match r, hr, hi, h with
    | [.inl x0], _, _, h =>
      refine cb_run cb_tb_ok vd_L_pull (cuts := [4]) 20 ?_
      refine ch_call (K := fun o a' M' => a' = cb_ae o (cb_aS n, f) ∧ K1 o M') (As := cb_r 0 0 :: [cb_i x0]) (st := [cb_i 0, cb_r 90 0]) (hc_L_pull X B) rfl (by decide) (by decide) (by decide) (by decide +kernel) rfl (hl_wm rfl rfl h) (fun v a' M' hk => ?_) (fun x a' M' hk => ?_)
      · obtain ⟨rfl, hk⟩ := hk
        have hk := hK _ _ hk
        match v, hk with
        | some (.inl v), hk =>
          refine cb_run cb_tb_ok vd_L_pull (cuts := []) 20 ?_
          exact And.intro vp01 (And.intro trivial hk)
      · obtain ⟨rfl, hk⟩ := hk
        obtain ⟨c, hc, hk⟩ := hK _ _ hk
        have hKK := B.2.2.2.2.1
        match x, hc, hk with
        | 0, hc, hk =>
          cases (Option.some.inj hc)
          exact ⟨1, ⟨[], ⟨0, 9, 12, 22⟩, [], 3, 1, ht, (fun z hz => nomatch hz), by decide, by decide, hKK.1 (.classLink RL 22 "java/util/NoSuchElementException") (cb_tw (i := 780) (by decide +kernel)) rfl _, va_Nw.use (w := .castable "java/util/NoSuchElementException" "java/util/NoSuchElementException") rfl (hKK.2.1 _ (cb_tw (i := 791) (by decide +kernel)) rfl), Or.inl ⟨rfl, 3, rfl, by decide +kernel⟩, by decide, ⟨1, by decide +kernel, rfl⟩, by decide +kernel⟩, hk⟩
        | x + 1, hc, hk => cases hc
def md_L_hang : cb_D := (RL, cL_hang, 5, (some .int), (2, 12, 8, 143), [
  (0, .aload_n 3, 1, 0, 3, 0, 0),
  (1, .iconst 0, 1, 0, 0, 0, 0),
  (2, .aload_n 0, 1, 0, 0, 0, 0),
  (3, .iload_n 1, 1, 0, 1, 0, 0),
  (4, .iload_n 2, 1, 0, 2, 0, 0),
  (8, .i2l, 1, 0, 0, 0, 0),
  (9, .lastore, 1, 0, 0, 0, 0),
  (10, .goto 7, 3, 0, 17, 0, 0),
  (13, .astore 4, 2, 0, 4, 0, 0),
  (15, .iconst 1, 1, 1, 0, 0, 0),
  (16, .ireturn, 1, 0, 0, 0, 0),
  (17, .iconst 0, 1, 0, 0, 0, 0),
  (18, .ireturn, 1, 0, 0, 0, 0)],
  [], [])
set_option maxRecDepth 100000 in
theorem vd_L_hang : md_L_hang.cd.all (cb_vE md_L_hang) = true := by decide +kernel
theorem hc_L_hang (X : cb_X) (B : cb_Bs md_L_hang X) : cb_CS cb_tb md_L_hang X (0, 45, 3, 2, 12, pt_X9_hang) := cb_csV B ok_X9_hang wd_X9_hang (cb_tw (i := 943) (by decide +kernel)) (cb_tw (i := 944) (by decide +kernel)) (cb_tw (i := 945) (by decide +kernel)) rc_X9_hang ⟨by decide, by decide⟩ (by decide +kernel)
abbrev hh_L_hang : List (Nat × Nat × Nat × Nat) := [(0, 10, 13, 22)]
theorem ok_L_hang : cb_MC yL_hang md_L_hang hh_L_hang (hl_pt false re_cN 2 sp_X9_hang) := by
  refine cb_ofc ⟨by decide, rfl⟩ (fun As a M K h => ?_) rfl rfl (by decide) (fun X As a M h B ht hN => ?_)
  · obtain ⟨r, n, f, K1, rfl, hr, hi, -⟩ := h
    match r, hr, hi with
    | [.inl x0, .inl x1], _, _ => exact (by decide : 4 ≤ 5)
  · obtain ⟨r, n, f, K1, rfl, hr, hi, rfl, h, hK⟩ := h
    match r, hr, hi, h with
    | [.inl x0, .inl x1], _, _, h =>
      refine cb_run cb_tb_ok vd_L_hang (cuts := [5]) 20 ?_
      refine ch_call (K := fun o a' M' => a' = cb_ae o (cb_aS n, f) ∧ K1 o M') (As := cb_r 0 0 :: [cb_i x0, cb_i x1]) (st := [cb_i 0, cb_r 90 0]) (hc_L_hang X B) rfl (by decide) (by decide) (by decide) (by decide +kernel) rfl (hl_wm rfl rfl h) (fun v a' M' hk => ?_) (fun x a' M' hk => ?_)
      · obtain ⟨rfl, hk⟩ := hk
        have hk := hK _ _ hk
        match v, hk with
        | some (.inl v), hk =>
          refine cb_run cb_tb_ok vd_L_hang (cuts := []) 20 ?_
          exact And.intro vp01 (And.intro trivial hk)
      · obtain ⟨rfl, hk⟩ := hk
        obtain ⟨c, hc, hk⟩ := hK _ _ hk
        have hKK := B.2.2.2.2.1
        match x, hc, hk with
        | 0, hc, hk =>
          cases (Option.some.inj hc)
          exact ⟨1, ⟨[], ⟨0, 10, 13, 22⟩, [], 4, 2, ht, (fun z hz => nomatch hz), by decide, by decide, hKK.1 (.classLink RL 22 "java/util/NoSuchElementException") (cb_tw (i := 780) (by decide +kernel)) rfl _, va_Nw.use (w := .castable "java/util/NoSuchElementException" "java/util/NoSuchElementException") rfl (hKK.2.1 _ (cb_tw (i := 791) (by decide +kernel)) rfl), Or.inr ⟨rfl, by decide +kernel⟩, by decide, ⟨1, by decide +kernel, rfl⟩, by decide +kernel⟩, hk⟩
        | x + 1, hc, hk => cases hc
def md_L_wall : cb_D := (RL, cL_wall, 4, (some .int), (1, 6, 9, 202), [
  (0, .aload_n 2, 1, 0, 2, 0, 0),
  (1, .iconst 0, 1, 0, 0, 0, 0),
  (2, .aload_n 0, 1, 0, 0, 0, 0),
  (3, .iload_n 1, 1, 0, 1, 0, 0),
  (7, .i2l, 1, 0, 0, 0, 0),
  (8, .lastore, 1, 0, 0, 0, 0),
  (9, .goto 6, 3, 0, 15, 0, 0),
  (12, .astore_n 3, 1, 0, 3, 0, 0),
  (13, .iconst 1, 1, 1, 0, 0, 0),
  (14, .ireturn, 1, 0, 0, 0, 0),
  (15, .iconst 0, 1, 0, 0, 0, 0),
  (16, .ireturn, 1, 0, 0, 0, 0)],
  [], [])
set_option maxRecDepth 100000 in
theorem vd_L_wall : md_L_wall.cd.all (cb_vE md_L_wall) = true := by decide +kernel
theorem hc_L_wall (X : cb_X) (B : cb_Bs md_L_wall X) : cb_CS cb_tb md_L_wall X (0, 7, 2, 1, 6, pt_X9_wall) := cb_csV B ok_X9_wall wd_X9_wall (cb_tw (i := 544) (by decide +kernel)) (cb_tw (i := 545) (by decide +kernel)) (cb_tw (i := 546) (by decide +kernel)) rc_X9_wall ⟨by decide, by decide⟩ (by decide +kernel)
abbrev hh_L_wall : List (Nat × Nat × Nat × Nat) := [(0, 9, 12, 13)]
theorem ok_L_wall : cb_MC yL_wall md_L_wall hh_L_wall (hl_pt false re_cI 1 sp_X9_wall) := by
  refine cb_ofc ⟨by decide, rfl⟩ (fun As a M K h => ?_) rfl rfl (by decide) (fun X As a M h B ht hN => ?_)
  · obtain ⟨r, n, f, K1, rfl, hr, hi, -⟩ := h
    match r, hr, hi with
    | [.inl x0], _, _ => exact (by decide : 3 ≤ 4)
  · obtain ⟨r, n, f, K1, rfl, hr, hi, rfl, h, hK⟩ := h
    match r, hr, hi, h with
    | [.inl x0], _, _, h =>
      refine cb_run cb_tb_ok vd_L_wall (cuts := [4]) 20 ?_
      refine ch_call (K := fun o a' M' => a' = cb_ae o (cb_aS n, f) ∧ K1 o M') (As := cb_r 0 0 :: [cb_i x0]) (st := [cb_i 0, cb_r 90 0]) (hc_L_wall X B) rfl (by decide) (by decide) (by decide) (by decide +kernel) rfl (hl_wm rfl rfl h) (fun v a' M' hk => ?_) (fun x a' M' hk => ?_)
      · obtain ⟨rfl, hk⟩ := hk
        have hk := hK _ _ hk
        match v, hk with
        | some (.inl v), hk =>
          refine cb_run cb_tb_ok vd_L_wall (cuts := []) 20 ?_
          exact And.intro vp01 (And.intro trivial hk)
      · obtain ⟨rfl, hk⟩ := hk
        obtain ⟨c, hc, hk⟩ := hK _ _ hk
        have hKK := B.2.2.2.2.1
        match x, hc, hk with
        | 0, hc, hk => cases hc
        | x + 1, hc, hk =>
          cases (Option.some.inj hc)
          exact ⟨1, ⟨[], ⟨0, 9, 12, 13⟩, [], 3, 1, ht, (fun z hz => nomatch hz), by decide, by decide, hKK.1 (.classLink RL 13 "java/lang/IllegalArgumentException") (cb_tw (i := 543) (by decide +kernel)) rfl _, va_Nw.use (w := .castable "java/lang/IllegalArgumentException" "java/lang/IllegalArgumentException") rfl (hKK.2.1 _ (cb_tw (i := 553) (by decide +kernel)) rfl), Or.inl ⟨rfl, 3, rfl, by decide +kernel⟩, by decide, ⟨1, by decide +kernel, rfl⟩, by decide +kernel⟩, hk⟩
def md_L_told : cb_D := (RL, cL_told, 4, (some .int), (1, 6, 8, 143), [
  (0, .aload_n 2, 1, 0, 2, 0, 0),
  (1, .iconst 0, 1, 0, 0, 0, 0),
  (2, .aload_n 0, 1, 0, 0, 0, 0),
  (3, .iload_n 1, 1, 0, 1, 0, 0),
  (7, .i2l, 1, 0, 0, 0, 0),
  (8, .lastore, 1, 0, 0, 0, 0),
  (9, .goto 6, 3, 0, 15, 0, 0),
  (12, .astore_n 3, 1, 0, 3, 0, 0),
  (13, .iconst 1, 1, 1, 0, 0, 0),
  (14, .ireturn, 1, 0, 0, 0, 0),
  (15, .iconst 0, 1, 0, 0, 0, 0),
  (16, .ireturn, 1, 0, 0, 0, 0)],
  [], [])
set_option maxRecDepth 100000 in
theorem vd_L_told : md_L_told.cd.all (cb_vE md_L_told) = true := by decide +kernel
theorem hc_L_told (X : cb_X) (B : cb_Bs md_L_told X) : cb_CS cb_tb md_L_told X (0, 15, 2, 1, 6, pt_X9_told) := cb_csV B ok_X9_told wd_X9_told (cb_tw (i := 773) (by decide +kernel)) (cb_tw (i := 774) (by decide +kernel)) (cb_tw (i := 775) (by decide +kernel)) rc_X9_told ⟨by decide, by decide⟩ (by decide +kernel)
abbrev hh_L_told : List (Nat × Nat × Nat × Nat) := [(0, 9, 12, 13)]
theorem ok_L_told : cb_MC yL_told md_L_told hh_L_told (hl_pt false re_cI 1 sp_X9_told) := by
  refine cb_ofc ⟨by decide, rfl⟩ (fun As a M K h => ?_) rfl rfl (by decide) (fun X As a M h B ht hN => ?_)
  · obtain ⟨r, n, f, K1, rfl, hr, hi, -⟩ := h
    match r, hr, hi with
    | [.inl x0], _, _ => exact (by decide : 3 ≤ 4)
  · obtain ⟨r, n, f, K1, rfl, hr, hi, rfl, h, hK⟩ := h
    match r, hr, hi, h with
    | [.inl x0], _, _, h =>
      refine cb_run cb_tb_ok vd_L_told (cuts := [4]) 20 ?_
      refine ch_call (K := fun o a' M' => a' = cb_ae o (cb_aS n, f) ∧ K1 o M') (As := cb_r 0 0 :: [cb_i x0]) (st := [cb_i 0, cb_r 90 0]) (hc_L_told X B) rfl (by decide) (by decide) (by decide) (by decide +kernel) rfl (hl_wm rfl rfl h) (fun v a' M' hk => ?_) (fun x a' M' hk => ?_)
      · obtain ⟨rfl, hk⟩ := hk
        have hk := hK _ _ hk
        match v, hk with
        | some (.inl v), hk =>
          refine cb_run cb_tb_ok vd_L_told (cuts := []) 20 ?_
          exact And.intro vp01 (And.intro trivial hk)
      · obtain ⟨rfl, hk⟩ := hk
        obtain ⟨c, hc, hk⟩ := hK _ _ hk
        have hKK := B.2.2.2.2.1
        match x, hc, hk with
        | 0, hc, hk => cases hc
        | x + 1, hc, hk =>
          cases (Option.some.inj hc)
          exact ⟨1, ⟨[], ⟨0, 9, 12, 13⟩, [], 3, 1, ht, (fun z hz => nomatch hz), by decide, by decide, hKK.1 (.classLink RL 13 "java/lang/IllegalArgumentException") (cb_tw (i := 543) (by decide +kernel)) rfl _, va_Nw.use (w := .castable "java/lang/IllegalArgumentException" "java/lang/IllegalArgumentException") rfl (hKK.2.1 _ (cb_tw (i := 553) (by decide +kernel)) rfl), Or.inl ⟨rfl, 3, rfl, by decide +kernel⟩, by decide, ⟨1, by decide +kernel, rfl⟩, by decide +kernel⟩, hk⟩
def md_L_days : cb_D := (RL, cL_days, 4, (some .int), (1, 6, 8, 158), [
  (0, .aload_n 2, 1, 0, 2, 0, 0),
  (1, .iconst 0, 1, 0, 0, 0, 0),
  (2, .aload_n 0, 1, 0, 0, 0, 0),
  (3, .iload_n 1, 1, 0, 1, 0, 0),
  (7, .i2l, 1, 0, 0, 0, 0),
  (8, .lastore, 1, 0, 0, 0, 0),
  (9, .goto 6, 3, 0, 15, 0, 0),
  (12, .astore_n 3, 1, 0, 3, 0, 0),
  (13, .iconst 1, 1, 1, 0, 0, 0),
  (14, .ireturn, 1, 0, 0, 0, 0),
  (15, .iconst 0, 1, 0, 0, 0, 0),
  (16, .ireturn, 1, 0, 0, 0, 0)],
  [], [])
set_option maxRecDepth 100000 in
theorem vd_L_days : md_L_days.cd.all (cb_vE md_L_days) = true := by decide +kernel
theorem hc_L_days (X : cb_X) (B : cb_Bs md_L_days X) : cb_CS cb_tb md_L_days X (0, 33, 2, 1, 6, pt_X9_days) := cb_csV B ok_X9_days wd_X9_days (cb_tw (i := 882) (by decide +kernel)) (cb_tw (i := 883) (by decide +kernel)) (cb_tw (i := 884) (by decide +kernel)) rc_X9_days ⟨by decide, by decide⟩ (by decide +kernel)
abbrev hh_L_days : List (Nat × Nat × Nat × Nat) := [(0, 9, 12, 13)]
theorem ok_L_days : cb_MC yL_days md_L_days hh_L_days (hl_pt false re_cI 1 sp_X9_days) := by
  refine cb_ofc ⟨by decide, rfl⟩ (fun As a M K h => ?_) rfl rfl (by decide) (fun X As a M h B ht hN => ?_)
  · obtain ⟨r, n, f, K1, rfl, hr, hi, -⟩ := h
    match r, hr, hi with
    | [.inl x0], _, _ => exact (by decide : 3 ≤ 4)
  · obtain ⟨r, n, f, K1, rfl, hr, hi, rfl, h, hK⟩ := h
    match r, hr, hi, h with
    | [.inl x0], _, _, h =>
      refine cb_run cb_tb_ok vd_L_days (cuts := [4]) 20 ?_
      refine ch_call (K := fun o a' M' => a' = cb_ae o (cb_aS n, f) ∧ K1 o M') (As := cb_r 0 0 :: [cb_i x0]) (st := [cb_i 0, cb_r 90 0]) (hc_L_days X B) rfl (by decide) (by decide) (by decide) (by decide +kernel) rfl (hl_wm rfl rfl h) (fun v a' M' hk => ?_) (fun x a' M' hk => ?_)
      · obtain ⟨rfl, hk⟩ := hk
        have hk := hK _ _ hk
        match v, hk with
        | some (.inl v), hk =>
          refine cb_run cb_tb_ok vd_L_days (cuts := []) 20 ?_
          exact And.intro vp01 (And.intro trivial hk)
      · obtain ⟨rfl, hk⟩ := hk
        obtain ⟨c, hc, hk⟩ := hK _ _ hk
        have hKK := B.2.2.2.2.1
        match x, hc, hk with
        | 0, hc, hk => cases hc
        | x + 1, hc, hk =>
          cases (Option.some.inj hc)
          exact ⟨1, ⟨[], ⟨0, 9, 12, 13⟩, [], 3, 1, ht, (fun z hz => nomatch hz), by decide, by decide, hKK.1 (.classLink RL 13 "java/lang/IllegalArgumentException") (cb_tw (i := 543) (by decide +kernel)) rfl _, va_Nw.use (w := .castable "java/lang/IllegalArgumentException" "java/lang/IllegalArgumentException") rfl (hKK.2.1 _ (cb_tw (i := 553) (by decide +kernel)) rfl), Or.inl ⟨rfl, 3, rfl, by decide +kernel⟩, by decide, ⟨1, by decide +kernel, rfl⟩, by decide +kernel⟩, hk⟩
def md_L_undo : cb_D := (RL, cL_undo, 4, (some .int), (1, 6, 8, 144), [
  (0, .aload_n 2, 1, 0, 2, 0, 0),
  (1, .iconst 0, 1, 0, 0, 0, 0),
  (2, .aload_n 0, 1, 0, 0, 0, 0),
  (3, .iload_n 1, 1, 0, 1, 0, 0),
  (7, .i2l, 1, 0, 0, 0, 0),
  (8, .lastore, 1, 0, 0, 0, 0),
  (9, .goto 6, 3, 0, 15, 0, 0),
  (12, .astore_n 3, 1, 0, 3, 0, 0),
  (13, .iconst 1, 1, 1, 0, 0, 0),
  (14, .ireturn, 1, 0, 0, 0, 0),
  (15, .iconst 0, 1, 0, 0, 0, 0),
  (16, .ireturn, 1, 0, 0, 0, 0)],
  [], [])
set_option maxRecDepth 100000 in
theorem vd_L_undo : md_L_undo.cd.all (cb_vE md_L_undo) = true := by decide +kernel
theorem hc_L_undo (X : cb_X) (B : cb_Bs md_L_undo X) : cb_CS cb_tb md_L_undo X (0, 36, 2, 1, 6, pt_X9_undo) := cb_csV B ok_X9_undo wd_X9_undo (cb_tw (i := 915) (by decide +kernel)) (cb_tw (i := 916) (by decide +kernel)) (cb_tw (i := 917) (by decide +kernel)) rc_X9_undo ⟨by decide, by decide⟩ (by decide +kernel)
abbrev hh_L_undo : List (Nat × Nat × Nat × Nat) := [(0, 9, 12, 13)]
theorem ok_L_undo : cb_MC yL_undo md_L_undo hh_L_undo (hl_pt false re_cI 1 sp_X9_undo) := by
  refine cb_ofc ⟨by decide, rfl⟩ (fun As a M K h => ?_) rfl rfl (by decide) (fun X As a M h B ht hN => ?_)
  · obtain ⟨r, n, f, K1, rfl, hr, hi, -⟩ := h
    match r, hr, hi with
    | [.inl x0], _, _ => exact (by decide : 3 ≤ 4)
  · obtain ⟨r, n, f, K1, rfl, hr, hi, rfl, h, hK⟩ := h
    match r, hr, hi, h with
    | [.inl x0], _, _, h =>
      refine cb_run cb_tb_ok vd_L_undo (cuts := [4]) 20 ?_
      refine ch_call (K := fun o a' M' => a' = cb_ae o (cb_aS n, f) ∧ K1 o M') (As := cb_r 0 0 :: [cb_i x0]) (st := [cb_i 0, cb_r 90 0]) (hc_L_undo X B) rfl (by decide) (by decide) (by decide) (by decide +kernel) rfl (hl_wm rfl rfl h) (fun v a' M' hk => ?_) (fun x a' M' hk => ?_)
      · obtain ⟨rfl, hk⟩ := hk
        have hk := hK _ _ hk
        match v, hk with
        | some (.inl v), hk =>
          refine cb_run cb_tb_ok vd_L_undo (cuts := []) 20 ?_
          exact And.intro vp01 (And.intro trivial hk)
      · obtain ⟨rfl, hk⟩ := hk
        obtain ⟨c, hc, hk⟩ := hK _ _ hk
        have hKK := B.2.2.2.2.1
        match x, hc, hk with
        | 0, hc, hk => cases hc
        | x + 1, hc, hk =>
          cases (Option.some.inj hc)
          exact ⟨1, ⟨[], ⟨0, 9, 12, 13⟩, [], 3, 1, ht, (fun z hz => nomatch hz), by decide, by decide, hKK.1 (.classLink RL 13 "java/lang/IllegalArgumentException") (cb_tw (i := 543) (by decide +kernel)) rfl _, va_Nw.use (w := .castable "java/lang/IllegalArgumentException" "java/lang/IllegalArgumentException") rfl (hKK.2.1 _ (cb_tw (i := 553) (by decide +kernel)) rfl), Or.inl ⟨rfl, 3, rfl, by decide +kernel⟩, by decide, ⟨1, by decide +kernel, rfl⟩, by decide +kernel⟩, hk⟩
def md_L_standing : cb_D := (RL, cL_standing, 4, (some .int), (1, 6, 9, 166), [
  (0, .aload_n 2, 1, 0, 2, 0, 0),
  (1, .iconst 0, 1, 0, 0, 0, 0),
  (2, .aload_n 0, 1, 0, 0, 0, 0),
  (3, .iload_n 1, 1, 0, 1, 0, 0),
  (7, .ifCond .eq 7, 3, 0, 14, 0, 0),
  (10, .lconst 1, 1, 0, 0, 0, 0),
  (11, .goto 4, 3, 0, 15, 0, 0),
  (14, .lconst 0, 1, 0, 0, 0, 0),
  (15, .lastore, 1, 0, 0, 0, 0),
  (16, .goto 6, 3, 0, 22, 0, 0),
  (19, .astore_n 3, 1, 0, 3, 0, 0),
  (20, .iconst 1, 1, 1, 0, 0, 0),
  (21, .ireturn, 1, 0, 0, 0, 0),
  (22, .iconst 0, 1, 0, 0, 0, 0),
  (23, .ireturn, 1, 0, 0, 0, 0)],
  [], [])
set_option maxRecDepth 100000 in
theorem vd_L_standing : md_L_standing.cd.all (cb_vE md_L_standing) = true := by decide +kernel
theorem hc_L_standing (X : cb_X) (B : cb_Bs md_L_standing X) : cb_CS cb_tb md_L_standing X (0, 51, 2, 1, 6, pt_X9_standing) := cb_csV B ok_X9_standing wd_X9_standing (cb_tw (i := 966) (by decide +kernel)) (cb_tw (i := 967) (by decide +kernel)) (cb_tw (i := 968) (by decide +kernel)) rc_X9_standing ⟨by decide, by decide⟩ (by decide +kernel)
abbrev hh_L_standing : List (Nat × Nat × Nat × Nat) := [(0, 16, 19, 13)]
theorem ok_L_standing : cb_MC yL_standing md_L_standing hh_L_standing (hl_pt true re_cI 1 sp_X9_standing) := by
  refine cb_ofc ⟨by decide, rfl⟩ (fun As a M K h => ?_) rfl rfl (by decide) (fun X As a M h B ht hN => ?_)
  · obtain ⟨r, n, f, K1, rfl, hr, hi, -⟩ := h
    match r, hr, hi with
    | [.inl x0], _, _ => exact (by decide : 3 ≤ 4)
  · obtain ⟨r, n, f, K1, rfl, hr, hi, rfl, h, hK⟩ := h
    match r, hr, hi, h with
    | [.inl x0], _, _, h =>
      refine cb_run cb_tb_ok vd_L_standing (cuts := [4]) 20 ?_
      refine ch_call (K := fun o a' M' => a' = cb_ae o (cb_aS n, f) ∧ K1 o M') (As := cb_r 0 0 :: [cb_i x0]) (st := [cb_i 0, cb_r 90 0]) (hc_L_standing X B) rfl (by decide) (by decide) (by decide) (by decide +kernel) rfl (hl_wm rfl rfl h) (fun v a' M' hk => ?_) (fun x a' M' hk => ?_)
      · obtain ⟨rfl, hk⟩ := hk
        have hk := hK _ _ hk
        match v, hk with
        | some (.inl v), hk =>
          refine cb_run cb_tb_ok vd_L_standing (cuts := []) 20 ?_
          refine And.intro (fun q => And.intro vp01 (And.intro trivial ?_)) (fun q => And.intro vp01 (And.intro trivial ?_))
          · have q : v = 0 := q
            have hk : X.K (.inl (some (cb_i 0))) (cb_aS n, f) (cb_sL M' 90 0 0 (if v = 0 then 0 else 1)) := hk
            rw [if_pos q] at hk
            exact hk
          · have q : ¬ v = 0 := q
            have hk : X.K (.inl (some (cb_i 0))) (cb_aS n, f) (cb_sL M' 90 0 0 (if v = 0 then 0 else 1)) := hk
            rw [if_neg q] at hk
            exact hk
      · obtain ⟨rfl, hk⟩ := hk
        obtain ⟨c, hc, hk⟩ := hK _ _ hk
        have hKK := B.2.2.2.2.1
        match x, hc, hk with
        | 0, hc, hk => cases hc
        | x + 1, hc, hk =>
          cases (Option.some.inj hc)
          exact ⟨1, ⟨[], ⟨0, 16, 19, 13⟩, [], 3, 1, ht, (fun z hz => nomatch hz), by decide, by decide, hKK.1 (.classLink RL 13 "java/lang/IllegalArgumentException") (cb_tw (i := 543) (by decide +kernel)) rfl _, va_Nw.use (w := .castable "java/lang/IllegalArgumentException" "java/lang/IllegalArgumentException") rfl (hKK.2.1 _ (cb_tw (i := 553) (by decide +kernel)) rfl), Or.inl ⟨rfl, 3, rfl, by decide +kernel⟩, by decide, ⟨1, by decide +kernel, rfl⟩, by decide +kernel⟩, hk⟩
def md_L_pushed : cb_D := (RL, cL_pushed, 5, (some .int), (2, 12, 9, 169), [
  (0, .aload_n 3, 1, 0, 3, 0, 0),
  (1, .iconst 0, 1, 0, 0, 0, 0),
  (2, .aload_n 0, 1, 0, 0, 0, 0),
  (3, .iload_n 1, 1, 0, 1, 0, 0),
  (4, .iload_n 2, 1, 0, 2, 0, 0),
  (8, .i2l, 1, 0, 0, 0, 0),
  (9, .lastore, 1, 0, 0, 0, 0),
  (10, .goto 7, 3, 0, 17, 0, 0),
  (13, .astore 4, 2, 0, 4, 0, 0),
  (15, .iconst 1, 1, 1, 0, 0, 0),
  (16, .ireturn, 1, 0, 0, 0, 0),
  (17, .iconst 0, 1, 0, 0, 0, 0),
  (18, .ireturn, 1, 0, 0, 0, 0)],
  [], [])
set_option maxRecDepth 100000 in
theorem vd_L_pushed : md_L_pushed.cd.all (cb_vE md_L_pushed) = true := by decide +kernel
theorem hc_L_pushed (X : cb_X) (B : cb_Bs md_L_pushed X) : cb_CS cb_tb md_L_pushed X (0, 55, 3, 2, 12, pt_X9_pushed) := cb_csV B ok_X9_pushed wd_X9_pushed (cb_tw (i := 984) (by decide +kernel)) (cb_tw (i := 985) (by decide +kernel)) (cb_tw (i := 986) (by decide +kernel)) rc_X9_pushed ⟨by decide, by decide⟩ (by decide +kernel)
abbrev hh_L_pushed : List (Nat × Nat × Nat × Nat) := [(0, 10, 13, 13)]
theorem ok_L_pushed : cb_MC yL_pushed md_L_pushed hh_L_pushed (hl_pt false re_cI 2 sp_X9_pushed) := by
  refine cb_ofc ⟨by decide, rfl⟩ (fun As a M K h => ?_) rfl rfl (by decide) (fun X As a M h B ht hN => ?_)
  · obtain ⟨r, n, f, K1, rfl, hr, hi, -⟩ := h
    match r, hr, hi with
    | [.inl x0, .inl x1], _, _ => exact (by decide : 4 ≤ 5)
  · obtain ⟨r, n, f, K1, rfl, hr, hi, rfl, h, hK⟩ := h
    match r, hr, hi, h with
    | [.inl x0, .inl x1], _, _, h =>
      refine cb_run cb_tb_ok vd_L_pushed (cuts := [5]) 20 ?_
      refine ch_call (K := fun o a' M' => a' = cb_ae o (cb_aS n, f) ∧ K1 o M') (As := cb_r 0 0 :: [cb_i x0, cb_i x1]) (st := [cb_i 0, cb_r 90 0]) (hc_L_pushed X B) rfl (by decide) (by decide) (by decide) (by decide +kernel) rfl (hl_wm rfl rfl h) (fun v a' M' hk => ?_) (fun x a' M' hk => ?_)
      · obtain ⟨rfl, hk⟩ := hk
        have hk := hK _ _ hk
        match v, hk with
        | some (.inl v), hk =>
          refine cb_run cb_tb_ok vd_L_pushed (cuts := []) 20 ?_
          exact And.intro vp01 (And.intro trivial hk)
      · obtain ⟨rfl, hk⟩ := hk
        obtain ⟨c, hc, hk⟩ := hK _ _ hk
        have hKK := B.2.2.2.2.1
        match x, hc, hk with
        | 0, hc, hk => cases hc
        | x + 1, hc, hk =>
          cases (Option.some.inj hc)
          exact ⟨1, ⟨[], ⟨0, 10, 13, 13⟩, [], 4, 2, ht, (fun z hz => nomatch hz), by decide, by decide, hKK.1 (.classLink RL 13 "java/lang/IllegalArgumentException") (cb_tw (i := 543) (by decide +kernel)) rfl _, va_Nw.use (w := .castable "java/lang/IllegalArgumentException" "java/lang/IllegalArgumentException") rfl (hKK.2.1 _ (cb_tw (i := 553) (by decide +kernel)) rfl), Or.inr ⟨rfl, by decide +kernel⟩, by decide, ⟨1, by decide +kernel, rfl⟩, by decide +kernel⟩, hk⟩
def md_L_hold : cb_D := (RL, cL_hold, 4, (some .int), (1, 6, 9, 180), [
  (0, .aload_n 2, 1, 0, 2, 0, 0),
  (1, .iconst 0, 1, 0, 0, 0, 0),
  (2, .aload_n 0, 1, 0, 0, 0, 0),
  (3, .iload_n 1, 1, 0, 1, 0, 0),
  (7, .i2l, 1, 0, 0, 0, 0),
  (8, .lastore, 1, 0, 0, 0, 0),
  (9, .goto 6, 3, 0, 15, 0, 0),
  (12, .astore_n 3, 1, 0, 3, 0, 0),
  (13, .iconst 1, 1, 1, 0, 0, 0),
  (14, .ireturn, 1, 0, 0, 0, 0),
  (15, .iconst 0, 1, 0, 0, 0, 0),
  (16, .ireturn, 1, 0, 0, 0, 0)],
  [], [])
set_option maxRecDepth 100000 in
theorem vd_L_hold : md_L_hold.cd.all (cb_vE md_L_hold) = true := by decide +kernel
theorem hc_L_hold (X : cb_X) (B : cb_Bs md_L_hold X) : cb_CS cb_tb md_L_hold X (0, 65, 2, 1, 6, pt_X9_hold) := cb_csV B ok_X9_hold wd_X9_hold (cb_tw (i := 1028) (by decide +kernel)) (cb_tw (i := 1029) (by decide +kernel)) (cb_tw (i := 1030) (by decide +kernel)) rc_X9_hold ⟨by decide, by decide⟩ (by decide +kernel)
abbrev hh_L_hold : List (Nat × Nat × Nat × Nat) := [(0, 9, 12, 13)]
theorem ok_L_hold : cb_MC yL_hold md_L_hold hh_L_hold (hl_pt false re_cI 1 sp_X9_hold) := by
  refine cb_ofc ⟨by decide, rfl⟩ (fun As a M K h => ?_) rfl rfl (by decide) (fun X As a M h B ht hN => ?_)
  · obtain ⟨r, n, f, K1, rfl, hr, hi, -⟩ := h
    match r, hr, hi with
    | [.inl x0], _, _ => exact (by decide : 3 ≤ 4)
  · obtain ⟨r, n, f, K1, rfl, hr, hi, rfl, h, hK⟩ := h
    match r, hr, hi, h with
    | [.inl x0], _, _, h =>
      refine cb_run cb_tb_ok vd_L_hold (cuts := [4]) 20 ?_
      refine ch_call (K := fun o a' M' => a' = cb_ae o (cb_aS n, f) ∧ K1 o M') (As := cb_r 0 0 :: [cb_i x0]) (st := [cb_i 0, cb_r 90 0]) (hc_L_hold X B) rfl (by decide) (by decide) (by decide) (by decide +kernel) rfl (hl_wm rfl rfl h) (fun v a' M' hk => ?_) (fun x a' M' hk => ?_)
      · obtain ⟨rfl, hk⟩ := hk
        have hk := hK _ _ hk
        match v, hk with
        | some (.inl v), hk =>
          refine cb_run cb_tb_ok vd_L_hold (cuts := []) 20 ?_
          exact And.intro vp01 (And.intro trivial hk)
      · obtain ⟨rfl, hk⟩ := hk
        obtain ⟨c, hc, hk⟩ := hK _ _ hk
        have hKK := B.2.2.2.2.1
        match x, hc, hk with
        | 0, hc, hk => cases hc
        | x + 1, hc, hk =>
          cases (Option.some.inj hc)
          exact ⟨1, ⟨[], ⟨0, 9, 12, 13⟩, [], 3, 1, ht, (fun z hz => nomatch hz), by decide, by decide, hKK.1 (.classLink RL 13 "java/lang/IllegalArgumentException") (cb_tw (i := 543) (by decide +kernel)) rfl _, va_Nw.use (w := .castable "java/lang/IllegalArgumentException" "java/lang/IllegalArgumentException") rfl (hKK.2.1 _ (cb_tw (i := 553) (by decide +kernel)) rfl), Or.inl ⟨rfl, 3, rfl, by decide +kernel⟩, by decide, ⟨1, by decide +kernel, rfl⟩, by decide +kernel⟩, hk⟩
def md_L_hung : cb_D := (RL, cL_hung, 6, (some .int), (4, 24, 9, 183), [
  (0, .aload 4, 2, 0, 4, 0, 0),
  (2, .iconst 0, 1, 0, 0, 0, 0),
  (3, .aload_n 0, 1, 0, 0, 0, 0),
  (4, .iload_n 1, 1, 0, 1, 0, 0),
  (5, .iload_n 2, 1, 0, 2, 0, 0),
  (6, .iload_n 3, 1, 0, 3, 0, 0),
  (10, .i2l, 1, 0, 0, 0, 0),
  (11, .lastore, 1, 0, 0, 0, 0),
  (12, .goto 7, 3, 0, 19, 0, 0),
  (15, .astore 5, 2, 0, 5, 0, 0),
  (17, .iconst 1, 1, 1, 0, 0, 0),
  (18, .ireturn, 1, 0, 0, 0, 0),
  (19, .iconst 0, 1, 0, 0, 0, 0),
  (20, .ireturn, 1, 0, 0, 0, 0)],
  [], [])
set_option maxRecDepth 100000 in
theorem vd_L_hung : md_L_hung.cd.all (cb_vE md_L_hung) = true := by decide +kernel
theorem hc_L_hung (X : cb_X) (B : cb_Bs md_L_hung X) : cb_CS cb_tb md_L_hung X (0, 68, 4, 4, 24, pt_X9_hung) := cb_csV B ok_X9_hung wd_X9_hung (cb_tw (i := 1055) (by decide +kernel)) (cb_tw (i := 1056) (by decide +kernel)) (cb_tw (i := 1057) (by decide +kernel)) rc_X9_hung ⟨by decide, by decide⟩ (by decide +kernel)
abbrev hh_L_hung : List (Nat × Nat × Nat × Nat) := [(0, 12, 15, 13)]
theorem ok_L_hung : cb_MC yL_hung md_L_hung hh_L_hung (hl_pt false re_cI 3 sp_X9_hung) := by
  refine cb_ofc ⟨by decide, rfl⟩ (fun As a M K h => ?_) rfl rfl (by decide) (fun X As a M h B ht hN => ?_)
  · obtain ⟨r, n, f, K1, rfl, hr, hi, -⟩ := h
    match r, hr, hi with
    | [.inl x0, .inl x1, .inl x2], _, _ => exact (by decide : 5 ≤ 6)
  · obtain ⟨r, n, f, K1, rfl, hr, hi, rfl, h, hK⟩ := h
    match r, hr, hi, h with
    | [.inl x0, .inl x1, .inl x2], _, _, h =>
      refine cb_run cb_tb_ok vd_L_hung (cuts := [7]) 20 ?_
      refine ch_call (K := fun o a' M' => a' = cb_ae o (cb_aS n, f) ∧ K1 o M') (As := cb_r 0 0 :: [cb_i x0, cb_i x1, cb_i x2]) (st := [cb_i 0, cb_r 90 0]) (hc_L_hung X B) rfl (by decide) (by decide) (by decide) (by decide +kernel) rfl (hl_wm rfl rfl h) (fun v a' M' hk => ?_) (fun x a' M' hk => ?_)
      · obtain ⟨rfl, hk⟩ := hk
        have hk := hK _ _ hk
        match v, hk with
        | some (.inl v), hk =>
          refine cb_run cb_tb_ok vd_L_hung (cuts := []) 20 ?_
          exact And.intro vp01 (And.intro trivial hk)
      · obtain ⟨rfl, hk⟩ := hk
        obtain ⟨c, hc, hk⟩ := hK _ _ hk
        have hKK := B.2.2.2.2.1
        match x, hc, hk with
        | 0, hc, hk => cases hc
        | x + 1, hc, hk =>
          cases (Option.some.inj hc)
          exact ⟨1, ⟨[], ⟨0, 12, 15, 13⟩, [], 5, 2, ht, (fun z hz => nomatch hz), by decide, by decide, hKK.1 (.classLink RL 13 "java/lang/IllegalArgumentException") (cb_tw (i := 543) (by decide +kernel)) rfl _, va_Nw.use (w := .castable "java/lang/IllegalArgumentException" "java/lang/IllegalArgumentException") rfl (hKK.2.1 _ (cb_tw (i := 553) (by decide +kernel)) rfl), Or.inr ⟨rfl, by decide +kernel⟩, by decide, ⟨1, by decide +kernel, rfl⟩, by decide +kernel⟩, hk⟩
def md_L_infected : cb_D := (RL, cL_infected, 4, (some .int), (1, 6, 9, 182), [
  (0, .aload_n 2, 1, 0, 2, 0, 0),
  (1, .iconst 0, 1, 0, 0, 0, 0),
  (2, .aload_n 0, 1, 0, 0, 0, 0),
  (3, .iload_n 1, 1, 0, 1, 0, 0),
  (7, .i2l, 1, 0, 0, 0, 0),
  (8, .lastore, 1, 0, 0, 0, 0),
  (9, .goto 6, 3, 0, 15, 0, 0),
  (12, .astore_n 3, 1, 0, 3, 0, 0),
  (13, .iconst 1, 1, 1, 0, 0, 0),
  (14, .ireturn, 1, 0, 0, 0, 0),
  (15, .iconst 0, 1, 0, 0, 0, 0),
  (16, .ireturn, 1, 0, 0, 0, 0)],
  [], [])
set_option maxRecDepth 100000 in
theorem vd_L_infected : md_L_infected.cd.all (cb_vE md_L_infected) = true := by decide +kernel
theorem hc_L_infected (X : cb_X) (B : cb_Bs md_L_infected X) : cb_CS cb_tb md_L_infected X (0, 82, 2, 1, 6, pt_X9_infected) := cb_csV B ok_X9_infected wd_X9_infected (cb_tw (i := 1149) (by decide +kernel)) (cb_tw (i := 1150) (by decide +kernel)) (cb_tw (i := 1151) (by decide +kernel)) rc_X9_infected ⟨by decide, by decide⟩ (by decide +kernel)
abbrev hh_L_infected : List (Nat × Nat × Nat × Nat) := [(0, 9, 12, 13)]
theorem ok_L_infected : cb_MC yL_infected md_L_infected hh_L_infected (hl_pt false re_cI 1 sp_X9_infected) := by
  refine cb_ofc ⟨by decide, rfl⟩ (fun As a M K h => ?_) rfl rfl (by decide) (fun X As a M h B ht hN => ?_)
  · obtain ⟨r, n, f, K1, rfl, hr, hi, -⟩ := h
    match r, hr, hi with
    | [.inl x0], _, _ => exact (by decide : 3 ≤ 4)
  · obtain ⟨r, n, f, K1, rfl, hr, hi, rfl, h, hK⟩ := h
    match r, hr, hi, h with
    | [.inl x0], _, _, h =>
      refine cb_run cb_tb_ok vd_L_infected (cuts := [4]) 20 ?_
      refine ch_call (K := fun o a' M' => a' = cb_ae o (cb_aS n, f) ∧ K1 o M') (As := cb_r 0 0 :: [cb_i x0]) (st := [cb_i 0, cb_r 90 0]) (hc_L_infected X B) rfl (by decide) (by decide) (by decide) (by decide +kernel) rfl (hl_wm rfl rfl h) (fun v a' M' hk => ?_) (fun x a' M' hk => ?_)
      · obtain ⟨rfl, hk⟩ := hk
        have hk := hK _ _ hk
        match v, hk with
        | some (.inl v), hk =>
          refine cb_run cb_tb_ok vd_L_infected (cuts := []) 20 ?_
          exact And.intro vp01 (And.intro trivial hk)
      · obtain ⟨rfl, hk⟩ := hk
        obtain ⟨c, hc, hk⟩ := hK _ _ hk
        have hKK := B.2.2.2.2.1
        match x, hc, hk with
        | 0, hc, hk => cases hc
        | x + 1, hc, hk =>
          cases (Option.some.inj hc)
          exact ⟨1, ⟨[], ⟨0, 9, 12, 13⟩, [], 3, 1, ht, (fun z hz => nomatch hz), by decide, by decide, hKK.1 (.classLink RL 13 "java/lang/IllegalArgumentException") (cb_tw (i := 543) (by decide +kernel)) rfl _, va_Nw.use (w := .castable "java/lang/IllegalArgumentException" "java/lang/IllegalArgumentException") rfl (hKK.2.1 _ (cb_tw (i := 553) (by decide +kernel)) rfl), Or.inl ⟨rfl, 3, rfl, by decide +kernel⟩, by decide, ⟨1, by decide +kernel, rfl⟩, by decide +kernel⟩, hk⟩
def md_L_leader : cb_D := (RL, cL_leader, 4, (some .int), (1, 6, 9, 179), [
  (0, .aload_n 2, 1, 0, 2, 0, 0),
  (1, .iconst 0, 1, 0, 0, 0, 0),
  (2, .aload_n 0, 1, 0, 0, 0, 0),
  (3, .iload_n 1, 1, 0, 1, 0, 0),
  (7, .i2l, 1, 0, 0, 0, 0),
  (8, .lastore, 1, 0, 0, 0, 0),
  (9, .goto 6, 3, 0, 15, 0, 0),
  (12, .astore_n 3, 1, 0, 3, 0, 0),
  (13, .iconst 1, 1, 1, 0, 0, 0),
  (14, .ireturn, 1, 0, 0, 0, 0),
  (15, .iconst 0, 1, 0, 0, 0, 0),
  (16, .ireturn, 1, 0, 0, 0, 0)],
  [], [])
set_option maxRecDepth 100000 in
theorem vd_L_leader : md_L_leader.cd.all (cb_vE md_L_leader) = true := by decide +kernel
theorem hc_L_leader (X : cb_X) (B : cb_Bs md_L_leader X) : cb_CS cb_tb md_L_leader X (0, 98, 2, 1, 6, pt_X9_leader) := cb_csV B ok_X9_leader wd_X9_leader (cb_tw (i := 1235) (by decide +kernel)) (cb_tw (i := 1236) (by decide +kernel)) (cb_tw (i := 1237) (by decide +kernel)) rc_X9_leader ⟨by decide, by decide⟩ (by decide +kernel)
abbrev hh_L_leader : List (Nat × Nat × Nat × Nat) := [(0, 9, 12, 13)]
theorem ok_L_leader : cb_MC yL_leader md_L_leader hh_L_leader (hl_pt false re_cI 1 sp_X9_leader) := by
  refine cb_ofc ⟨by decide, rfl⟩ (fun As a M K h => ?_) rfl rfl (by decide) (fun X As a M h B ht hN => ?_)
  · obtain ⟨r, n, f, K1, rfl, hr, hi, -⟩ := h
    match r, hr, hi with
    | [.inl x0], _, _ => exact (by decide : 3 ≤ 4)
  · obtain ⟨r, n, f, K1, rfl, hr, hi, rfl, h, hK⟩ := h
    match r, hr, hi, h with
    | [.inl x0], _, _, h =>
      refine cb_run cb_tb_ok vd_L_leader (cuts := [4]) 20 ?_
      refine ch_call (K := fun o a' M' => a' = cb_ae o (cb_aS n, f) ∧ K1 o M') (As := cb_r 0 0 :: [cb_i x0]) (st := [cb_i 0, cb_r 90 0]) (hc_L_leader X B) rfl (by decide) (by decide) (by decide) (by decide +kernel) rfl (hl_wm rfl rfl h) (fun v a' M' hk => ?_) (fun x a' M' hk => ?_)
      · obtain ⟨rfl, hk⟩ := hk
        have hk := hK _ _ hk
        match v, hk with
        | some (.inl v), hk =>
          refine cb_run cb_tb_ok vd_L_leader (cuts := []) 20 ?_
          exact And.intro vp01 (And.intro trivial hk)
      · obtain ⟨rfl, hk⟩ := hk
        obtain ⟨c, hc, hk⟩ := hK _ _ hk
        have hKK := B.2.2.2.2.1
        match x, hc, hk with
        | 0, hc, hk => cases hc
        | x + 1, hc, hk =>
          cases (Option.some.inj hc)
          exact ⟨1, ⟨[], ⟨0, 9, 12, 13⟩, [], 3, 1, ht, (fun z hz => nomatch hz), by decide, by decide, hKK.1 (.classLink RL 13 "java/lang/IllegalArgumentException") (cb_tw (i := 543) (by decide +kernel)) rfl _, va_Nw.use (w := .castable "java/lang/IllegalArgumentException" "java/lang/IllegalArgumentException") rfl (hKK.2.1 _ (cb_tw (i := 553) (by decide +kernel)) rfl), Or.inl ⟨rfl, 3, rfl, by decide +kernel⟩, by decide, ⟨1, by decide +kernel, rfl⟩, by decide +kernel⟩, hk⟩
def md_L_better : cb_D := (RL, cL_better, 5, (some .int), (2, 12, 9, 182), [
  (0, .aload_n 3, 1, 0, 3, 0, 0),
  (1, .iconst 0, 1, 0, 0, 0, 0),
  (2, .aload_n 0, 1, 0, 0, 0, 0),
  (3, .iload_n 1, 1, 0, 1, 0, 0),
  (4, .iload_n 2, 1, 0, 2, 0, 0),
  (8, .i2l, 1, 0, 0, 0, 0),
  (9, .lastore, 1, 0, 0, 0, 0),
  (10, .goto 7, 3, 0, 17, 0, 0),
  (13, .astore 4, 2, 0, 4, 0, 0),
  (15, .iconst 1, 1, 1, 0, 0, 0),
  (16, .ireturn, 1, 0, 0, 0, 0),
  (17, .iconst 0, 1, 0, 0, 0, 0),
  (18, .ireturn, 1, 0, 0, 0, 0)],
  [], [])
set_option maxRecDepth 100000 in
theorem vd_L_better : md_L_better.cd.all (cb_vE md_L_better) = true := by decide +kernel
theorem hc_L_better (X : cb_X) (B : cb_Bs md_L_better X) : cb_CS cb_tb md_L_better X (0, 101, 3, 2, 12, pt_X9_better) := cb_csV B ok_X9_better wd_X9_better (cb_tw (i := 1252) (by decide +kernel)) (cb_tw (i := 1253) (by decide +kernel)) (cb_tw (i := 1254) (by decide +kernel)) rc_X9_better ⟨by decide, by decide⟩ (by decide +kernel)
abbrev hh_L_better : List (Nat × Nat × Nat × Nat) := [(0, 10, 13, 13)]
theorem ok_L_better : cb_MC yL_better md_L_better hh_L_better (hl_pt false re_cI 2 sp_X9_better) := by
  refine cb_ofc ⟨by decide, rfl⟩ (fun As a M K h => ?_) rfl rfl (by decide) (fun X As a M h B ht hN => ?_)
  · obtain ⟨r, n, f, K1, rfl, hr, hi, -⟩ := h
    match r, hr, hi with
    | [.inl x0, .inl x1], _, _ => exact (by decide : 4 ≤ 5)
  · obtain ⟨r, n, f, K1, rfl, hr, hi, rfl, h, hK⟩ := h
    match r, hr, hi, h with
    | [.inl x0, .inl x1], _, _, h =>
      refine cb_run cb_tb_ok vd_L_better (cuts := [5]) 20 ?_
      refine ch_call (K := fun o a' M' => a' = cb_ae o (cb_aS n, f) ∧ K1 o M') (As := cb_r 0 0 :: [cb_i x0, cb_i x1]) (st := [cb_i 0, cb_r 90 0]) (hc_L_better X B) rfl (by decide) (by decide) (by decide) (by decide +kernel) rfl (hl_wm rfl rfl h) (fun v a' M' hk => ?_) (fun x a' M' hk => ?_)
      · obtain ⟨rfl, hk⟩ := hk
        have hk := hK _ _ hk
        match v, hk with
        | some (.inl v), hk =>
          refine cb_run cb_tb_ok vd_L_better (cuts := []) 20 ?_
          exact And.intro vp01 (And.intro trivial hk)
      · obtain ⟨rfl, hk⟩ := hk
        obtain ⟨c, hc, hk⟩ := hK _ _ hk
        have hKK := B.2.2.2.2.1
        match x, hc, hk with
        | 0, hc, hk => cases hc
        | x + 1, hc, hk =>
          cases (Option.some.inj hc)
          exact ⟨1, ⟨[], ⟨0, 10, 13, 13⟩, [], 4, 2, ht, (fun z hz => nomatch hz), by decide, by decide, hKK.1 (.classLink RL 13 "java/lang/IllegalArgumentException") (cb_tw (i := 543) (by decide +kernel)) rfl _, va_Nw.use (w := .castable "java/lang/IllegalArgumentException" "java/lang/IllegalArgumentException") rfl (hKK.2.1 _ (cb_tw (i := 553) (by decide +kernel)) rfl), Or.inr ⟨rfl, by decide +kernel⟩, by decide, ⟨1, by decide +kernel, rfl⟩, by decide +kernel⟩, hk⟩
def md_L_honest : cb_D := (RL, cL_honest, 4, (some .int), (1, 6, 9, 163), [
  (0, .aload_n 2, 1, 0, 2, 0, 0),
  (1, .iconst 0, 1, 0, 0, 0, 0),
  (2, .aload_n 0, 1, 0, 0, 0, 0),
  (3, .iload_n 1, 1, 0, 1, 0, 0),
  (7, .i2l, 1, 0, 0, 0, 0),
  (8, .lastore, 1, 0, 0, 0, 0),
  (9, .goto 6, 3, 0, 15, 0, 0),
  (12, .astore_n 3, 1, 0, 3, 0, 0),
  (13, .iconst 1, 1, 1, 0, 0, 0),
  (14, .ireturn, 1, 0, 0, 0, 0),
  (15, .iconst 0, 1, 0, 0, 0, 0),
  (16, .ireturn, 1, 0, 0, 0, 0)],
  [], [])
set_option maxRecDepth 100000 in
theorem vd_L_honest : md_L_honest.cd.all (cb_vE md_L_honest) = true := by decide +kernel
theorem hc_L_honest (X : cb_X) (B : cb_Bs md_L_honest X) : cb_CS cb_tb md_L_honest X (0, 110, 2, 1, 6, pt_X9_honest) := cb_csV B ok_X9_honest wd_X9_honest (cb_tw (i := 1288) (by decide +kernel)) (cb_tw (i := 1289) (by decide +kernel)) (cb_tw (i := 1290) (by decide +kernel)) rc_X9_honest ⟨by decide, by decide⟩ (by decide +kernel)
abbrev hh_L_honest : List (Nat × Nat × Nat × Nat) := [(0, 9, 12, 13)]
theorem ok_L_honest : cb_MC yL_honest md_L_honest hh_L_honest (hl_pt false re_cI 1 sp_X9_honest) := by
  refine cb_ofc ⟨by decide, rfl⟩ (fun As a M K h => ?_) rfl rfl (by decide) (fun X As a M h B ht hN => ?_)
  · obtain ⟨r, n, f, K1, rfl, hr, hi, -⟩ := h
    match r, hr, hi with
    | [.inl x0], _, _ => exact (by decide : 3 ≤ 4)
  · obtain ⟨r, n, f, K1, rfl, hr, hi, rfl, h, hK⟩ := h
    match r, hr, hi, h with
    | [.inl x0], _, _, h =>
      refine cb_run cb_tb_ok vd_L_honest (cuts := [4]) 20 ?_
      refine ch_call (K := fun o a' M' => a' = cb_ae o (cb_aS n, f) ∧ K1 o M') (As := cb_r 0 0 :: [cb_i x0]) (st := [cb_i 0, cb_r 90 0]) (hc_L_honest X B) rfl (by decide) (by decide) (by decide) (by decide +kernel) rfl (hl_wm rfl rfl h) (fun v a' M' hk => ?_) (fun x a' M' hk => ?_)
      · obtain ⟨rfl, hk⟩ := hk
        have hk := hK _ _ hk
        match v, hk with
        | some (.inl v), hk =>
          refine cb_run cb_tb_ok vd_L_honest (cuts := []) 20 ?_
          exact And.intro vp01 (And.intro trivial hk)
      · obtain ⟨rfl, hk⟩ := hk
        obtain ⟨c, hc, hk⟩ := hK _ _ hk
        have hKK := B.2.2.2.2.1
        match x, hc, hk with
        | 0, hc, hk => cases hc
        | x + 1, hc, hk =>
          cases (Option.some.inj hc)
          exact ⟨1, ⟨[], ⟨0, 9, 12, 13⟩, [], 3, 1, ht, (fun z hz => nomatch hz), by decide, by decide, hKK.1 (.classLink RL 13 "java/lang/IllegalArgumentException") (cb_tw (i := 543) (by decide +kernel)) rfl _, va_Nw.use (w := .castable "java/lang/IllegalArgumentException" "java/lang/IllegalArgumentException") rfl (hKK.2.1 _ (cb_tw (i := 553) (by decide +kernel)) rfl), Or.inl ⟨rfl, 3, rfl, by decide +kernel⟩, by decide, ⟨1, by decide +kernel, rfl⟩, by decide +kernel⟩, hk⟩
