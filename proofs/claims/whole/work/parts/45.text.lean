/-! ===== the words of the texts ===== -/
section TX
variable {d : cb_D} {X : cb_X} {pc : Nat} {ls : cb_Ls} {st : List cb_V} {a : cb_A} {M : cb_M} {k n : Nat}
theorem ct_value {j idx : Nat} (hj : j < 8) (hd : decode d.cc pc = .ok (.getfield idx, 3)) (hl : Cond.fieldLink d.own idx "java/lang/String" "value" "[B" ∈ lw_tbl) (h : cb_Gd cb_tb d X (pc + 3) ls (cb_r 92 j :: st) a M k n) : cb_Gd cb_tb d X pc ls (cb_r 91 j :: st) a M k n := by
  intro C H locs lc hP hS hL
  obtain ⟨hx, hb, hml, hown, hK, -⟩ := id C
  exact vk_getf hx hb (hK.2.2.2.2.2.2.1.1 j hj).2.2.1 hS hown (hK.1 _ hl rfl _) (fun _ h => h) hd (h C H locs lc hP hS hL)
theorem ct_coder {j idx : Nat} (hj : j < 8) (hd : decode d.cc pc = .ok (.getfield idx, 3)) (hl : Cond.fieldLink d.own idx "java/lang/String" "coder" "B" ∈ lw_tbl) (h : cb_Gd cb_tb d X (pc + 3) ls (cb_i 0 :: st) a M k n) : cb_Gd cb_tb d X pc ls (cb_r 91 j :: st) a M k n := by
  intro C H locs lc hP hS hL
  obtain ⟨hx, hb, hml, hown, hK, -⟩ := id C
  exact vk_getf hx hb (hK.2.2.2.2.2.2.1.1 j hj).2.1 hS hown (hK.1 _ hl rfl _) (fun _ h => h) hd (h C H locs lc hP hS hL)
theorem ct_len {j : Nat} (hj : j < 8) (hd : decode d.cc pc = .ok (.arraylength, 1)) (h : cb_Gd cb_tb d X (pc + 1) ls (cb_i (nI (cb_slen.getD j 0)) :: st) a M k n) : cb_Gd cb_tb d X pc ls (cb_r 92 j :: st) a M k n := by
  intro C H locs lc hP hS hL
  obtain ⟨hx, hb, hml, hown, hK, -⟩ := id C
  exact va_tlen hx hb (hK.2.2.2.2.2.2.1.1 j hj).2.2.2 hS rfl hd (h C H locs lc hP hS hL)
theorem ct_byte {j : Nat} {x : Int32} (hj : j < 8) (hx8 : vp_in x (cb_slen.getD j 0)) (hd : decode d.cc pc = .ok (.baload, 1)) (h : cb_Gd cb_tb d X (pc + 1) ls (cb_i ((cb_sbyt.getD j []).getD x.toNatClampNeg 0) :: st) a M k n) : cb_Gd cb_tb d X pc ls (cb_i x :: cb_r 92 j :: st) a M k n := by
  intro C H locs lc hP hS hL
  obtain ⟨hx, hb, hml, hown, hK, -⟩ := id C
  exact va_tb hx hb (hK.2.2.2.2.2.2.1.1 j hj).2.2.2 hS hx8 rfl hd (h C H locs lc hP hS hL)
theorem ct_cmp {idx : Nat} (hd : decode d.cc pc = .ok (.getstatic idx, 3)) (hl : Cond.fieldLink d.own idx "java/lang/String" "COMPACT_STRINGS" "Z" ∈ lw_tbl) (h : cb_Gd cb_tb d X (pc + 3) ls (cb_i 1 :: st) a M k n) : cb_Gd cb_tb d X pc ls st a M k n := by
  intro C H locs lc hP hS hL
  obtain ⟨hx, hb, hml, hown, hK, -⟩ := id C
  exact va_gets hx hb hK.2.2.2.2.2.2.2.1 hS hown (hK.1 _ hl rfl _) (fun _ h => h) hd (h C H locs lc hP hS hL)
theorem ct_fmt {idx : Nat} (hd : decode d.cc pc = .ok (.getstatic idx, 3)) (hl : Cond.fieldLink d.own idx "jdk/internal/util/Preconditions" "SIOOBE_FORMATTER" "Ljava/util/function/BiFunction;" ∈ lw_tbl) (h : ∀ v : Option (Nat × Nat), cb_Gd cb_tb d X (pc + 3) ls (Sum.inr (Sum.inr v) :: st) a M k n) : cb_Gd cb_tb d X pc ls st a M k n := by
  intro C H locs lc hP hS hL
  obtain ⟨hx, hb, hml, hown, hK, -⟩ := id C
  rcases hK.2.2.2.2.2.2.2.2 with hz | hz
  · exact va_gets hx hb hz hS hown (hK.1 _ hl rfl _) (fun _ h => h) hd (h none C H locs lc hP hS hL)
  · exact va_gets hx hb hz hS hown (hK.1 _ hl rfl _) (fun _ h => h) hd (h (some (93, 0)) C H locs lc hP hS hL)
theorem ct_i2c {x : Int32} (hd : decode d.cc pc = .ok (.i2c, 1)) (h : cb_Gd cb_tb d X (pc + 1) ls (cb_i (x.toUInt32 % 65536).toInt32 :: st) a M k n) : cb_Gd cb_tb d X pc ls (cb_i x :: st) a M k n := by
  intro C H locs lc hP hS hL
  obtain ⟨hx, hb, hml, hown, hK, -⟩ := id C
  exact lv_i2c hx hb hd rfl (h C H locs lc hP hS hL)
end TX
theorem cb_csT {d : cb_D} {X : cb_X} (B : cb_Bs d X) {y : MethodName} {dy : cb_D} {PT : cb_PT} (hM : cb_MOK cb_tb y dy PT) (hw : cb_wd y dy) {idx na : Nat} (hl : Cond.methodLink d.own idx y ∈ lw_tbl) (hin : Cond.instanceMethod y ∈ lw_tbl) (hse : Cond.selects y.cls y y ∈ lw_tbl)
    (hyc : y.cls = "java/lang/String") (hrc : ∀ As a M K, PT As a M K → ∃ j r, As = cb_r 91 j :: r ∧ j < 8) (hR : dy.fr + 1 ≤ d.fr ∧ 8 + (dy.nL + 11) + dy.lo ≤ d.lo) (hd : (parseMethodDescriptor y.desc).map (fun d => d.parameters.length + 1) = some na) : cb_CS cb_tb d X (0, idx, na, dy.mc, dy.ms, PT) := by
  intro a M As K H locs k n pc lc rest hn hPT hP hS hsz hcat hk hms hdg kv kx
  obtain ⟨hx, hb, hml, hown, hK, hs0, hl0, hR1, hR2, hR3, hR4⟩ := id B
  obtain ⟨j, r, rfl, hj⟩ := hrc As a M K hPT
  have hM' := hM X.l hl0 X.G a M (cb_r 91 j :: r) K hPT
  obtain ⟨cell, q1, q2, q3⟩ := vk_recv hK.2.2.2.2.2.2.1 hj hS
  refine cb_after (a0 := (Value.ref (X.G.ad 91 j) :: cb_cs X.G.ad r).toArray) (vx_runV (Ts := []) (C := y.cls) (bytes := dy.cc) (maxL := dy.nL) (nL := d.nL) (ret := dy.ret) (index := idx) (b := X.G.ad 91 j) (As := cb_cs X.G.ad r) (n := r.length) (rest := cb_cs X.G.ad rest)
    ⟨hx, hb, hml, hown, fun _ h => nomatch h⟩ hM' ⟨⟨rfl, rfl, by rw [hR1]; exact hR.1, by rw [hR4]; exact hR.2, cb_wcode (U := X.s) hK hw, List.mem_singleton.mpr rfl, hK.1 _ hw.1 rfl _, hK.1 _ hw.2.1 rfl _, hw.2.2, fun sig hs => ?_, hK.1 _ hl rfl _⟩, hK.1 _ hin rfl _, hK.1 _ hse rfl _⟩
    ⟨cb_WS.blind, ⟨cell, q1, q2, by rw [hyc]; exact q3⟩, fun U hU hW => cb_ws_at B hP hS U hU hW⟩ rfl (by simp) hsz (by simp [cb_cs, cb_c]) ?_ hdg ⟨by rw [hR2]; exact hk, by rw [hR3]; exact hms⟩) hS kv kx
  · rw [hs] at hd
    have hd : sig.parameters.length + 1 = na := Option.some.inj hd
    have hn : r.length + 1 = na := hn
    show r.length = sig.parameters.length
    omega
  · have := cb_cat_sum X.G.ad rest
    have e0 : 2 * (F0 X.m pc lc (cb_cs X.G.ad ((cb_r 91 j :: r).reverse ++ rest))).monitorRoom = 0 := rfl
    rw [e0, this]
    omega
/-- a method of a text -/
def cb_tx (sp : Nat → List cb_V → Option ((cb_V → Prop) → Prop)) (na : Nat) : cb_PT := fun As a M K => match As with
  | .inr (.inr (some (t, j))) :: r => t = 91 ∧ j < 8 ∧ r.length = na ∧ cb_nl r = true ∧ (match sp j r with | some f => f fun v => K (.inl (some v)) a M | none => False)
  | _ => False
theorem cb_tx_to {sp : Nat → List cb_V → Option ((cb_V → Prop) → Prop)} {na : Nat} {As : List cb_V} {a : cb_A} {M : cb_M} {K : cb_Out → cb_A → cb_M → Prop} (h : cb_tx sp na As a M K) : ∃ j r, As = cb_r 91 j :: r ∧ j < 8 ∧ r.length = na ∧ cb_nl r = true ∧ (match sp j r with | some f => f fun v => K (.inl (some v)) a M | none => False) := by
  unfold cb_tx at h
  split at h
  · obtain ⟨rfl, h1, h2, h3, h4⟩ := h
    exact ⟨_, _, rfl, h1, h2, h3, h4⟩
  · exact h.elim
theorem cb_tx_rs {sp : Nat → List cb_V → Option ((cb_V → Prop) → Prop)} {na : Nat} : ∀ As a M K, cb_tx sp na As a M K → ∃ j r, As = cb_r 91 j :: r ∧ j < 8 := fun As a M K h => by
  obtain ⟨j, r, h1, h2, -⟩ := cb_tx_to h
  exact ⟨j, r, h1, h2⟩
theorem cb_oktx {y : MethodName} {d : cb_D} {sp : Nat → List cb_V → Option ((cb_V → Prop) → Prop)} {na : Nat} (hy : plainFor y = true ∧ y.cls = d.own) (hnL : na + 1 ≤ d.nL) (hcs : ∀ X, cb_Bs d X → ∀ g ∈ d.ga, cb_CS cb_tb d X g) (hT : cb_noT d = true)
    (hb : ∀ X j r a M, j < 8 → r.length = na → (match sp j r with | some f => f fun v => X.K (.inl (some v)) a M | none => False) → cb_Gd cb_tb d X 0 (cb_l0 (cb_r 91 j :: r) d.nL) [] a M 0 0) : cb_MOK cb_tb y d (cb_tx sp na) := by
  refine cb_of hy (fun As a M K h => ?_) hcs (fun _ _ _ _ _ => cb_Ts0 hT) (fun X As a M h => ?_)
  · obtain ⟨j, r, rfl, h0, h1, h2, -⟩ := cb_tx_to h
    rw [List.flatMap_cons, List.length_append, cb_nl_len h2, h1]
    show 1 + na ≤ d.nL
    omega
  · obtain ⟨j, r, rfl, h0, h1, -, h⟩ := cb_tx_to h
    exact hb X j r a M h0 h1 h
def sp_coder : Nat → List cb_V → Option ((cb_V → Prop) → Prop) := fun _ r => match r with
  | [] => some fun K => K (cb_i 0)
  | _ => none
def pt_J0_coder_7d493 : cb_PT := cb_tx sp_coder 0
theorem rs_J0_coder_7d493 : ∀ As a M K, pt_J0_coder_7d493 As a M K → ∃ j r, As = cb_r 91 j :: r ∧ j < 8 := cb_tx_rs
def md_J0_coder_7d493 : cb_D := (RJ0, cJ0_coder_7d493, 1, (some .byte), (0, 0, 0, 0), [
  (3, .ifCond .eq 10, 3, 0, 13, 0, 0),
  (6, .aload_n 0, 1, 0, 0, 0, 0),
  (10, .goto 4, 3, 0, 14, 0, 0),
  (13, .iconst 1, 1, 1, 0, 0, 0),
  (14, .ireturn, 1, 0, 0, 0, 0)],
  [], [])
set_option maxRecDepth 100000 in
theorem vd_J0_coder_7d493 : md_J0_coder_7d493.cd.all (cb_vE md_J0_coder_7d493) = true := by decide +kernel
theorem wd_J0_coder_7d493 : cb_wd yJ0_coder_7d493 md_J0_coder_7d493 := ⟨cb_tw (i := 654) (by decide +kernel), cb_tw (i := 18) (by decide +kernel), by decide, by decide⟩
theorem cs_J0_coder_7d493 : ∀ X, cb_Bs md_J0_coder_7d493 X → ∀ g ∈ md_J0_coder_7d493.ga, cb_CS cb_tb md_J0_coder_7d493 X g := fun X B => fun _ h => nomatch h
theorem ok_J0_coder_7d493 : cb_MOK cb_tb yJ0_coder_7d493 md_J0_coder_7d493 pt_J0_coder_7d493 := by
  refine cb_oktx ⟨by decide +kernel, rfl⟩ (by decide) cs_J0_coder_7d493 (by decide) (fun X j r a M hj hr h => ?_)
  match r, hr, h with
  | [], hr, h =>
    refine ct_cmp (idx := 38) (by decide +kernel) (cb_tw (i := 655) (by decide +kernel)) (cb_run cb_tb_ok vd_J0_coder_7d493 (cuts := [7]) 40 ?_)
    refine And.intro (fun q => absurd q (show ¬ (1 : Int32) = 0 by decide)) (fun _ => ?_)
    refine ct_coder (idx := 15) hj (by decide +kernel) (cb_tw (i := 1894) (by decide +kernel)) (cb_run cb_tb_ok vd_J0_coder_7d493 (cuts := [7]) 40 ?_)
    exact And.intro (show ((0 : Int32)).toInt8.toInt32 = 0 by decide) h
def sp_isLatin1 : Nat → List cb_V → Option ((cb_V → Prop) → Prop) := fun _ r => match r with
  | [] => some fun K => K (cb_i 1)
  | _ => none
def pt_J0_isLatin1_aae02 : cb_PT := cb_tx sp_isLatin1 0
theorem rs_J0_isLatin1_aae02 : ∀ As a M K, pt_J0_isLatin1_aae02 As a M K → ∃ j r, As = cb_r 91 j :: r ∧ j < 8 := cb_tx_rs
def md_J0_isLatin1_aae02 : cb_D := (RJ0, cJ0_isLatin1_aae02, 1, (some .boolean), (0, 0, 0, 0), [
  (3, .ifCond .eq 14, 3, 0, 17, 0, 0),
  (6, .aload_n 0, 1, 0, 0, 0, 0),
  (10, .ifCond .ne 7, 3, 0, 17, 0, 0),
  (13, .iconst 1, 1, 1, 0, 0, 0),
  (14, .goto 4, 3, 0, 18, 0, 0),
  (17, .iconst 0, 1, 0, 0, 0, 0),
  (18, .ireturn, 1, 0, 0, 0, 0)],
  [], [])
set_option maxRecDepth 100000 in
theorem vd_J0_isLatin1_aae02 : md_J0_isLatin1_aae02.cd.all (cb_vE md_J0_isLatin1_aae02) = true := by decide +kernel
theorem wd_J0_isLatin1_aae02 : cb_wd yJ0_isLatin1_aae02 md_J0_isLatin1_aae02 := ⟨cb_tw (i := 664) (by decide +kernel), cb_tw (i := 18) (by decide +kernel), by decide, by decide⟩
theorem cs_J0_isLatin1_aae02 : ∀ X, cb_Bs md_J0_isLatin1_aae02 X → ∀ g ∈ md_J0_isLatin1_aae02.ga, cb_CS cb_tb md_J0_isLatin1_aae02 X g := fun X B => fun _ h => nomatch h
theorem ok_J0_isLatin1_aae02 : cb_MOK cb_tb yJ0_isLatin1_aae02 md_J0_isLatin1_aae02 pt_J0_isLatin1_aae02 := by
  refine cb_oktx ⟨by decide +kernel, rfl⟩ (by decide) cs_J0_isLatin1_aae02 (by decide) (fun X j r a M hj hr h => ?_)
  match r, hr, h with
  | [], hr, h =>
    refine ct_cmp (idx := 38) (by decide +kernel) (cb_tw (i := 655) (by decide +kernel)) (cb_run cb_tb_ok vd_J0_isLatin1_aae02 (cuts := [7]) 40 ?_)
    refine And.intro (fun q => absurd q (show ¬ (1 : Int32) = 0 by decide)) (fun _ => ?_)
    refine ct_coder (idx := 15) hj (by decide +kernel) (cb_tw (i := 1894) (by decide +kernel)) (cb_run cb_tb_ok vd_J0_isLatin1_aae02 (cuts := [7]) 40 ?_)
    exact And.intro (fun q => absurd rfl q) (fun _ => And.intro cb_rt1 h)
def sp_tlen : Nat → List cb_V → Option ((cb_V → Prop) → Prop) := fun j r => match r with
  | [] => some fun K => K (cb_i (nI (cb_slen.getD j 0)))
  | _ => none
def pt_J0_length_8abf5 : cb_PT := cb_tx sp_tlen 0
theorem rs_J0_length_8abf5 : ∀ As a M K, pt_J0_length_8abf5 As a M K → ∃ j r, As = cb_r 91 j :: r ∧ j < 8 := cb_tx_rs
def md_J0_length_8abf5 : cb_D := (RJ0, cJ0_length_8abf5, 1, (some .int), (0, 0, 1, 20), [
  (0, .aload_n 0, 1, 0, 0, 0, 0),
  (5, .aload_n 0, 1, 0, 0, 0, 0),
  (6, .invokevirtual 335, 3, 0, 0, 0, 0),
  (9, .ishr, 1, 0, 0, 0, 0),
  (10, .ireturn, 1, 0, 0, 0, 0)],
  [(0, 335, 1, 0, 0, pt_J0_coder_7d493)], [])
set_option maxRecDepth 100000 in
theorem vd_J0_length_8abf5 : md_J0_length_8abf5.cd.all (cb_vE md_J0_length_8abf5) = true := by decide +kernel
theorem wd_J0_length_8abf5 : cb_wd yJ0_length_8abf5 md_J0_length_8abf5 := ⟨cb_tw (i := 650) (by decide +kernel), cb_tw (i := 18) (by decide +kernel), by decide, by decide⟩
theorem cs_J0_length_8abf5 : ∀ X, cb_Bs md_J0_length_8abf5 X → ∀ g ∈ md_J0_length_8abf5.ga, cb_CS cb_tb md_J0_length_8abf5 X g := fun X B => List.forall_mem_cons.mpr ⟨cb_csT B ok_J0_coder_7d493 wd_J0_coder_7d493 (cb_tw (i := 651) (by decide +kernel)) (cb_tw (i := 652) (by decide +kernel)) (cb_tw (i := 653) (by decide +kernel)) rfl rs_J0_coder_7d493 ⟨by decide, by decide⟩ (by decide +kernel), fun _ h => nomatch h⟩
theorem tx_shr : ∀ j, j < 8 → nI (cb_slen.getD j 0) >>> ((0 : Int32) &&& 31) = nI (cb_slen.getD j 0) := by decide +kernel
theorem ok_J0_length_8abf5 : cb_MOK cb_tb yJ0_length_8abf5 md_J0_length_8abf5 pt_J0_length_8abf5 := by
  refine cb_oktx ⟨by decide +kernel, rfl⟩ (by decide) cs_J0_length_8abf5 (by decide) (fun X j r a M hj hr h => ?_)
  match r, hr, h with
  | [], hr, h =>
    refine cb_run cb_tb_ok vd_J0_length_8abf5 (cuts := [1, 4]) 40 ?_
    refine ct_value (idx := 9) hj (by decide +kernel) (cb_tw (i := 1893) (by decide +kernel)) (ct_len hj (by decide +kernel) (cb_run cb_tb_ok vd_J0_length_8abf5 (cuts := [1, 4]) 40 ?_))
    refine ⟨rfl, hj, rfl, rfl, And.intro trivial ?_⟩
    have h : X.K (.inl (some (cb_i (nI (cb_slen.getD j 0))))) a M := h
    rw [← tx_shr j hj] at h
    exact h
/-! charAt -/
def pt_J3_checkIndex_8e157 : cb_PT := fun As a M K => match As with
  | [.inl x, .inl y, .inr (.inr _)] => (0 ≤ x ∧ x < y) ∧ K (.inl (some (cb_i x))) a M
  | _ => False
theorem pt_ci_to {As : List cb_V} {a : cb_A} {M : cb_M} {K : cb_Out → cb_A → cb_M → Prop} (h : pt_J3_checkIndex_8e157 As a M K) : ∃ x y v, As = [cb_i x, cb_i y, .inr (.inr v)] ∧ (0 ≤ x ∧ x < y) ∧ K (.inl (some (cb_i x))) a M := by
  unfold pt_J3_checkIndex_8e157 at h
  split at h
  · exact ⟨_, _, _, rfl, h⟩
  · exact h.elim
def md_J3_checkIndex_8e157 : cb_D := (RJ3, cJ3_checkIndex_8e157, 3, (some .int), (0, 0, 0, 0), [
  (0, .iload_n 0, 1, 0, 0, 0, 0),
  (1, .ifCond .lt 8, 3, 0, 9, 0, 0),
  (4, .iload_n 0, 1, 0, 0, 0, 0),
  (5, .iload_n 1, 1, 0, 1, 0, 0),
  (6, .if_icmp .lt 10, 3, 0, 16, 0, 0),
  (16, .iload_n 0, 1, 0, 0, 0, 0),
  (17, .ireturn, 1, 0, 0, 0, 0)],
  [], [])
set_option maxRecDepth 100000 in
theorem vd_J3_checkIndex_8e157 : md_J3_checkIndex_8e157.cd.all (cb_vE md_J3_checkIndex_8e157) = true := by decide +kernel
theorem wd_J3_checkIndex_8e157 : cb_wd yJ3_checkIndex_8e157 md_J3_checkIndex_8e157 := ⟨cb_tw (i := 675) (by decide +kernel), cb_tw (i := 20) (by decide +kernel), by decide, by decide⟩
theorem cs_J3_checkIndex_8e157 : ∀ X, cb_Bs md_J3_checkIndex_8e157 X → ∀ g ∈ md_J3_checkIndex_8e157.ga, cb_CS cb_tb md_J3_checkIndex_8e157 X g := fun X B => fun _ h => nomatch h
theorem ok_J3_checkIndex_8e157 : cb_MOK cb_tb yJ3_checkIndex_8e157 md_J3_checkIndex_8e157 pt_J3_checkIndex_8e157 := by
  refine cb_of ⟨by decide +kernel, rfl⟩ (fun As a M K h => ?_) cs_J3_checkIndex_8e157 (fun _ _ _ _ _ => cb_Ts0 (by decide)) (fun X As a M h => ?_)
  · obtain ⟨x, y, v, rfl, -⟩ := pt_ci_to h
    exact (by decide : 3 ≤ 3)
  · obtain ⟨x, y, v, rfl, ⟨h1, h2⟩, h⟩ := pt_ci_to h
    refine cb_run cb_tb_ok vd_J3_checkIndex_8e157 (cuts := [9]) 40 ?_
    exact And.intro (fun q => absurd q (Int32.not_lt.mpr h1)) (fun _ => And.intro (fun _ => And.intro trivial h) (fun q => absurd h2 q))
def pt_J0_checkIndex_df160 : cb_PT := fun As a M K => match As with
  | [.inl x, .inl y] => (0 ≤ x ∧ x < y) ∧ K (.inl none) a M
  | _ => False
theorem pt_cj_to {As : List cb_V} {a : cb_A} {M : cb_M} {K : cb_Out → cb_A → cb_M → Prop} (h : pt_J0_checkIndex_df160 As a M K) : ∃ x y, As = [cb_i x, cb_i y] ∧ (0 ≤ x ∧ x < y) ∧ K (.inl none) a M := by
  unfold pt_J0_checkIndex_df160 at h
  split at h
  · exact ⟨_, _, rfl, h⟩
  · exact h.elim
def md_J0_checkIndex_df160 : cb_D := (RJ0, cJ0_checkIndex_df160, 2, none, (0, 0, 1, 22), [
  (0, .iload_n 0, 1, 0, 0, 0, 0),
  (1, .iload_n 1, 1, 0, 1, 0, 0),
  (5, .invokestatic 1059, 3, 0, 0, 0, 0),
  (8, .pop, 1, 0, 0, 0, 0),
  (9, .return_, 1, 0, 0, 0, 0)],
  [(1, 1059, 3, 0, 0, pt_J3_checkIndex_8e157)], [])
set_option maxRecDepth 100000 in
theorem vd_J0_checkIndex_df160 : md_J0_checkIndex_df160.cd.all (cb_vE md_J0_checkIndex_df160) = true := by decide +kernel
theorem wd_J0_checkIndex_df160 : cb_wd yJ0_checkIndex_df160 md_J0_checkIndex_df160 := ⟨cb_tw (i := 670) (by decide +kernel), cb_tw (i := 18) (by decide +kernel), by decide, by decide⟩
theorem cs_J0_checkIndex_df160 : ∀ X, cb_Bs md_J0_checkIndex_df160 X → ∀ g ∈ md_J0_checkIndex_df160.ga, cb_CS cb_tb md_J0_checkIndex_df160 X g := fun X B => List.forall_mem_cons.mpr ⟨cb_csS B ok_J3_checkIndex_8e157 wd_J3_checkIndex_8e157 (cb_tw (i := 673) (by decide +kernel)) (cb_tw (i := 674) (by decide +kernel)) ⟨by decide, by decide⟩ (by decide +kernel), fun _ h => nomatch h⟩
theorem ok_J0_checkIndex_df160 : cb_MOK cb_tb yJ0_checkIndex_df160 md_J0_checkIndex_df160 pt_J0_checkIndex_df160 := by
  refine cb_of ⟨by decide +kernel, rfl⟩ (fun As a M K h => ?_) cs_J0_checkIndex_df160 (fun _ _ _ _ _ => cb_Ts0 (by decide)) (fun X As a M h => ?_)
  · obtain ⟨x, y, rfl, -⟩ := pt_cj_to h
    exact (by decide : 2 ≤ 2)
  · obtain ⟨x, y, rfl, hh, h⟩ := pt_cj_to h
    refine cb_run cb_tb_ok vd_J0_checkIndex_df160 (cuts := [2]) 40 ?_
    refine ct_fmt (idx := 1053) (by decide +kernel) (cb_tw (i := 671) (by decide +kernel)) (fun v => cb_run cb_tb_ok vd_J0_checkIndex_df160 (cuts := [2]) 40 ?_)
    exact ⟨hh, And.intro rfl h⟩
/-- the sign at a place of a text -/
def tx_ch (j k : Nat) : Int32 := (cb_sbyt.getD j []).getD k 0
theorem tx_c2 : ∀ j, j < 8 → ∀ k, k < cb_slen.getD j 0 → ((tx_ch j k &&& 255).toUInt32 % 65536).toInt32 = tx_ch j k ∧ (tx_ch j k).toUInt32.toUInt16.toUInt32.toInt32 = tx_ch j k := by decide +kernel
def pt_J1_charAt_3b067 : cb_PT := fun As a M K => match As with
  | [.inr (.inr (some (t, j))), .inl x] => t = 92 ∧ j < 8 ∧ ∃ k, k < cb_slen.getD j 0 ∧ x = nI k ∧ K (.inl (some (cb_i (tx_ch j k)))) a M
  | _ => False
theorem pt_ca_to {As : List cb_V} {a : cb_A} {M : cb_M} {K : cb_Out → cb_A → cb_M → Prop} (h : pt_J1_charAt_3b067 As a M K) : ∃ j k, As = [cb_r 92 j, cb_i (nI k)] ∧ j < 8 ∧ k < cb_slen.getD j 0 ∧ K (.inl (some (cb_i (tx_ch j k)))) a M := by
  unfold pt_J1_charAt_3b067 at h
  split at h
  · obtain ⟨rfl, h1, k, h2, rfl, h3⟩ := h
    exact ⟨_, k, rfl, h1, h2, h3⟩
  · exact h.elim
theorem tx_len : ∀ j, j < 8 → cb_slen.getD j 0 ≤ 5 := by decide
def md_J1_charAt_3b067 : cb_D := (RJ1, cJ1_charAt_3b067, 2, (some .char), (0, 0, 2, 43), [
  (0, .iload_n 1, 1, 0, 1, 0, 0),
  (1, .aload_n 0, 1, 0, 0, 0, 0),
  (3, .invokestatic 9, 3, 0, 0, 0, 0),
  (6, .aload_n 0, 1, 0, 0, 0, 0),
  (7, .iload_n 1, 1, 0, 1, 0, 0),
  (9, .sipush 255, 3, 255, 0, 0, 0),
  (12, .iand, 1, 0, 0, 0, 0),
  (14, .ireturn, 1, 0, 0, 0, 0)],
  [(1, 9, 2, 0, 0, pt_J0_checkIndex_df160)], [])
set_option maxRecDepth 100000 in
theorem vd_J1_charAt_3b067 : md_J1_charAt_3b067.cd.all (cb_vE md_J1_charAt_3b067) = true := by decide +kernel
theorem wd_J1_charAt_3b067 : cb_wd yJ1_charAt_3b067 md_J1_charAt_3b067 := ⟨cb_tw (i := 667) (by decide +kernel), cb_tw (i := 19) (by decide +kernel), by decide, by decide⟩
theorem cs_J1_charAt_3b067 : ∀ X, cb_Bs md_J1_charAt_3b067 X → ∀ g ∈ md_J1_charAt_3b067.ga, cb_CS cb_tb md_J1_charAt_3b067 X g := fun X B => List.forall_mem_cons.mpr ⟨cb_csS B ok_J0_checkIndex_df160 wd_J0_checkIndex_df160 (cb_tw (i := 668) (by decide +kernel)) (cb_tw (i := 669) (by decide +kernel)) ⟨by decide, by decide⟩ (by decide +kernel), fun _ h => nomatch h⟩
theorem ok_J1_charAt_3b067 : cb_MOK cb_tb yJ1_charAt_3b067 md_J1_charAt_3b067 pt_J1_charAt_3b067 := by
  refine cb_of ⟨by decide +kernel, rfl⟩ (fun As a M K h => ?_) cs_J1_charAt_3b067 (fun _ _ _ _ _ => cb_Ts0 (by decide)) (fun X As a M h => ?_)
  · obtain ⟨j, k, rfl, -⟩ := pt_ca_to h
    exact (by decide : 2 ≤ 2)
  · obtain ⟨j, k, rfl, hj, hk, h⟩ := pt_ca_to h
    have h5 := tx_len j hj
    obtain ⟨e1, e2⟩ := tx_c2 j hj k hk
    have hc : (nI k).toNatClampNeg = k := nI_clamp (by omega)
    refine cb_run cb_tb_ok vd_J1_charAt_3b067 (cuts := [2, 8, 13]) 40 ?_
    refine ct_len hj (by decide +kernel) (cb_run cb_tb_ok vd_J1_charAt_3b067 (cuts := [2, 8, 13]) 40 ?_)
    refine ⟨⟨nI_pos' (by omega), nI_lt hk (by omega)⟩, ?_⟩
    refine ct_byte hj (vp_in_nI hk (by omega)) (by decide +kernel) (cb_run cb_tb_ok vd_J1_charAt_3b067 (cuts := [2, 8, 13]) 40 ?_)
    refine ct_i2c (by decide +kernel) (cb_run cb_tb_ok vd_J1_charAt_3b067 (cuts := [2, 8, 13]) 40 ?_)
    have e3 : (((cb_sbyt.getD j []).getD (nI k).toNatClampNeg 0 &&& 255).toUInt32 % 65536).toInt32 = tx_ch j k := by rw [hc]; exact e1
    show cb_rv (some .char) (((cb_sbyt.getD j []).getD (nI k).toNatClampNeg 0 &&& 255).toUInt32 % 65536).toInt32 ∧ X.K (.inl (some (cb_i (((cb_sbyt.getD j []).getD (nI k).toNatClampNeg 0 &&& 255).toUInt32 % 65536).toInt32))) a M
    rw [e3]
    exact And.intro e2 h
def sp_tch : Nat → List cb_V → Option ((cb_V → Prop) → Prop) := fun j r => match r with
  | [.inl x] => some fun K => ∃ k, k < cb_slen.getD j 0 ∧ x = nI k ∧ K (cb_i (tx_ch j k))
  | _ => none
def pt_J0_charAt_5068e : cb_PT := cb_tx sp_tch 1
theorem rs_J0_charAt_5068e : ∀ As a M K, pt_J0_charAt_5068e As a M K → ∃ j r, As = cb_r 91 j :: r ∧ j < 8 := cb_tx_rs
def md_J0_charAt_5068e : cb_D := (RJ0, cJ0_charAt_5068e, 2, (some .char), (0, 0, 3, 64), [
  (0, .aload_n 0, 1, 0, 0, 0, 0),
  (1, .invokevirtual 492, 3, 0, 0, 0, 0),
  (4, .ifCond .eq 12, 3, 0, 16, 0, 0),
  (7, .aload_n 0, 1, 0, 0, 0, 0),
  (11, .iload_n 1, 1, 0, 1, 0, 0),
  (12, .invokestatic 495, 3, 0, 1, 0, 0),
  (15, .ireturn, 1, 0, 0, 0, 0)],
  [(0, 492, 1, 0, 0, pt_J0_isLatin1_aae02), (1, 495, 2, 0, 0, pt_J1_charAt_3b067)], [])
set_option maxRecDepth 100000 in
theorem vd_J0_charAt_5068e : md_J0_charAt_5068e.cd.all (cb_vE md_J0_charAt_5068e) = true := by decide +kernel
theorem wd_J0_charAt_5068e : cb_wd yJ0_charAt_5068e md_J0_charAt_5068e := ⟨cb_tw (i := 660) (by decide +kernel), cb_tw (i := 18) (by decide +kernel), by decide, by decide⟩
theorem cs_J0_charAt_5068e : ∀ X, cb_Bs md_J0_charAt_5068e X → ∀ g ∈ md_J0_charAt_5068e.ga, cb_CS cb_tb md_J0_charAt_5068e X g := fun X B => List.forall_mem_cons.mpr ⟨cb_csT B ok_J0_isLatin1_aae02 wd_J0_isLatin1_aae02 (cb_tw (i := 661) (by decide +kernel)) (cb_tw (i := 662) (by decide +kernel)) (cb_tw (i := 663) (by decide +kernel)) rfl rs_J0_isLatin1_aae02 ⟨by decide, by decide⟩ (by decide +kernel), List.forall_mem_cons.mpr ⟨cb_csS B ok_J1_charAt_3b067 wd_J1_charAt_3b067 (cb_tw (i := 665) (by decide +kernel)) (cb_tw (i := 666) (by decide +kernel)) ⟨by decide, by decide⟩ (by decide +kernel), fun _ h => nomatch h⟩⟩
theorem ok_J0_charAt_5068e : cb_MOK cb_tb yJ0_charAt_5068e md_J0_charAt_5068e pt_J0_charAt_5068e := by
  refine cb_oktx ⟨by decide +kernel, rfl⟩ (by decide) cs_J0_charAt_5068e (by decide) (fun X j r a M hj hr h => ?_)
  match r, hr, h with
  | [.inl x], hr, h =>
    obtain ⟨k, hk, rfl, h⟩ := h
    refine cb_run cb_tb_ok vd_J0_charAt_5068e (cuts := [8, 16]) 40 ?_
    refine ⟨rfl, hj, rfl, rfl, And.intro (fun q => absurd q (show ¬ (1 : Int32) = 0 by decide)) (fun _ => ?_)⟩
    refine ct_value (idx := 9) hj (by decide +kernel) (cb_tw (i := 1893) (by decide +kernel)) (cb_run cb_tb_ok vd_J0_charAt_5068e (cuts := [8, 16]) 40 ?_)
    exact ⟨rfl, hj, k, hk, rfl, And.intro (tx_c2 j hj k hk).2 h⟩
