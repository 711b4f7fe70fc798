/-! ===== the reference: its reader's numbers ===== -/
/-- its reader stands here -/
def mr_E (M : cb_M) (len at_ : Nat) : Prop := cb_gI M 46 0 2 = nI len ∧ len ≤ 600 ∧ cb_gI M 46 0 4 = nI at_ ∧ at_ ≤ len
def fr_R (t j : Nat) : Bool := Nat.beq t 46 && (Nat.beq j 4 || (Nat.beq j 5 || Nat.beq j 6))
theorem mr_E_fr {M M' : cb_M} {len a b : Nat} (h : mr_E M len a) (hF : cb_fr fr_R M M') (h2 : cb_gI M' 46 0 4 = nI b) (hb : b ≤ len) : mr_E M' len b := ⟨(hF.1 46 0 2 rfl).trans h.1, h.2.1, h2, hb⟩
def mr_by (mt : wm_F) (len j : Nat) : Int32 := if j < len then mt j else -1
def sp_X10_byteAt : cb_Sp := fun _ r M K => match r with
  | [.inl x] => ∃ len j, (cb_gI M 46 0 2 = nI len ∧ len ≤ 600 ∧ x = nI j ∧ j ≤ 1000000) ∧ K (some (cb_i (mr_by (cb_gI M 47 0) len j))) M
  | _ => False
def pt_X10_byteAt : cb_PT := cb_m 46 1 sp_X10_byteAt
theorem rc_X10_byteAt : cb_rc cb_tb RX10 pt_X10_byteAt := cb_m_rc rfl rfl
def md_X10_byteAt : cb_D := (RX10, cX10_byteAt, 2, (some .int), (0, 0, 0, 0), [
  (0, .iload_n 1, 1, 0, 1, 0, 0),
  (1, .aload_n 0, 1, 0, 0, 0, 0),
  (2, .getfield 132, 3, 0, 10, 2, 1330),
  (5, .if_icmp .lt 7, 3, 0, 12, 0, 0),
  (8, .iconst (-1), 1, (-1), 0, 0, 0),
  (9, .goto 9, 3, 0, 18, 0, 0),
  (12, .aload_n 0, 1, 0, 0, 0, 0),
  (13, .getfield 13, 3, 0, 10, 8, 1336),
  (16, .iload_n 1, 1, 0, 1, 0, 0),
  (17, .iaload, 1, 0, 0, 0, 0),
  (18, .ireturn, 1, 0, 0, 0, 0)],
  [], [])
set_option maxRecDepth 100000 in
theorem vd_X10_byteAt : md_X10_byteAt.cd.all (cb_vE md_X10_byteAt) = true := by decide +kernel
theorem wd_X10_byteAt : cb_wd yX10_byteAt md_X10_byteAt := ⟨cb_tw (i := 1518) (by decide +kernel), cb_tw (i := 11) (by decide +kernel), by decide, by decide⟩
theorem cs_X10_byteAt : ∀ X, cb_Bs md_X10_byteAt X → ∀ g ∈ md_X10_byteAt.ga, cb_CS cb_tb md_X10_byteAt X g := fun X B => fun _ h => nomatch h
theorem ok_X10_byteAt : cb_MOK cb_tb yX10_byteAt md_X10_byteAt pt_X10_byteAt := by
  refine cb_okm ⟨plainFor_of_name (by decide), rfl⟩ (by decide) cs_X10_byteAt (by decide) (fun X n0 f i r M hr ha h => ?_)
  have h0 := cb_a1 (T := 46) rfl ha
  subst h0
  match r, hr, h with
  | [.inl x], hr, h =>
    obtain ⟨len, j, ⟨hl, hl6, hx, hj⟩, h⟩ := h
    unfold mr_by at h
    refine cb_run cb_tb_ok vd_X10_byteAt (cuts := []) 90 ?_
    refine And.intro (fun q => ?_) (fun q => ?_)
    · have q : x < cb_gI M 46 0 2 := q
      rw [hx, hl] at q
      have q := (nI_ltI (by omega) (by omega)).mp q
      rw [if_pos q] at h
      refine And.intro (by rw [hx]; exact vp_in_nI (by omega) (by decide)) (And.intro trivial (cb_eqK h ?_))
      rw [hx, nI_clamp (by omega)]
    · have q : ¬ x < cb_gI M 46 0 2 := q
      rw [hx, hl] at q
      have q : ¬ j < len := fun w => q (nI_lt w (by omega))
      rw [if_neg q] at h
      exact And.intro trivial h
def sp_X10_wrong : cb_Sp := fun _ r M K => match r with
  | [.inl k, .inl p] => (¬ cb_gI M 46 0 5 = 0 → K none M) ∧ (cb_gI M 46 0 5 = 0 → K none (cb_sI (cb_sI M 46 0 5 k) 46 0 6 p))
  | _ => False
def pt_X10_wrong : cb_PT := cb_m 46 2 sp_X10_wrong
theorem rc_X10_wrong : cb_rc cb_tb RX10 pt_X10_wrong := cb_m_rc rfl rfl
def md_X10_wrong : cb_D := (RX10, cX10_wrong, 3, none, (0, 0, 0, 0), [
  (0, .aload_n 0, 1, 0, 0, 0, 0),
  (1, .getfield 142, 3, 0, 10, 5, 1333),
  (4, .ifCond .ne 13, 3, 0, 17, 0, 0),
  (7, .aload_n 0, 1, 0, 0, 0, 0),
  (8, .iload_n 1, 1, 0, 1, 0, 0),
  (9, .putfield 142, 3, 0, 10, 5, 1333),
  (12, .aload_n 0, 1, 0, 0, 0, 0),
  (13, .iload_n 2, 1, 0, 2, 0, 0),
  (14, .putfield 145, 3, 0, 10, 6, 1334),
  (17, .return_, 1, 0, 0, 0, 0)],
  [], [])
set_option maxRecDepth 100000 in
theorem vd_X10_wrong : md_X10_wrong.cd.all (cb_vE md_X10_wrong) = true := by decide +kernel
theorem wd_X10_wrong : cb_wd yX10_wrong md_X10_wrong := ⟨cb_tw (i := 1541) (by decide +kernel), cb_tw (i := 11) (by decide +kernel), by decide, by decide⟩
theorem cs_X10_wrong : ∀ X, cb_Bs md_X10_wrong X → ∀ g ∈ md_X10_wrong.ga, cb_CS cb_tb md_X10_wrong X g := fun X B => fun _ h => nomatch h
theorem ok_X10_wrong : cb_MOK cb_tb yX10_wrong md_X10_wrong pt_X10_wrong := by
  refine cb_okm ⟨plainFor_of_name (by decide), rfl⟩ (by decide) cs_X10_wrong (by decide) (fun X n0 f i r M hr ha h => ?_)
  have h0 := cb_a1 (T := 46) rfl ha
  subst h0
  match r, hr, h with
  | [.inl k, .inl p], hr, h =>
    refine cb_run cb_tb_ok vd_X10_wrong (cuts := []) 90 ?_
    exact And.intro (fun q => And.intro rfl (h.1 q)) (fun q => And.intro rfl (h.2 (Classical.not_not.mp q)))
def fr_R4 (t j : Nat) : Bool := Nat.beq t 46 && Nat.beq j 4
theorem fr_R4_R : ∀ t j, fr_R4 t j = true → fr_R t j = true := by
  intro t j h
  unfold fr_R4 at h
  rw [Bool.and_eq_true] at h
  have h1 := Nat.eq_of_beq_eq_true h.1
  have h2 := Nat.eq_of_beq_eq_true h.2
  subst h1 h2
  rfl
def sp_X10_blanks : cb_Sp := fun _ r M K => match r with
  | [] => ∃ len at_, mr_E M len at_ ∧ ∀ M', cb_fr fr_R4 M M' → mr_E M' len (rd_end (rd_bl (cb_gI M 47 0)) len at_) → K none M'
  | _ => False
def pt_X10_blanks : cb_PT := cb_m 46 0 sp_X10_blanks
theorem rc_X10_blanks : cb_rc cb_tb RX10 pt_X10_blanks := cb_m_rc rfl rfl
def md_X10_blanks : cb_D := (RX10, cX10_blanks, 1, none, (0, 0, 1, 21), [
  (0, .aload_n 0, 1, 0, 0, 0, 0),
  (1, .aload_n 0, 1, 0, 0, 0, 0),
  (2, .getfield 135, 3, 0, 10, 4, 1332),
  (5, .invokevirtual 138, 3, 0, 0, 0, 0),
  (8, .bipush 32, 2, 32, 0, 0, 0),
  (10, .if_icmp .ne 16, 3, 0, 26, 0, 0),
  (13, .aload_n 0, 1, 0, 0, 0, 0),
  (14, .dup, 1, 0, 0, 0, 0),
  (15, .getfield 135, 3, 0, 10, 4, 1332),
  (18, .iconst 1, 1, 1, 0, 0, 0),
  (19, .iadd, 1, 0, 0, 0, 0),
  (20, .putfield 135, 3, 0, 10, 4, 1332),
  (23, .goto (-23), 3, 0, 0, 0, 0),
  (26, .return_, 1, 0, 0, 0, 0)],
  [(0, 138, 2, 0, 0, pt_X10_byteAt)], [])
set_option maxRecDepth 100000 in
theorem vd_X10_blanks : md_X10_blanks.cd.all (cb_vE md_X10_blanks) = true := by decide +kernel
theorem wd_X10_blanks : cb_wd yX10_blanks md_X10_blanks := ⟨cb_tw (i := 1514) (by decide +kernel), cb_tw (i := 11) (by decide +kernel), by decide, by decide⟩
theorem cs_X10_blanks : ∀ X, cb_Bs md_X10_blanks X → ∀ g ∈ md_X10_blanks.ga, cb_CS cb_tb md_X10_blanks X g := fun X B => List.forall_mem_cons.mpr ⟨cb_csV B ok_X10_byteAt wd_X10_byteAt (cb_tw (i := 1515) (by decide +kernel)) (cb_tw (i := 1517) (by decide +kernel)) (cb_tp (i := 47) (by decide +kernel)) rc_X10_byteAt ⟨by decide, by decide⟩ (by decide +kernel), fun _ h => nomatch h⟩
theorem ok_X10_blanks : cb_MOK cb_tb yX10_blanks md_X10_blanks pt_X10_blanks := by
  refine cb_okm ⟨plainFor_of_name (by decide), rfl⟩ (by decide) cs_X10_blanks (by decide) (fun X n0 f i r M hr ha h => ?_)
  have h0 := cb_a1 (T := 46) rfl ha
  subst h0
  match r, hr, h with
  | [], hr, h =>
    obtain ⟨len, at_, hE, h⟩ := h
    obtain ⟨e1, e2, e3, e4⟩ := id hE
    have loop : ∀ g i M', len - i = g → i ≤ len → cb_fr fr_R4 M M' → cb_gI M' 46 0 4 = nI i → rd_end (rd_bl (cb_gI M 47 0)) len i = rd_end (rd_bl (cb_gI M 47 0)) len at_ → cb_Gd cb_tb md_X10_blanks X 0 [some (cb_r 46 0)] [] (cb_aS n0, f) M' 0 0 := by
      intro g
      induction g with
      | zero =>
        intro i M' hg hi hF h2 hz
        have hil : ¬ i < len := by omega
        refine cb_run cb_tb_ok vd_X10_blanks (cuts := [0]) 90 ?_
        refine And.intro (cb_on rfl) ⟨len, i, ⟨(hF.1 46 0 2 rfl).trans e1, e2, h2, by omega⟩, ?_⟩
        unfold mr_by
        rw [if_neg hil]
        refine cb_ifne (fun _ => And.intro rfl (h M' hF (mr_E_fr hE (hF.mono fr_R4_R) ?_ (rd_end_le e4)))) (fun q => absurd q (by decide))
        rw [← hz, rd_end_out (by omega)]
        exact h2
      | succ g ih =>
        intro i M' hg hi hF h2 hz
        have hil : i < len := by omega
        refine cb_run cb_tb_ok vd_X10_blanks (cuts := [0]) 90 ?_
        refine And.intro (cb_on rfl) ⟨len, i, ⟨(hF.1 46 0 2 rfl).trans e1, e2, h2, by omega⟩, ?_⟩
        unfold mr_by
        rw [if_pos hil, hF.1 47 0 i rfl]
        refine cb_ifne (fun q => And.intro rfl (h M' hF (mr_E_fr hE (hF.mono fr_R4_R) ?_ (rd_end_le e4)))) (fun q => ?_)
        · rw [← hz, rd_end_out (fun w => q (of_decide_eq_true w.2))]
          exact h2
        · show cb_Gd cb_tb md_X10_blanks X 0 [some (cb_r 46 0)] [] (cb_aS n0, f) (cb_sI M' 46 0 4 (cb_gI M' 46 0 4 + 1)) 0 0
          rw [h2, nI_1]
          refine ih (i + 1) _ (by omega) (by omega) (hF.set _ rfl) (cb_gs_eq _ _ _ _ _) ?_
          rw [← hz]
          exact (rd_end_in hil (decide_eq_true q)).symm
    exact loop _ at_ M rfl e4 (cb_fr.refl M) e3 rfl
/-- a number as the reference counts it -/
def mr_dv (mt : wm_F) : Nat → Nat → Int32 → Int32
  | 0, _, v => v
  | f + 1, a, v => if rd_dg (mt a) = true then mr_dv mt f (a + 1) (if 10 * v + mt a - 48 ≤ 100000 then 10 * v + mt a - 48 else 100000) else v
/-- it and the class's number -/
def mr_rel (v w : Int32) : Prop := (∃ k, k < 10000 ∧ v = nI k ∧ w = nI k) ∨ (w = 10000 ∧ ∃ k, 10000 ≤ k ∧ k ≤ 100000 ∧ v = nI k)
theorem rd_dg_nI {c : Int32} (h : rd_dg c = true) : ∃ d, d ≤ 9 ∧ c = nI (48 + d) := by
  have q := of_decide_eq_true h
  obtain ⟨k, k1, k2, e⟩ := wg_r_yes (lo := 48) (hi := 57) (x := c) (by decide) (fun w => w.elim q.1 q.2) (by decide)
  exact ⟨k - 48, by omega, by rw [e]; congr 1; omega⟩
theorem mr_rel_step {v w c : Int32} (h : mr_rel v w) (hc : rd_dg c = true) : mr_rel (if 10 * v + c - 48 ≤ 100000 then 10 * v + c - 48 else 100000) (wm_min 10000 (w * 10 + (c - 48))) := by
  obtain ⟨d, hd, rfl⟩ := rd_dg_nI hc
  have e10 : ∀ k, (10 : Int32) * nI k + nI (48 + d) - 48 = nI (10 * k + d) := fun k => by
    rw [show (10 : Int32) = nI 10 from rfl, show nI 10 * nI k = nI (10 * k) from (Int32.ofNat_mul 10 k).symm, nI_add, show (48 : Int32) = nI 48 from rfl, ← nI_sub (by omega)]
    congr 1
    omega
  have c10 : ∀ k, nI k * 10 + (nI (48 + d) - 48) = nI (10 * k + d) := fun k => by
    rw [show (10 : Int32) = nI 10 from rfl, show nI k * nI 10 = nI (k * 10) from (Int32.ofNat_mul k 10).symm, show (48 : Int32) = nI 48 from rfl, ← nI_sub (by omega), nI_add]
    congr 1
    omega
  have mn : ∀ m, m < 2 ^ 31 → wm_min 10000 (nI m) = nI (min 10000 m) := fun m hm => wm_min_nI (a := 10000) (by decide) hm
  rcases h with ⟨k, hk, rfl, rfl⟩ | ⟨rfl, k, k1, k2, rfl⟩
  · rw [e10, c10, mn _ (by omega), if_pos (show nI (10 * k + d) ≤ 100000 from nI_le (b := 100000) (by omega) (by decide))]
    by_cases q : 10 * k + d < 10000
    · rw [Nat.min_eq_right (by omega)]
      exact Or.inl ⟨_, q, rfl, rfl⟩
    · rw [Nat.min_eq_left (by omega)]
      exact Or.inr ⟨rfl, _, by omega, by omega, rfl⟩
  · rw [e10, show (10000 : Int32) * 10 + (nI (48 + d) - 48) = nI (10 * 10000 + d) from c10 10000, mn _ (by omega), Nat.min_eq_left (by omega)]
    refine Or.inr ⟨rfl, ?_⟩
    by_cases q : 10 * k + d ≤ 100000
    · rw [if_pos (show nI (10 * k + d) ≤ 100000 from nI_le (b := 100000) q (by decide))]
      exact ⟨_, by omega, q, rfl⟩
    · rw [if_neg (show ¬ nI (10 * k + d) ≤ 100000 from nI_ge (a := 100000) (by omega) (by omega))]
      exact ⟨100000, by decide, by decide, rfl⟩
theorem mr_rel_dv {mt : wm_F} : ∀ {f a : Nat} {v w : Int32}, mr_rel v w → mr_rel (mr_dv mt f a v) (rd_dv mt f a w)
  | 0, _, _, _, h => h
  | f + 1, a, v, w, h => by
    rw [mr_dv, rd_dv]
    by_cases q : rd_dg (mt a) = true
    · rw [if_pos q, if_pos q]
      exact mr_rel_dv (mr_rel_step h q)
    · rw [if_neg q, if_neg q]
      exact h
theorem mr_rel_in {v w lo : Int32} {hi : Nat} (h : mr_rel v w) (hh : hi < 10000) : (mi_in v lo (nI hi) = true ↔ ¬ (w < lo ∨ nI hi < w)) ∧ (¬ (w < lo ∨ nI hi < w) → v = w) := by
  rcases h with ⟨k, hk, rfl, rfl⟩ | ⟨rfl, k, k1, k2, rfl⟩
  · refine ⟨⟨mi_in_t, fun q => ?_⟩, fun _ => rfl⟩
    cases z : mi_in (nI k) lo (nI hi) with
    | true => rfl
    | false => exact absurd (mi_in_f z) q
  · have h1 : nI hi < nI k := nI_lt (by omega) (by omega)
    have h2 : nI hi < 10000 := nI_lt (b := 10000) (by omega) (by decide)
    exact ⟨⟨fun q => absurd (Or.inr h1) (mi_in_t q), fun q => absurd (Or.inr h2) q⟩, fun q => absurd (Or.inr h2) q⟩
def mr_num (mt : wm_F) (len : Nat) (lo hi nt : Int32) (at_ : Nat) : rd_X ⊕ (Int32 × Nat × Nat) := rd_b (rd_num mt len lo hi at_) fun r => if r.1 = nt then .inl (2, r.2.2) else .inr r
def mr_p (M : cb_M) (len : Nat) (r : rd_X ⊕ (Int32 × Nat × Nat)) (v : Int32) (M' : cb_M) : Prop := match r with
  | .inl (k, b) => v = 0 ∧ ¬ k = 0 ∧ cb_gI M' 46 0 5 = k ∧ cb_gI M' 46 0 6 = nI b ∧ ∃ a, mr_E M' len a
  | .inr (w, e, _) => v = w ∧ mr_E M' len e ∧ cb_gI M' 46 0 5 = 0 ∧ cb_gI M' 46 0 6 = cb_gI M 46 0 6
def sp_X10_number : cb_Sp := fun _ r M K => match r with
  | [.inl lo, .inl hi, .inl nt] => ∃ len at_ h, (mr_E M len at_ ∧ hi = nI h - 1 ∧ h ≤ 1000) ∧ (¬ cb_gI M 46 0 5 = 0 → K (some (cb_i 0)) M) ∧ (cb_gI M 46 0 5 = 0 → ∀ M' v, cb_fr fr_R M M' → mr_p M len (mr_num (cb_gI M 47 0) len lo hi nt at_) v M' → K (some (cb_i v)) M')
  | _ => False
theorem mr_hi {v w lo : Int32} {h : Nat} (hr : mr_rel v w) (hh : h ≤ 1000) (h0 : 0 ≤ w) : (mi_in v lo (nI h - 1) = true ↔ ¬ (w < lo ∨ nI h - 1 < w)) ∧ (¬ (w < lo ∨ nI h - 1 < w) → v = w) := by
  cases h with
  | succ m =>
    rw [nI_pred]
    exact mr_rel_in hr (by omega)
  | zero =>
    have m1 : nI 0 - 1 = (-1 : Int32) := by decide
    rw [m1]
    have hv : 0 ≤ v := by
      rcases hr with ⟨k, hk, rfl, -⟩ | ⟨-, k, k1, k2, rfl⟩
      · exact nI_pos' (by omega)
      · exact nI_pos' (by omega)
    have a1 : (-1 : Int32) < w := Int32.lt_of_lt_of_le (by decide) h0
    have a2 : (-1 : Int32) < v := Int32.lt_of_lt_of_le (by decide) hv
    exact ⟨⟨fun q => absurd (Or.inr a2) (mi_in_t q), fun q => absurd (Or.inr a1) q⟩, fun q => absurd (Or.inr a1) q⟩
theorem mr_rel_0 {v w : Int32} (h : mr_rel v w) : 0 ≤ w := by
  rcases h with ⟨k, hk, -, rfl⟩ | ⟨rfl, -⟩
  · exact nI_pos' (by omega)
  · decide
