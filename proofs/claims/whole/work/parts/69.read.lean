/-! ===== the reference: its reader's numbers ===== -/
/-- its reader stands here -/
def mr_E (M : cb_M) (len at_ : Nat) : Prop := cb_gI M 46 0 2 = nI len ∧ len ≤ 600 ∧ cb_gI M 46 0 4 = nI at_ ∧ at_ ≤ len
def fr_R (t j : Nat) : Bool := Nat.beq t 46 && (Nat.beq j 4 || (Nat.beq j 5 || Nat.beq j 6))
theorem mr_E_fr {M M' : cb_M} {len a b : Nat} (h : mr_E M len a) (hF : cb_fr fr_R M M') (h2 : cb_gI M' 46 0 4 = nI b) (hb : b ≤ len) : mr_E M' len b := ⟨(hF.1 46 0 2 rfl).trans h.1, h.2.1, h2, hb⟩
def mr_by (mt : wm_F) (len j : Nat) : Int32 := if j < len then mt j else -1
def sp_X10_byteAt : cb_Sp := fun _ r M K => match r with
  | [.inl x] => ∃ len j, (cb_gI M 46 0 2 = nI len ∧ len ≤ 600 ∧ x = nI j ∧ j ≤ 1000000) ∧ K (some (cb_i (mr_by (cb_gI M 47 0) len j))) M
  | _ => False
def pt_X10_byteAt : cb_PT := cb_m 46 1 sp_X10_byteAt
theorem rc_X10_byteAt : cb_rc cb_tb RX10 pt_X10_byteAt := cb_m_rc rfl rfl
def md_X10_byteAt : cb_D := (RX10, cX10_byteAt, 2, (some .int), (0, 0, 0, 0), [
  (0, .iload_n 1, 1, 0, 1, 0, 0),
  (1, .aload_n 0, 1, 0, 0, 0, 0),
  (2, .getfield 132, 3, 0, 10, 2, 1330),
  (5, .if_icmp .lt 7, 3, 0, 12, 0, 0),
  (8, .iconst (-1), 1, (-1), 0, 0, 0),
  (9, .goto 9, 3, 0, 18, 0, 0),
  (12, .aload_n 0, 1, 0, 0, 0, 0),
  (13, .getfield 13, 3, 0, 10, 8, 1336),
  (16, .iload_n 1, 1, 0, 1, 0, 0),
  (17, .iaload, 1, 0, 0, 0, 0),
  (18, .ireturn, 1, 0, 0, 0, 0)],
  [], [])
set_option maxRecDepth 100000 in
theorem vd_X10_byteAt : md_X10_byteAt.cd.all (cb_vE md_X10_byteAt) = true := by decide +kernel
theorem wd_X10_byteAt : cb_wd yX10_byteAt md_X10_byteAt := ⟨cb_tw (i := 1518) (by decide +kernel), cb_tw (i := 11) (by decide +kernel), by decide, by decide⟩
theorem cs_X10_byteAt : ∀ X, cb_Bs md_X10_byteAt X → ∀ g ∈ md_X10_byteAt.ga, cb_CS cb_tb md_X10_byteAt X g := fun X B => fun _ h => nomatch h
theorem ok_X10_byteAt : cb_MOK cb_tb yX10_byteAt md_X10_byteAt pt_X10_byteAt := by
  refine cb_okm ⟨plainFor_of_name (by decide), rfl⟩ (by decide) cs_X10_byteAt (by decide) (fun X n0 f i r M hr ha h => ?_)
  have h0 := cb_a1 (T := 46) rfl ha
  subst h0
  match r, hr, h with
  | [.inl x], hr, h =>
    obtain ⟨len, j, ⟨hl, hl6, hx, hj⟩, h⟩ := h
    unfold mr_by at h
    refine cb_run cb_tb_ok vd_X10_byteAt (cuts := []) 90 ?_
    refine And.intro (fun q => ?_) (fun q => ?_)
    · have q : x < cb_gI M 46 0 2 := q
      rw [hx, hl] at q
      have q := (nI_ltI (by omega) (by omega)).mp q
      rw [if_pos q] at h
      have hxi : vp_in x 600 := by rw [hx]; exact vp_in_nI (by omega) (by decide)
      refine And.intro hxi (And.intro trivial (cb_eqK h ?_))
      rw [hx, nI_clamp (by omega)]
    · have q : ¬ x < cb_gI M 46 0 2 := q
      rw [hx, hl] at q
      have q : ¬ j < len := fun w => q (nI_lt w (by omega))
      rw [if_neg q] at h
      exact And.intro trivial h
def sp_X10_wrong : cb_Sp := fun _ r M K => match r with
  | [.inl k, .inl p] => (¬ cb_gI M 46 0 5 = 0 → K none M) ∧ (cb_gI M 46 0 5 = 0 → K none (cb_sI (cb_sI M 46 0 5 k) 46 0 6 p))
  | _ => False
def pt_X10_wrong : cb_PT := cb_m 46 2 sp_X10_wrong
theorem rc_X10_wrong : cb_rc cb_tb RX10 pt_X10_wrong := cb_m_rc rfl rfl
def md_X10_wrong : cb_D := (RX10, cX10_wrong, 3, none, (0, 0, 0, 0), [
  (0, .aload_n 0, 1, 0, 0, 0, 0),
  (1, .getfield 142, 3, 0, 10, 5, 1333),
  (4, .ifCond .ne 13, 3, 0, 17, 0, 0),
  (7, .aload_n 0, 1, 0, 0, 0, 0),
  (8, .iload_n 1, 1, 0, 1, 0, 0),
  (9, .putfield 142, 3, 0, 10, 5, 1333),
  (12, .aload_n 0, 1, 0, 0, 0, 0),
  (13, .iload_n 2, 1, 0, 2, 0, 0),
  (14, .putfield 145, 3, 0, 10, 6, 1334),
  (17, .return_, 1, 0, 0, 0, 0)],
  [], [])
set_option maxRecDepth 100000 in
theorem vd_X10_wrong : md_X10_wrong.cd.all (cb_vE md_X10_wrong) = true := by decide +kernel
theorem wd_X10_wrong : cb_wd yX10_wrong md_X10_wrong := ⟨cb_tw (i := 1541) (by decide +kernel), cb_tw (i := 11) (by decide +kernel), by decide, by decide⟩
theorem cs_X10_wrong : ∀ X, cb_Bs md_X10_wrong X → ∀ g ∈ md_X10_wrong.ga, cb_CS cb_tb md_X10_wrong X g := fun X B => fun _ h => nomatch h
theorem ok_X10_wrong : cb_MOK cb_tb yX10_wrong md_X10_wrong pt_X10_wrong := by
  refine cb_okm ⟨plainFor_of_name (by decide), rfl⟩ (by decide) cs_X10_wrong (by decide) (fun X n0 f i r M hr ha h => ?_)
  have h0 := cb_a1 (T := 46) rfl ha
  subst h0
  match r, hr, h with
  | [.inl k, .inl p], hr, h =>
    refine cb_run cb_tb_ok vd_X10_wrong (cuts := []) 90 ?_
    exact And.intro (fun q => And.intro rfl (h.1 q)) (fun q => And.intro rfl (h.2 (Classical.not_not.mp q)))
def fr_R4 (t j : Nat) : Bool := Nat.beq t 46 && Nat.beq j 4
theorem fr_R4_R : ∀ t j, fr_R4 t j = true → fr_R t j = true := by
  intro t j h
  unfold fr_R4 at h
  rw [Bool.and_eq_true] at h
  have h1 := Nat.eq_of_beq_eq_true h.1
  have h2 := Nat.eq_of_beq_eq_true h.2
  subst h1 h2
  rfl
def sp_X10_blanks : cb_Sp := fun _ r M K => match r with
  | [] => ∃ len at_, mr_E M len at_ ∧ ∀ M', cb_fr fr_R4 M M' → mr_E M' len (rd_end (rd_bl (cb_gI M 47 0)) len at_) → K none M'
  | _ => False
def pt_X10_blanks : cb_PT := cb_m 46 0 sp_X10_blanks
theorem rc_X10_blanks : cb_rc cb_tb RX10 pt_X10_blanks := cb_m_rc rfl rfl
def md_X10_blanks : cb_D := (RX10, cX10_blanks, 1, none, (0, 0, 1, 21), [
  (0, .aload_n 0, 1, 0, 0, 0, 0),
  (1, .aload_n 0, 1, 0, 0, 0, 0),
  (2, .getfield 135, 3, 0, 10, 4, 1332),
  (5, .invokevirtual 138, 3, 0, 0, 0, 0),
  (8, .bipush 32, 2, 32, 0, 0, 0),
  (10, .if_icmp .ne 16, 3, 0, 26, 0, 0),
  (13, .aload_n 0, 1, 0, 0, 0, 0),
  (14, .dup, 1, 0, 0, 0, 0),
  (15, .getfield 135, 3, 0, 10, 4, 1332),
  (18, .iconst 1, 1, 1, 0, 0, 0),
  (19, .iadd, 1, 0, 0, 0, 0),
  (20, .putfield 135, 3, 0, 10, 4, 1332),
  (23, .goto (-23), 3, 0, 0, 0, 0),
  (26, .return_, 1, 0, 0, 0, 0)],
  [(0, 138, 2, 0, 0, pt_X10_byteAt)], [])
set_option maxRecDepth 100000 in
theorem vd_X10_blanks : md_X10_blanks.cd.all (cb_vE md_X10_blanks) = true := by decide +kernel
theorem wd_X10_blanks : cb_wd yX10_blanks md_X10_blanks := ⟨cb_tw (i := 1514) (by decide +kernel), cb_tw (i := 11) (by decide +kernel), by decide, by decide⟩
theorem cs_X10_blanks : ∀ X, cb_Bs md_X10_blanks X → ∀ g ∈ md_X10_blanks.ga, cb_CS cb_tb md_X10_blanks X g := fun X B => List.forall_mem_cons.mpr ⟨cb_csV B ok_X10_byteAt wd_X10_byteAt (cb_tw (i := 1515) (by decide +kernel)) (cb_tw (i := 1517) (by decide +kernel)) (cb_tp (i := 47) (by decide +kernel)) rc_X10_byteAt ⟨by decide, by decide⟩ (by decide +kernel), fun _ h => nomatch h⟩
theorem ok_X10_blanks : cb_MOK cb_tb yX10_blanks md_X10_blanks pt_X10_blanks := by
  refine cb_okm ⟨plainFor_of_name (by decide), rfl⟩ (by decide) cs_X10_blanks (by decide) (fun X n0 f i r M hr ha h => ?_)
  have h0 := cb_a1 (T := 46) rfl ha
  subst h0
  match r, hr, h with
  | [], hr, h =>
    obtain ⟨len, at_, hE, h⟩ := h
    obtain ⟨e1, e2, e3, e4⟩ := id hE
    have loop : ∀ g i M', len - i = g → i ≤ len → cb_fr fr_R4 M M' → cb_gI M' 46 0 4 = nI i → rd_end (rd_bl (cb_gI M 47 0)) len i = rd_end (rd_bl (cb_gI M 47 0)) len at_ → cb_Gd cb_tb md_X10_blanks X 0 [some (cb_r 46 0)] [] (cb_aS n0, f) M' 0 0 := by
      intro g
      induction g with
      | zero =>
        intro i M' hg hi hF h2 hz
        have hil : ¬ i < len := by omega
        refine cb_run cb_tb_ok vd_X10_blanks (cuts := [0]) 90 ?_
        refine And.intro (cb_on rfl) ⟨len, i, ⟨(hF.1 46 0 2 rfl).trans e1, e2, h2, by omega⟩, ?_⟩
        unfold mr_by
        rw [if_neg hil]
        refine cb_ifne (fun _ => And.intro rfl (h M' hF (mr_E_fr hE (hF.mono fr_R4_R) ?_ (rd_end_le e4)))) (fun q => absurd q (by decide))
        rw [← hz, rd_end_out (by omega)]
        exact h2
      | succ g ih =>
        intro i M' hg hi hF h2 hz
        have hil : i < len := by omega
        refine cb_run cb_tb_ok vd_X10_blanks (cuts := [0]) 90 ?_
        refine And.intro (cb_on rfl) ⟨len, i, ⟨(hF.1 46 0 2 rfl).trans e1, e2, h2, by omega⟩, ?_⟩
        unfold mr_by
        rw [if_pos hil, hF.1 47 0 i rfl]
        refine cb_ifne (fun q => And.intro rfl (h M' hF (mr_E_fr hE (hF.mono fr_R4_R) ?_ (rd_end_le e4)))) (fun q => ?_)
        · rw [← hz, rd_end_out (fun w => q (of_decide_eq_true w.2))]
          exact h2
        · show cb_Gd cb_tb md_X10_blanks X 0 [some (cb_r 46 0)] [] (cb_aS n0, f) (cb_sI M' 46 0 4 (cb_gI M' 46 0 4 + 1)) 0 0
          rw [h2, nI_1]
          refine ih (i + 1) _ (by omega) (by omega) (hF.set _ rfl) (cb_gs_eq _ _ _ _ _) ?_
          rw [← hz]
          exact (rd_end_in hil (decide_eq_true q)).symm
    exact loop _ at_ M rfl e4 (cb_fr.refl M) e3 rfl
/-- a number as the reference counts it -/
def mr_dv (mt : wm_F) : Nat → Nat → Int32 → Int32
  | 0, _, v => v
  | f + 1, a, v => if rd_dg (mt a) = true then mr_dv mt f (a + 1) (if 10 * v + mt a - 48 ≤ 100000 then 10 * v + mt a - 48 else 100000) else v
/-- it and the class's number -/
def mr_rel (v w : Int32) : Prop := (∃ k, k < 10000 ∧ v = nI k ∧ w = nI k) ∨ (w = 10000 ∧ ∃ k, 10000 ≤ k ∧ k ≤ 100000 ∧ v = nI k)
theorem rd_dg_nI {c : Int32} (h : rd_dg c = true) : ∃ d, d ≤ 9 ∧ c = nI (48 + d) := by
  have q := of_decide_eq_true h
  obtain ⟨k, k1, k2, e⟩ := wg_r_yes (lo := 48) (hi := 57) (x := c) (by decide) (fun w => w.elim q.1 q.2) (by decide)
  exact ⟨k - 48, by omega, by rw [e]; congr 1; omega⟩
theorem mr_rel_step {v w c : Int32} (h : mr_rel v w) (hc : rd_dg c = true) : mr_rel (if 10 * v + c - 48 ≤ 100000 then 10 * v + c - 48 else 100000) (wm_min 10000 (w * 10 + (c - 48))) := by
  obtain ⟨d, hd, rfl⟩ := rd_dg_nI hc
  have e10 : ∀ k, (10 : Int32) * nI k + nI (48 + d) - 48 = nI (10 * k + d) := fun k => by
    rw [show (10 : Int32) = nI 10 from rfl, show nI 10 * nI k = nI (10 * k) from (Int32.ofNat_mul 10 k).symm, nI_add, show (48 : Int32) = nI 48 from rfl, ← nI_sub (by omega)]
    congr 1
    omega
  have c10 : ∀ k, nI k * 10 + (nI (48 + d) - 48) = nI (10 * k + d) := fun k => by
    rw [show (10 : Int32) = nI 10 from rfl, show nI k * nI 10 = nI (k * 10) from (Int32.ofNat_mul k 10).symm, show (48 : Int32) = nI 48 from rfl, ← nI_sub (by omega), nI_add]
    congr 1
    omega
  have mn : ∀ m, m < 2 ^ 31 → wm_min 10000 (nI m) = nI (min 10000 m) := fun m hm => wm_min_nI (a := 10000) (by decide) hm
  rcases h with ⟨k, hk, rfl, rfl⟩ | ⟨rfl, k, k1, k2, rfl⟩
  · rw [e10, c10, mn _ (by omega), if_pos (show nI (10 * k + d) ≤ 100000 from nI_le (b := 100000) (by omega) (by decide))]
    by_cases q : 10 * k + d < 10000
    · rw [Nat.min_eq_right (by omega)]
      exact Or.inl ⟨_, q, rfl, rfl⟩
    · rw [Nat.min_eq_left (by omega)]
      exact Or.inr ⟨rfl, _, by omega, by omega, rfl⟩
  · rw [e10, show (10000 : Int32) * 10 + (nI (48 + d) - 48) = nI (10 * 10000 + d) from c10 10000, mn _ (by omega), Nat.min_eq_left (by omega)]
    refine Or.inr ⟨rfl, ?_⟩
    by_cases q : 10 * k + d ≤ 100000
    · rw [if_pos (show nI (10 * k + d) ≤ 100000 from nI_le (b := 100000) q (by decide))]
      exact ⟨_, by omega, q, rfl⟩
    · rw [if_neg (show ¬ nI (10 * k + d) ≤ 100000 from nI_ge (a := 100000) (by omega) (by omega))]
      exact ⟨100000, by decide, by decide, rfl⟩
theorem mr_rel_dv {mt : wm_F} : ∀ {f a : Nat} {v w : Int32}, mr_rel v w → mr_rel (mr_dv mt f a v) (rd_dv mt f a w)
  | 0, _, _, _, h => h
  | f + 1, a, v, w, h => by
    rw [mr_dv, rd_dv]
    by_cases q : rd_dg (mt a) = true
    · rw [if_pos q, if_pos q]
      exact mr_rel_dv (mr_rel_step h q)
    · rw [if_neg q, if_neg q]
      exact h
theorem mr_rel_in {v w lo : Int32} {hi : Nat} (h : mr_rel v w) (hh : hi < 10000) : (mi_in v lo (nI hi) = true ↔ ¬ (w < lo ∨ nI hi < w)) ∧ (¬ (w < lo ∨ nI hi < w) → v = w) := by
  rcases h with ⟨k, hk, rfl, rfl⟩ | ⟨rfl, k, k1, k2, rfl⟩
  · refine ⟨⟨mi_in_t, fun q => ?_⟩, fun _ => rfl⟩
    cases z : mi_in (nI k) lo (nI hi) with
    | true => rfl
    | false => exact absurd (mi_in_f z) q
  · have h1 : nI hi < nI k := nI_lt (by omega) (by omega)
    have h2 : nI hi < 10000 := nI_lt (b := 10000) (by omega) (by decide)
    exact ⟨⟨fun q => absurd (Or.inr h1) (mi_in_t q), fun q => absurd (Or.inr h2) q⟩, fun q => absurd (Or.inr h2) q⟩
def mr_num (mt : wm_F) (len : Nat) (lo hi nt : Int32) (at_ : Nat) : rd_X ⊕ (Int32 × Nat × Nat) := rd_b (rd_num mt len lo hi at_) fun r => if r.1 = nt then .inl (2, r.2.2) else .inr r
/-- its reader: at a fault, or at a place -/
def mr_S (M : cb_M) (len : Nat) (s : rd_X ⊕ Nat) : Prop := match s with
  | .inl (k, b) => ¬ k = 0 ∧ cb_gI M 46 0 5 = k ∧ cb_gI M 46 0 6 = nI b ∧ ∃ a, mr_E M len a
  | .inr a => mr_E M len a ∧ cb_gI M 46 0 5 = 0 ∧ cb_gI M 46 0 6 = -1
def mr_N (mt : wm_F) (len : Nat) (lo hi nt : Int32) (s : rd_X ⊕ Nat) : rd_X ⊕ (Int32 × Nat) := rd_b s fun a => rd_b (mr_num mt len lo hi nt a) fun r => .inr (r.1, r.2.1)
def mr_nv (r : rd_X ⊕ (Int32 × Nat)) : Int32 := match r with
  | .inl _ => 0
  | .inr x => x.1
def mr_na (r : rd_X ⊕ (Int32 × Nat)) : rd_X ⊕ Nat := match r with
  | .inl x => .inl x
  | .inr x => .inr x.2
theorem mr_S_E {M : cb_M} {len : Nat} {s : rd_X ⊕ Nat} (h : mr_S M len s) : ∃ a, mr_E M len a := by
  unfold mr_S at h
  split at h
  · exact h.2.2.2
  · exact ⟨_, h.1⟩
def sp_X10_number : cb_Sp := fun _ r M K => match r with
  | [.inl lo, .inl hi, .inl nt] => ∃ len s h, (mr_S M len s ∧ hi = nI h - 1 ∧ h ≤ 1000) ∧ ∀ M', cb_fr fr_R M M' → mr_S M' len (mr_na (mr_N (cb_gI M 47 0) len lo hi nt s)) → K (some (cb_i (mr_nv (mr_N (cb_gI M 47 0) len lo hi nt s)))) M'
  | _ => False
theorem mr_hi {v w lo : Int32} {h : Nat} (hr : mr_rel v w) (hh : h ≤ 1000) (h0 : 0 ≤ w) : (mi_in v lo (nI h - 1) = true ↔ ¬ (w < lo ∨ nI h - 1 < w)) ∧ (¬ (w < lo ∨ nI h - 1 < w) → v = w) := by
  cases h with
  | succ m =>
    rw [nI_pred]
    exact mr_rel_in hr (by omega)
  | zero =>
    have m1 : nI 0 - 1 = (-1 : Int32) := by decide
    rw [m1]
    have hv : 0 ≤ v := by
      rcases hr with ⟨k, hk, rfl, -⟩ | ⟨-, k, k1, k2, rfl⟩
      · exact nI_pos' (by omega)
      · exact nI_pos' (by omega)
    have a1 : (-1 : Int32) < w := Int32.lt_of_lt_of_le (by decide) h0
    have a2 : (-1 : Int32) < v := Int32.lt_of_lt_of_le (by decide) hv
    exact ⟨⟨fun q => absurd (Or.inr a2) (mi_in_t q), fun q => absurd (Or.inr a1) q⟩, fun q => absurd (Or.inr a1) q⟩
theorem mr_rel_0 {v w : Int32} (h : mr_rel v w) : 0 ≤ w := by
  rcases h with ⟨k, hk, -, rfl⟩ | ⟨rfl, -⟩
  · exact nI_pos' (by omega)
  · decide
def pt_X10_number : cb_PT := cb_m 46 3 sp_X10_number
theorem rc_X10_number : cb_rc cb_tb RX10 pt_X10_number := cb_m_rc rfl rfl
def md_X10_number : cb_D := (RX10, cX10_number, 6, (some .int), (0, 0, 2, 41), [
  (0, .aload_n 0, 1, 0, 0, 0, 0),
  (1, .getfield 142, 3, 0, 10, 5, 1333),
  (4, .ifCond .eq 5, 3, 0, 9, 0, 0),
  (7, .iconst 0, 1, 0, 0, 0, 0),
  (8, .ireturn, 1, 0, 0, 0, 0),
  (9, .aload_n 0, 1, 0, 0, 0, 0),
  (10, .invokevirtual 148, 3, 0, 0, 0, 0),
  (13, .aload_n 0, 1, 0, 0, 0, 0),
  (14, .getfield 135, 3, 0, 10, 4, 1332),
  (17, .istore 4, 2, 0, 4, 0, 0),
  (19, .iconst 0, 1, 0, 0, 0, 0),
  (20, .istore 5, 2, 0, 5, 0, 0),
  (22, .aload_n 0, 1, 0, 0, 0, 0),
  (23, .aload_n 0, 1, 0, 0, 0, 0),
  (24, .getfield 135, 3, 0, 10, 4, 1332),
  (27, .invokevirtual 138, 3, 0, 1, 0, 0),
  (30, .invokestatic 151, 3, 0, 2, 0, 0),
  (33, .ifCond .ne 12, 3, 0, 45, 0, 0),
  (36, .aload_n 0, 1, 0, 0, 0, 0),
  (37, .iconst 1, 1, 1, 0, 0, 0),
  (38, .aload_n 0, 1, 0, 0, 0, 0),
  (39, .getfield 135, 3, 0, 10, 4, 1332),
  (42, .invokevirtual 155, 3, 0, 3, 0, 0),
  (45, .aload_n 0, 1, 0, 0, 0, 0),
  (46, .aload_n 0, 1, 0, 0, 0, 0),
  (47, .getfield 135, 3, 0, 10, 4, 1332),
  (50, .invokevirtual 138, 3, 0, 1, 0, 0),
  (53, .invokestatic 151, 3, 0, 2, 0, 0),
  (56, .ifCond .eq 51, 3, 0, 107, 0, 0),
  (59, .bipush 10, 2, 10, 0, 0, 0),
  (61, .iload 5, 2, 0, 5, 0, 0),
  (63, .imul, 1, 0, 0, 0, 0),
  (64, .aload_n 0, 1, 0, 0, 0, 0),
  (65, .aload_n 0, 1, 0, 0, 0, 0),
  (66, .getfield 135, 3, 0, 10, 4, 1332),
  (69, .invokevirtual 138, 3, 0, 1, 0, 0),
  (72, .iadd, 1, 0, 0, 0, 0),
  (73, .bipush 48, 2, 48, 0, 0, 0),
  (75, .isub, 1, 0, 0, 0, 0),
  (76, .istore 5, 2, 0, 5, 0, 0),
  (78, .iload 5, 2, 0, 5, 0, 0),
  (80, .ldc 159, 2, 100000, 0, 0, 1552),
  (82, .if_icmp .le 8, 3, 0, 90, 0, 0),
  (85, .ldc 159, 2, 100000, 0, 0, 1552),
  (87, .goto 5, 3, 0, 92, 0, 0),
  (90, .iload 5, 2, 0, 5, 0, 0),
  (92, .istore 5, 2, 0, 5, 0, 0),
  (94, .aload_n 0, 1, 0, 0, 0, 0),
  (95, .dup, 1, 0, 0, 0, 0),
  (96, .getfield 135, 3, 0, 10, 4, 1332),
  (99, .iconst 1, 1, 1, 0, 0, 0),
  (100, .iadd, 1, 0, 0, 0, 0),
  (101, .putfield 135, 3, 0, 10, 4, 1332),
  (104, .goto (-59), 3, 0, 45, 0, 0),
  (107, .iload 5, 2, 0, 5, 0, 0),
  (109, .iload_n 1, 1, 0, 1, 0, 0),
  (110, .iload_n 2, 1, 0, 2, 0, 0),
  (111, .invokestatic 160, 3, 0, 4, 0, 0),
  (114, .ifCond .eq 9, 3, 0, 123, 0, 0),
  (117, .iload 5, 2, 0, 5, 0, 0),
  (119, .iload_n 3, 1, 0, 3, 0, 0),
  (120, .if_icmp .ne 10, 3, 0, 130, 0, 0),
  (123, .aload_n 0, 1, 0, 0, 0, 0),
  (124, .iconst 2, 1, 2, 0, 0, 0),
  (125, .iload 4, 2, 0, 4, 0, 0),
  (127, .invokevirtual 155, 3, 0, 3, 0, 0),
  (130, .aload_n 0, 1, 0, 0, 0, 0),
  (131, .getfield 142, 3, 0, 10, 5, 1333),
  (134, .ifCond .ne 8, 3, 0, 142, 0, 0),
  (137, .iload 5, 2, 0, 5, 0, 0),
  (139, .goto 4, 3, 0, 143, 0, 0),
  (142, .iconst 0, 1, 0, 0, 0, 0),
  (143, .ireturn, 1, 0, 0, 0, 0)],
  [(0, 148, 1, 0, 0, pt_X10_blanks), (0, 138, 2, 0, 0, pt_X10_byteAt), (1, 151, 1, 0, 0, pt_X10_isDigit), (0, 155, 3, 0, 0, pt_X10_wrong), (1, 160, 3, 0, 0, pt_X10_in)], [])
set_option maxRecDepth 100000 in
theorem vd_X10_number : md_X10_number.cd.all (cb_vE md_X10_number) = true := by decide +kernel
theorem wd_X10_number : cb_wd yX10_number md_X10_number := ⟨cb_tw (i := 1548) (by decide +kernel), cb_tw (i := 11) (by decide +kernel), by decide, by decide⟩
theorem cs_X10_number : ∀ X, cb_Bs md_X10_number X → ∀ g ∈ md_X10_number.ga, cb_CS cb_tb md_X10_number X g := fun X B => List.forall_mem_cons.mpr ⟨cb_csV B ok_X10_blanks wd_X10_blanks (cb_tw (i := 1511) (by decide +kernel)) (cb_tw (i := 1513) (by decide +kernel)) (cb_tp (i := 46) (by decide +kernel)) rc_X10_blanks ⟨by decide, by decide⟩ (by decide +kernel), List.forall_mem_cons.mpr ⟨cb_csV B ok_X10_byteAt wd_X10_byteAt (cb_tw (i := 1515) (by decide +kernel)) (cb_tw (i := 1517) (by decide +kernel)) (cb_tp (i := 47) (by decide +kernel)) rc_X10_byteAt ⟨by decide, by decide⟩ (by decide +kernel), List.forall_mem_cons.mpr ⟨cb_csS B ok_X10_isDigit wd_X10_isDigit (cb_tw (i := 1549) (by decide +kernel)) (cb_tw (i := 1550) (by decide +kernel)) ⟨by decide, by decide⟩ (by decide +kernel), List.forall_mem_cons.mpr ⟨cb_csV B ok_X10_wrong wd_X10_wrong (cb_tw (i := 1538) (by decide +kernel)) (cb_tw (i := 1540) (by decide +kernel)) (cb_tp (i := 52) (by decide +kernel)) rc_X10_wrong ⟨by decide, by decide⟩ (by decide +kernel), List.forall_mem_cons.mpr ⟨cb_csS B ok_X10_in wd_X10_in (cb_tw (i := 1504) (by decide +kernel)) (cb_tw (i := 1505) (by decide +kernel)) ⟨by decide, by decide⟩ (by decide +kernel), fun _ h => nomatch h⟩⟩⟩⟩⟩
theorem ok_X10_number : cb_MOK cb_tb yX10_number md_X10_number pt_X10_number := by
  refine cb_okm ⟨plainFor_of_name (by decide), rfl⟩ (by decide) cs_X10_number (by decide) (fun X n0 f i r M hr ha h => ?_)
  have h0 := cb_a1 (T := 46) rfl ha
  subst h0
  match r, hr, h with
  | [.inl lo, .inl hi, .inl nt], hr, h =>
    obtain ⟨len, s, hh, ⟨hS, hhi, hh1⟩, h⟩ := h
    refine cb_run cb_tb_ok vd_X10_number (cuts := [45, 107, 123, 130]) 90 ?_
    refine And.intro (fun q0 => ?_) (fun q0 => And.intro trivial ?_)
    rotate_left
    · have q0 : ¬ cb_gI M 46 0 5 = 0 := q0
      cases s with
      | inl x => exact h M (cb_fr.refl M) hS
      | inr a => exact absurd hS.2.1 q0
    have q0 : cb_gI M 46 0 5 = 0 := q0
    cases s with
    | inl x => exact absurd q0 (by rw [hS.2.1]; exact hS.1)
    | inr at_ =>
    obtain ⟨hE, -, h6⟩ := hS
    refine And.intro (cb_on rfl) ⟨len, at_, hE, fun M1 hF1 hE1 => ?_⟩
    obtain ⟨b, hb⟩ : ∃ b, b = rd_end (rd_bl (cb_gI M 47 0)) len at_ := ⟨_, rfl⟩
    rw [← hb] at hE1
    obtain ⟨e1, e2, e3, e4⟩ := id hE1
    have hF1' := hF1.mono fr_R4_R
    obtain ⟨e, he⟩ : ∃ e, e = rd_end (rd_ds (cb_gI M 47 0)) len b := ⟨_, rfl⟩
    obtain ⟨w, hw⟩ : ∃ w, w = rd_dv (cb_gI M 47 0) (len - b) b 0 := ⟨_, rfl⟩
    obtain ⟨z, hz⟩ : ∃ z, z = mr_dv (cb_gI M 47 0) (len - b) b 0 := ⟨_, rfl⟩
    have hel : e ≤ len := by rw [he]; exact rd_end_le e4
    have hrel : mr_rel z w := by
      rw [hz, hw]
      exact mr_rel_dv (Or.inl ⟨0, by decide, rfl, rfl⟩)
    have hH := mr_hi (lo := lo) hrel hh1 (mr_rel_0 hrel)
    rw [← hhi] at hH
    have enum : mr_N (cb_gI M 47 0) len lo hi nt (.inr at_) = if e = b then .inl (1, b) else if w < lo ∨ hi < w then .inl (2, b) else if w = nt then .inl (2, b) else .inr (w, e) := by
      show rd_b (mr_num (cb_gI M 47 0) len lo hi nt at_) _ = _
      unfold mr_num rd_num
      rw [← hb, ← he, ← hw]
      by_cases c1 : e = b
      · rw [if_pos c1, if_pos c1]
        rfl
      · rw [if_neg c1, if_neg c1]
        by_cases c2 : w < lo ∨ hi < w
        · rw [if_pos c2, if_pos c2]
          rfl
        · rw [if_neg c2, if_neg c2]
          show rd_b (if w = nt then _ else _) _ = _
          by_cases c3 : w = nt
          · rw [if_pos c3, if_pos c3]
            rfl
          · rw [if_neg c3, if_neg c3]
            rfl
    rw [enum] at h
    have fin : ∀ (v : Int32) M', (¬ cb_gI M' 46 0 5 = 0 → X.K (.inl (some (cb_i 0))) (cb_aS n0, f) M') → (cb_gI M' 46 0 5 = 0 → X.K (.inl (some (cb_i v))) (cb_aS n0, f) M') → cb_Gd cb_tb md_X10_number X 130 [some (cb_r 46 0), some (cb_i (lo)), some (cb_i (hi)), some (cb_i (nt)), some (cb_i (nI b)), some (cb_i (v))] [] (cb_aS n0, f) M' 0 0 := by
      intro v M' k0 k1
      refine cb_run cb_tb_ok vd_X10_number (cuts := []) 90 ?_
      exact cb_ifne (fun q => And.intro trivial (k0 q)) (fun q => And.intro trivial (k1 q))
    have w3 : ∀ (v : Int32) M', (¬ cb_gI M' 46 0 5 = 0 → X.K (.inl (some (cb_i 0))) (cb_aS n0, f) M') → (cb_gI M' 46 0 5 = 0 → X.K (.inl (some (cb_i 0))) (cb_aS n0, f) (cb_sI (cb_sI M' 46 0 5 2) 46 0 6 (nI b))) → cb_Gd cb_tb md_X10_number X 123 [some (cb_r 46 0), some (cb_i (lo)), some (cb_i (hi)), some (cb_i (nt)), some (cb_i (nI b)), some (cb_i (v))] [] (cb_aS n0, f) M' 0 0 := by
      intro v M' k0 k1
      refine cb_run cb_tb_ok vd_X10_number (cuts := [130]) 90 ?_
      exact And.intro (cb_on rfl) (And.intro (fun q => fin _ _ (fun _ => k0 q) (fun w => absurd w q)) (fun q => fin _ _ (fun _ => k1 q) (fun w => absurd w (by rw [cb_gs_ne (by decide), cb_gs_eq]; decide))))
    have end_ : ∀ M', cb_fr fr_R M M' → cb_gI M' 46 0 4 = nI e → (if e = b then cb_gI M' 46 0 5 = 1 ∧ cb_gI M' 46 0 6 = nI b else cb_gI M' 46 0 5 = 0 ∧ cb_gI M' 46 0 6 = -1) → cb_Gd cb_tb md_X10_number X 107 [some (cb_r 46 0), some (cb_i (lo)), some (cb_i (hi)), some (cb_i (nt)), some (cb_i (nI b)), some (cb_i (z))] [] (cb_aS n0, f) M' 0 0 := by
      intro M' hF g4 g5
      have hE' : mr_E M' len e := mr_E_fr hE hF g4 hel
      by_cases c1 : e = b
      · rw [if_pos c1] at h g5
        have kk := h M' hF ⟨by decide, g5.1, g5.2, e, hE'⟩
        have n5 : ¬ cb_gI M' 46 0 5 = 0 := by rw [g5.1]; decide
        refine cb_run cb_tb_ok vd_X10_number (cuts := [123, 130]) 90 ?_
        exact cb_ifz (fun q => w3 _ _ (fun _ => kk) (fun w => absurd w n5)) (fun q => cb_ifne (fun q1 => fin _ _ (fun _ => kk) (fun w => absurd w n5)) (fun q1 => w3 _ _ (fun _ => kk) (fun w => absurd w n5)))
      · rw [if_neg c1] at h g5
        have bad2 : (∀ M', cb_fr fr_R M M' → mr_S M' len (.inl (2, b)) → X.K (.inl (some (cb_i 0))) (cb_aS n0, f) M') → cb_Gd cb_tb md_X10_number X 123 [some (cb_r 46 0), some (cb_i (lo)), some (cb_i (hi)), some (cb_i (nt)), some (cb_i (nI b)), some (cb_i (z))] [] (cb_aS n0, f) M' 0 0 := fun h => w3 _ _ (fun w => absurd g5.1 w) (fun _ => h _ ((hF.set _ rfl).set _ rfl) ⟨by decide, rfl, rfl, e, mr_E_fr hE ((hF.set _ rfl).set _ rfl) g4 hel⟩)
        refine cb_run cb_tb_ok vd_X10_number (cuts := [123, 130]) 90 ?_
        refine cb_ifz (fun q => ?_) (fun q => cb_ifne (fun q1 => ?_) (fun q1 => ?_))
        · have c2 : w < lo ∨ hi < w := by
            apply Classical.byContradiction
            intro u
            rw [hH.1.mpr u] at q
            cases q
          rw [if_pos c2] at h
          exact bad2 h
        · have c2 := hH.1.mp q
          have zw := hH.2 c2
          rw [if_neg c2, if_neg (by rw [← zw]; exact q1)] at h
          refine fin _ _ (fun u => absurd g5.1 u) (fun _ => ?_)
          rw [zw]
          exact h M' hF ⟨hE', g5.1, g5.2⟩
        · have c2 := hH.1.mp q
          have zw := hH.2 c2
          rw [if_neg c2, if_pos (by rw [← zw]; exact q1)] at h
          exact bad2 h
    have loop : ∀ g i v M', len - i = g → i ≤ len → cb_fr fr_R M M' → cb_gI M' 46 0 4 = nI i → (if e = b then cb_gI M' 46 0 5 = 1 ∧ cb_gI M' 46 0 6 = nI b else cb_gI M' 46 0 5 = 0 ∧ cb_gI M' 46 0 6 = -1) → rd_end (rd_ds (cb_gI M 47 0)) len i = e → mr_dv (cb_gI M 47 0) g i v = z → cb_Gd cb_tb md_X10_number X 45 [some (cb_r 46 0), some (cb_i (lo)), some (cb_i (hi)), some (cb_i (nt)), some (cb_i (nI b)), some (cb_i (v))] [] (cb_aS n0, f) M' 0 0 := by
      intro g
      induction g with
      | zero =>
        intro i v M' hg hi' hF g4 g5 hz' hv
        have hil : ¬ i < len := by omega
        have hie : i = e := by rw [← hz', rd_end_out (by omega)]
        have hby : mr_by (cb_gI M' 47 0) len i = -1 := if_neg hil
        refine cb_run cb_tb_ok vd_X10_number (cuts := [45, 107]) 90 ?_
        refine And.intro (cb_on rfl) ⟨len, i, ⟨(hF.1 46 0 2 rfl).trans hE.1, hE.2.1, g4, by omega⟩, And.intro trivial (cb_ifz (fun q => ?_) (fun q => ?_))⟩
        · have hv : v = z := hv
          rw [hv]
          exact end_ M' hF (by rw [g4, hie]) g5
        · have q : rd_dg (mr_by (cb_gI M' 47 0) len i) = true := q
          rw [hby] at q
          exact absurd q (by decide)
      | succ g ih =>
        intro i v M' hg hi' hF g4 g5 hz' hv
        have hil : i < len := by omega
        have hby : mr_by (cb_gI M' 47 0) len i = cb_gI M 47 0 i := by
          unfold mr_by
          rw [if_pos hil, hF.1 47 0 i rfl]
        have hB : cb_gI M' 46 0 2 = nI len ∧ len ≤ 600 ∧ cb_gI M' 46 0 4 = nI i ∧ i ≤ 1000000 := ⟨(hF.1 46 0 2 rfl).trans hE.1, hE.2.1, g4, by omega⟩
        rw [mr_dv] at hv
        refine cb_run cb_tb_ok vd_X10_number (cuts := [45, 107]) 90 ?_
        refine And.intro (cb_on rfl) ⟨len, i, hB, And.intro trivial (cb_ifz (fun q => ?_) (fun q => And.intro (cb_on rfl) ⟨len, i, hB, ?_⟩))⟩
        · have q : rd_dg (mr_by (cb_gI M' 47 0) len i) = false := q
          rw [hby] at q
          have hie : i = e := by rw [← hz', rd_end_out (fun u => by have := u.2; unfold rd_ds at this; rw [q] at this; cases this)]
          rw [if_neg (by rw [q]; decide)] at hv
          rw [hv]
          exact end_ M' hF (by rw [g4, hie]) g5
        · have q : rd_dg (mr_by (cb_gI M' 47 0) len i) = true := q
          rw [hby] at q
          rw [if_pos q] at hv
          have nx : ∀ x, x = (if 10 * v + cb_gI M 47 0 i - 48 ≤ 100000 then 10 * v + cb_gI M 47 0 i - 48 else 100000) → cb_Gd cb_tb md_X10_number X 45 [some (cb_r 46 0), some (cb_i (lo)), some (cb_i (hi)), some (cb_i (nt)), some (cb_i (nI b)), some (cb_i (x))] [] (cb_aS n0, f) (cb_sI M' 46 0 4 (cb_gI M' 46 0 4 + 1)) 0 0 := by
            intro x hx
            rw [g4, nI_1]
            refine ih (i + 1) x _ (by omega) (by omega) (hF.set _ rfl) (cb_gs_eq _ _ _ _ _) g5 ?_ (by rw [hx]; exact hv)
            rw [← hz']
            exact (rd_end_in hil q).symm
          refine And.intro (fun q1 => nx _ ?_) (fun q1 => nx _ ?_)
          · have q1 : 10 * v + mr_by (cb_gI M' 47 0) len i - 48 ≤ 100000 := q1
            show 10 * v + mr_by (cb_gI M' 47 0) len i - 48 = _
            rw [hby] at q1 ⊢
            rw [if_pos q1]
          · have q1 : ¬ 10 * v + mr_by (cb_gI M' 47 0) len i - 48 ≤ 100000 := q1
            rw [hby] at q1
            rw [if_neg q1]
    refine And.intro (cb_on rfl) ⟨len, b, ⟨e1, e2, e3, by omega⟩, And.intro trivial (cb_ifnz (fun q => ?_) (fun q => ?_))⟩
    · have q : rd_dg (mr_by (cb_gI M1 47 0) len b) = true := q
      have hbl : b < len := by
        apply Classical.byContradiction
        intro u
        rw [show mr_by (cb_gI M1 47 0) len b = -1 from if_neg u] at q
        exact absurd q (by decide)
      rw [show mr_by (cb_gI M1 47 0) len b = cb_gI M 47 0 b from (if_pos hbl).trans (hF1.1 47 0 b rfl)] at q
      have hne : ¬ e = b := by
        have a1 := he.trans (rd_end_in hbl q)
        have a2 := rd_end_ge (rd_ds (cb_gI M 47 0)) len (b + 1)
        omega
      show cb_Gd cb_tb md_X10_number X 45 [some (cb_r 46 0), some (cb_i (lo)), some (cb_i (hi)), some (cb_i (nt)), some (cb_i (cb_gI M1 46 0 4)), some (cb_i (0))] [] (cb_aS n0, f) M1 0 0
      rw [e3]
      exact loop _ b 0 M1 rfl e4 hF1' e3 (by rw [if_neg hne]; exact ⟨(hF1.1 46 0 5 rfl).trans q0, (hF1.1 46 0 6 rfl).trans h6⟩) he.symm hz.symm
    · have q : rd_dg (mr_by (cb_gI M1 47 0) len b) = false := q
      have heq : e = b := by
        rw [he]
        refine rd_end_out (fun u => ?_)
        rw [show mr_by (cb_gI M1 47 0) len b = cb_gI M 47 0 b from (if_pos u.1).trans (hF1.1 47 0 b rfl)] at q
        have := u.2
        unfold rd_ds at this
        rw [q] at this
        cases this
      refine And.intro (cb_on rfl) (And.intro (fun u => absurd ((hF1.1 46 0 5 rfl).trans q0) u) (fun _ => ?_))
      show cb_Gd cb_tb md_X10_number X 45 [some (cb_r 46 0), some (cb_i (lo)), some (cb_i (hi)), some (cb_i (nt)), some (cb_i (cb_gI M1 46 0 4)), some (cb_i (0))] [] (cb_aS n0, f) (cb_sI (cb_sI M1 46 0 5 1) 46 0 6 (cb_gI M1 46 0 4)) 0 0
      rw [e3]
      exact loop _ b 0 _ rfl e4 ((hF1'.set _ rfl).set _ rfl) e3 (by rw [if_pos heq]; exact ⟨rfl, rfl⟩) he.symm hz.symm
def mr_C (mt : wm_F) (len : Nat) (s : rd_X ⊕ Nat) : rd_X ⊕ Nat := rd_b s fun a => rd_close mt len a
def sp_X10_closes : cb_Sp := fun _ r M K => match r with
  | [] => ∃ len s, mr_S M len s ∧ ∀ M', cb_fr fr_R M M' → mr_S M' len (mr_C (cb_gI M 47 0) len s) → K none M'
  | _ => False
def pt_X10_closes : cb_PT := cb_m 46 0 sp_X10_closes
theorem rc_X10_closes : cb_rc cb_tb RX10 pt_X10_closes := cb_m_rc rfl rfl
def md_X10_closes : cb_D := (RX10, cX10_closes, 1, none, (0, 0, 2, 41), [
  (0, .aload_n 0, 1, 0, 0, 0, 0),
  (1, .getfield 142, 3, 0, 10, 5, 1333),
  (4, .ifCond .eq 4, 3, 0, 8, 0, 0),
  (7, .return_, 1, 0, 0, 0, 0),
  (8, .aload_n 0, 1, 0, 0, 0, 0),
  (9, .invokevirtual 148, 3, 0, 0, 0, 0),
  (12, .aload_n 0, 1, 0, 0, 0, 0),
  (13, .aload_n 0, 1, 0, 0, 0, 0),
  (14, .getfield 135, 3, 0, 10, 4, 1332),
  (17, .invokevirtual 138, 3, 0, 1, 0, 0),
  (20, .bipush 59, 2, 59, 0, 0, 0),
  (22, .if_icmp .ne 16, 3, 0, 38, 0, 0),
  (25, .aload_n 0, 1, 0, 0, 0, 0),
  (26, .dup, 1, 0, 0, 0, 0),
  (27, .getfield 135, 3, 0, 10, 4, 1332),
  (30, .iconst 1, 1, 1, 0, 0, 0),
  (31, .iadd, 1, 0, 0, 0, 0),
  (32, .putfield 135, 3, 0, 10, 4, 1332),
  (35, .goto 12, 3, 0, 47, 0, 0),
  (38, .aload_n 0, 1, 0, 0, 0, 0),
  (39, .iconst 1, 1, 1, 0, 0, 0),
  (40, .aload_n 0, 1, 0, 0, 0, 0),
  (41, .getfield 135, 3, 0, 10, 4, 1332),
  (44, .invokevirtual 155, 3, 0, 2, 0, 0),
  (47, .return_, 1, 0, 0, 0, 0)],
  [(0, 148, 1, 0, 0, pt_X10_blanks), (0, 138, 2, 0, 0, pt_X10_byteAt), (0, 155, 3, 0, 0, pt_X10_wrong)], [])
set_option maxRecDepth 100000 in
theorem vd_X10_closes : md_X10_closes.cd.all (cb_vE md_X10_closes) = true := by decide +kernel
theorem wd_X10_closes : cb_wd yX10_closes md_X10_closes := ⟨cb_tw (i := 1564) (by decide +kernel), cb_tw (i := 11) (by decide +kernel), by decide, by decide⟩
theorem cs_X10_closes : ∀ X, cb_Bs md_X10_closes X → ∀ g ∈ md_X10_closes.ga, cb_CS cb_tb md_X10_closes X g := fun X B => List.forall_mem_cons.mpr ⟨cb_csV B ok_X10_blanks wd_X10_blanks (cb_tw (i := 1511) (by decide +kernel)) (cb_tw (i := 1513) (by decide +kernel)) (cb_tp (i := 46) (by decide +kernel)) rc_X10_blanks ⟨by decide, by decide⟩ (by decide +kernel), List.forall_mem_cons.mpr ⟨cb_csV B ok_X10_byteAt wd_X10_byteAt (cb_tw (i := 1515) (by decide +kernel)) (cb_tw (i := 1517) (by decide +kernel)) (cb_tp (i := 47) (by decide +kernel)) rc_X10_byteAt ⟨by decide, by decide⟩ (by decide +kernel), List.forall_mem_cons.mpr ⟨cb_csV B ok_X10_wrong wd_X10_wrong (cb_tw (i := 1538) (by decide +kernel)) (cb_tw (i := 1540) (by decide +kernel)) (cb_tp (i := 52) (by decide +kernel)) rc_X10_wrong ⟨by decide, by decide⟩ (by decide +kernel), fun _ h => nomatch h⟩⟩⟩
theorem ok_X10_closes : cb_MOK cb_tb yX10_closes md_X10_closes pt_X10_closes := by
  refine cb_okm ⟨plainFor_of_name (by decide), rfl⟩ (by decide) cs_X10_closes (by decide) (fun X n0 f i r M hr ha h => ?_)
  have h0 := cb_a1 (T := 46) rfl ha
  subst h0
  match r, hr, h with
  | [], hr, h =>
    obtain ⟨len, s, hS, h⟩ := h
    refine cb_run cb_tb_ok vd_X10_closes (cuts := []) 90 ?_
    refine And.intro (fun q0 => ?_) (fun q0 => And.intro rfl ?_)
    rotate_left
    · have q0 : ¬ cb_gI M 46 0 5 = 0 := q0
      cases s with
      | inl x => exact h M (cb_fr.refl M) hS
      | inr a => exact absurd hS.2.1 q0
    have q0 : cb_gI M 46 0 5 = 0 := q0
    cases s with
    | inl x => exact absurd q0 (by rw [hS.2.1]; exact hS.1)
    | inr at_ =>
    obtain ⟨hE, -, h6⟩ := hS
    refine And.intro (cb_on rfl) ⟨len, at_, hE, fun M1 hF1 hE1 => ?_⟩
    obtain ⟨b, hb⟩ : ∃ b, b = rd_end (rd_bl (cb_gI M 47 0)) len at_ := ⟨_, rfl⟩
    rw [← hb] at hE1
    obtain ⟨e1, e2, e3, e4⟩ := id hE1
    have hF1' := hF1.mono fr_R4_R
    have ec : mr_C (cb_gI M 47 0) len (.inr at_) = if b < len ∧ cb_gI M 47 0 b = 59 then .inr (b + 1) else .inl (1, b) := by
      show rd_close (cb_gI M 47 0) len at_ = _
      unfold rd_close
      rw [← hb]
    rw [ec] at h
    refine And.intro (cb_on rfl) ⟨len, b, ⟨e1, e2, e3, by omega⟩, cb_ifne (fun q => ?_) (fun q => ?_)⟩
    · have q : ¬ mr_by (cb_gI M1 47 0) len b = 59 := q
      have hn : ¬ (b < len ∧ cb_gI M 47 0 b = 59) := fun u => q (((if_pos u.1).trans (hF1.1 47 0 b rfl)).trans u.2)
      rw [if_neg hn] at h
      refine And.intro (cb_on rfl) (And.intro (fun u => absurd ((hF1.1 46 0 5 rfl).trans q0) u) (fun _ => And.intro rfl ?_))
      exact h _ ((hF1'.set _ rfl).set _ rfl) ⟨by decide, rfl, e3, b, mr_E_fr hE ((hF1'.set _ rfl).set _ rfl) e3 e4⟩
    · have q : mr_by (cb_gI M1 47 0) len b = 59 := q
      have hbl : b < len := by
        apply Classical.byContradiction
        intro u
        rw [show mr_by (cb_gI M1 47 0) len b = -1 from if_neg u] at q
        exact absurd q (by decide)
      rw [show mr_by (cb_gI M1 47 0) len b = cb_gI M 47 0 b from (if_pos hbl).trans (hF1.1 47 0 b rfl)] at q
      rw [if_pos ⟨hbl, q⟩] at h
      refine And.intro rfl (h _ (hF1'.set _ rfl) ⟨mr_E_fr hE (hF1'.set _ rfl) ?_ (by omega), (hF1.1 46 0 5 rfl).trans q0, (hF1.1 46 0 6 rfl).trans h6⟩)
      rw [cb_gs_eq, e3]
      exact nI_1 b
