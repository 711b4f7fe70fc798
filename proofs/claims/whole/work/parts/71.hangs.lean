/-! ===== the reference: taken places, where things hang ===== -/
theorem rd_end_idem {p : Nat → Bool} {len : Nat} : ∀ (g a : Nat), len - a = g → rd_end p len (rd_end p len a) = rd_end p len a
  | 0, a, hg => by rw [rd_end_out (p := p) (a := a) (by omega), rd_end_out (by omega)]
  | g + 1, a, hg => by
    cases q : p a with
    | false =>
      have h : ¬ (a < len ∧ p a = true) := fun u => by rw [q] at u; cases u.2
      rw [rd_end_out h, rd_end_out h]
    | true =>
      rw [rd_end_in (by omega) q]
      exact rd_end_idem g (a + 1) (by omega)
theorem mr_N_bl (mt : wm_F) (len : Nat) (lo hi nt : Int32) (s : rd_X ⊕ Nat) : mr_N mt len lo hi nt (rd_b s fun a => .inr (rd_end (rd_bl mt) len a)) = mr_N mt len lo hi nt s := by
  cases s with
  | inl x => rfl
  | inr a =>
    show rd_b (mr_num mt len lo hi nt (rd_end (rd_bl mt) len a)) _ = rd_b (mr_num mt len lo hi nt a) _
    unfold mr_num rd_num
    rw [rd_end_idem _ a rfl]
theorem mr_call {M : cb_M} {K : Option cb_V → cb_M → Prop} {len : Nat} {s : rd_X ⊕ Nat} {lo hi nt : Int32} (hh : Nat) (hS : mr_S M len s) (hhi : hi = nI hh - 1) (h1 : hh ≤ 1000) {mt : wm_F} (ht : cb_gI M 47 0 = mt)
    (k : ∀ M', cb_fr fr_R M M' → mr_S M' len (mr_na (mr_N mt len lo hi nt s)) → cb_gI M' 47 0 = mt → K (some (cb_i (mr_nv (mr_N mt len lo hi nt s)))) M') : sp_X10_number 0 [.inl lo, .inl hi, .inl nt] M K := by
  refine ⟨len, s, hh, ⟨hS, hhi, h1⟩, fun M' hF hS' => ?_⟩
  rw [ht] at hS' ⊢
  exact k M' hF hS' ((hF.fn 47 0 (fun _ => rfl)).trans ht)
theorem mr_wr {M : cb_M} {K : Option cb_V → cb_M → Prop} {len : Nat} {s : rd_X ⊕ Nat} {k p : Int32} {b : Nat} (hS : mr_S M len s) (hk : ¬ k = 0) (hp : ∀ a, s = .inr a → p = nI b) (h : ∀ M', cb_fr fr_R M M' → mr_S M' len (rd_b s fun _ => .inl (k, b)) → K none M') : sp_X10_wrong 0 [.inl k, .inl p] M K := by
  cases s with
  | inl x => exact ⟨fun _ => h M (cb_fr.refl M) hS, fun q => absurd q (by rw [hS.2.1]; exact hS.1)⟩
  | inr a =>
    refine ⟨fun q => absurd hS.2.1 q, fun _ => h _ (((cb_fr.refl M).set _ rfl).set _ rfl) ⟨hk, rfl, ?_, a, hS.1⟩⟩
    rw [cb_gs_eq]
    exact hp a rfl
theorem mr_blc {M : cb_M} {K : Option cb_V → cb_M → Prop} {len : Nat} {s : rd_X ⊕ Nat} (hS : mr_S M len s) {mt : wm_F} (ht : cb_gI M 47 0 = mt) (h : ∀ M', cb_fr fr_R M M' → mr_S M' len (rd_b s fun a => .inr (rd_end (rd_bl mt) len a)) → cb_gI M' 47 0 = mt → K none M') : sp_X10_blanks 0 [] M K := by
  subst ht
  cases s with
  | inl x =>
    obtain ⟨h1, h2, h3, a, hE⟩ := hS
    exact ⟨len, a, hE, fun M' hF hE' => h M' (hF.mono fr_R4_R) ⟨h1, (hF.1 46 0 5 rfl).trans h2, (hF.1 46 0 6 rfl).trans h3, _, hE'⟩ (hF.fn 47 0 (fun _ => rfl))⟩
  | inr a => exact ⟨len, a, hS.1, fun M' hF hE' => h M' (hF.mono fr_R4_R) ⟨hE', (hF.1 46 0 5 rfl).trans hS.2.1, (hF.1 46 0 6 rfl).trans hS.2.2⟩ (hF.fn 47 0 (fun _ => rfl))⟩
theorem mr_cl {M : cb_M} {K : Option cb_V → cb_M → Prop} {len : Nat} {s : rd_X ⊕ Nat} (hS : mr_S M len s) {mt : wm_F} (ht : cb_gI M 47 0 = mt) (h : ∀ M', cb_fr fr_R M M' → mr_S M' len (mr_C mt len s) → K none M') : sp_X10_closes 0 [] M K := by
  subst ht
  exact ⟨len, s, hS, h⟩
theorem mr_S_set {M : cb_M} {len : Nat} {s : rd_X ⊕ Nat} (hS : mr_S M len s) {t i j : Nat} {x : Int32} (ht : ¬ 46 = t) : mr_S (cb_sI M t i j x) len s := by
  have e : ∀ a b, cb_gI (cb_sI M t i j x) 46 a b = cb_gI M 46 a b := fun a b => cb_gs_ne (fun w => ht w.1)
  unfold mr_S mr_E at *
  simp only [e]
  exact hS
/-- the plan as the reference reads it -/
def mr_V (M : cb_M) (A : rd_P) : Prop :=
  (cb_gI M 48 0 0 = nI A.nb ∧ cb_gI M 48 0 1 = nI A.n ∧ cb_gI M 48 0 2 = nI A.h ∧ cb_gI M 48 0 3 = A.w ∧ cb_gI M 48 0 4 = A.so) ∧ (∀ b, b < A.nb → cb_gI M 50 0 b = A.th b) ∧
  (∀ i, i < A.n → cb_gI M 57 i 0 = A.c.1 i ∧ cb_gI M 57 i 1 = A.c.2.1 i ∧ cb_gI M 57 i 2 - 100 = A.c.2.2.1 i ∧ cb_gI M 57 i 3 = A.c.2.2.2.1 i ∧ cb_gI M 57 i 4 = A.c.2.2.2.2.1 i ∧ cb_gI M 57 i 5 = A.c.2.2.2.2.2 i) ∧
  (∀ i, i < 8 → cb_gI M 54 0 i = A.ky i) ∧ (∀ l, l < A.h → cb_gI M 59 l 0 = A.hk.1 l ∧ cb_gI M 59 l 1 = A.hk.2 l) ∧ (∀ i j, i < 8 → j < 8 → cb_gI M 61 i j = A.he (i * 8 + j)) ∧ ∀ d, d < 400 → cb_gI M 52 0 d = A.dp d
theorem mr_V_eq {M M' : cb_M} {A : rd_P} (h : ∀ t i j, 48 ≤ t → t ≤ 61 → cb_gI M' t i j = cb_gI M t i j) (hV : mr_V M A) : mr_V M' A := by
  unfold mr_V at *
  have e : ∀ t, 48 ≤ t → t ≤ 61 → ∀ i, cb_gI M' t i = cb_gI M t i := fun t h1 h2 i => funext fun j => h t i j h1 h2
  simp only [e 48 (by decide) (by decide), e 50 (by decide) (by decide), e 57 (by decide) (by decide), e 54 (by decide) (by decide), e 59 (by decide) (by decide), e 61 (by decide) (by decide), e 52 (by decide) (by decide)]
  exact hV
theorem fr_R_no {t j : Nat} (h : ¬ t = 46) : fr_R t j = false := by
  unfold fr_R
  cases z : Nat.beq t 46 with
  | false => rfl
  | true => exact absurd (Nat.eq_of_beq_eq_true z) h
theorem mr_V_R {M M' : cb_M} {A : rd_P} (h : cb_fr fr_R M M') (hV : mr_V M A) : mr_V M' A := mr_V_eq (fun t i j h1 h2 => h.1 t i j (fr_R_no (by omega))) hV
/-- what a clause writes on -/
def fr_L (t j : Nat) : Bool := (Nat.ble 48 t && Nat.ble t 61 && !Nat.beq t 49 && !Nat.beq t 51 && !Nat.beq t 53 && !Nat.beq t 55) || (Nat.beq t 46 && (Nat.beq j 4 || (Nat.beq j 5 || (Nat.beq j 6 || Nat.beq j 7))))
theorem fr_R_L : ∀ t j, fr_R t j = true → fr_L t j = true := by
  intro t j h
  unfold fr_R at h
  simp only [Bool.and_eq_true, Bool.or_eq_true] at h
  have := Nat.eq_of_beq_eq_true h.1
  subst this
  rcases h.2 with h | h | h
  · have := Nat.eq_of_beq_eq_true h; subst this; rfl
  · have := Nat.eq_of_beq_eq_true h; subst this; rfl
  · have := Nat.eq_of_beq_eq_true h; subst this; rfl
/-- a row that is being laid -/
def mr_H (T i0 : Nat) (M0 M : cb_M) (l : List Int32) : Prop := (∀ t i j, fr_R t j = false → ¬ (t = T ∧ i = i0) → cb_gI M t i j = cb_gI M0 t i j) ∧ M.2 = M0.2 ∧ ∀ j v, l[j]? = some v → cb_gI M T i0 j = v
theorem mr_H.num {T i0 : Nat} {M0 M M' : cb_M} {l : List Int32} (h : mr_H T i0 M0 M l) (hT : ¬ T = 46) (hF : cb_fr fr_R M M') : mr_H T i0 M0 M' l := ⟨fun t i j q r => (hF.1 t i j q).trans (h.1 t i j q r), hF.2.trans h.2.1, fun j v e => (hF.1 T i0 j (fr_R_no hT)).trans (h.2.2 j v e)⟩
theorem mr_H.put {T i0 : Nat} {M0 M : cb_M} {l : List Int32} (h : mr_H T i0 M0 M l) {k : Nat} (hk : k = l.length) (v : Int32) : mr_H T i0 M0 (cb_sI M T i0 k v) (l ++ [v]) := by
  refine ⟨fun t i j q r => ?_, h.2.1, fun j w e => ?_⟩
  · rw [cb_gs_ne (fun z => r ⟨z.1, z.2.1⟩)]
    exact h.1 t i j q r
  · by_cases q : j = k
    · subst q
      rw [hk, List.getElem?_append_right (Nat.le_refl _), Nat.sub_self] at e
      cases e
      exact cb_gs_eq _ _ _ _ _
    · rw [cb_gs_ne (fun z => q z.2.2)]
      by_cases q2 : j < l.length
      · rw [List.getElem?_append_left q2] at e
        exact h.2.2 j w e
      · rw [List.getElem?_eq_none (by rw [List.length_append]; simp; omega)] at e
        cases e
theorem mr_H.fr {T i0 : Nat} {M0 M : cb_M} {l : List Int32} (h : mr_H T i0 M0 M l) (hT : ∀ j, fr_L T j = true) : cb_fr fr_L M0 M := by
  refine ⟨fun t i j q => h.1 t i j ?_ (fun w => ?_), h.2.1⟩
  · cases z : fr_R t j with
    | false => rfl
    | true => rw [fr_R_L t j z] at q; cases q
  · rw [w.1, hT j] at q
    cases q
def sp_X10_isTaken : cb_Sp := fun _ r M K => match r with
  | [.inl b, .inl q] => ∃ n h, (cb_gI M 48 0 1 = nI n ∧ n ≤ 8 ∧ cb_gI M 48 0 2 = nI h ∧ h ≤ 6) ∧ K (some (cb_i (cb_z (wr_tk (fun k => cb_gI M 57 k 0) (fun k => cb_gI M 57 k 1) n b q || wr_tk (fun k => cb_gI M 59 k 0) (fun k => cb_gI M 59 k 1) h b q)))) M
  | _ => False
def pt_X10_isTaken : cb_PT := cb_m 46 2 sp_X10_isTaken
theorem rc_X10_isTaken : cb_rc cb_tb RX10 pt_X10_isTaken := cb_m_rc rfl rfl
def md_X10_isTaken : cb_D := (RX10, cX10_isTaken, 4, (some .boolean), (0, 0, 0, 0), [
  (0, .iconst 0, 1, 0, 0, 0, 0),
  (1, .istore_n 3, 1, 0, 3, 0, 0),
  (2, .iload_n 3, 1, 0, 3, 0, 0),
  (3, .aload_n 0, 1, 0, 0, 0, 0),
  (4, .getfield 17, 3, 0, 10, 9, 1337),
  (7, .iconst 1, 1, 1, 0, 0, 0),
  (8, .iaload, 1, 0, 0, 0, 0),
  (9, .if_icmp .ge 35, 3, 0, 44, 0, 0),
  (12, .aload_n 0, 1, 0, 0, 0, 0),
  (13, .getfield 43, 3, 0, 10, 17, 1345),
  (16, .iload_n 3, 1, 0, 3, 0, 0),
  (17, .aaload, 1, 0, 0, 0, 0),
  (18, .iconst 0, 1, 0, 0, 0, 0),
  (19, .iaload, 1, 0, 0, 0, 0),
  (20, .iload_n 1, 1, 0, 1, 0, 0),
  (21, .if_icmp .ne 17, 3, 0, 38, 0, 0),
  (24, .aload_n 0, 1, 0, 0, 0, 0),
  (25, .getfield 43, 3, 0, 10, 17, 1345),
  (28, .iload_n 3, 1, 0, 3, 0, 0),
  (29, .aaload, 1, 0, 0, 0, 0),
  (30, .iconst 1, 1, 1, 0, 0, 0),
  (31, .iaload, 1, 0, 0, 0, 0),
  (32, .iload_n 2, 1, 0, 2, 0, 0),
  (33, .if_icmp .ne 5, 3, 0, 38, 0, 0),
  (36, .iconst 1, 1, 1, 0, 0, 0),
  (37, .ireturn, 1, 0, 0, 0, 0),
  (38, .iinc 3 1, 3, 1, 3, 0, 0),
  (41, .goto (-39), 3, 0, 2, 0, 0),
  (44, .iconst 0, 1, 0, 0, 0, 0),
  (45, .istore_n 3, 1, 0, 3, 0, 0),
  (46, .iload_n 3, 1, 0, 3, 0, 0),
  (47, .aload_n 0, 1, 0, 0, 0, 0),
  (48, .getfield 17, 3, 0, 10, 9, 1337),
  (51, .iconst 2, 1, 2, 0, 0, 0),
  (52, .iaload, 1, 0, 0, 0, 0),
  (53, .if_icmp .ge 35, 3, 0, 88, 0, 0),
  (56, .aload_n 0, 1, 0, 0, 0, 0),
  (57, .getfield 46, 3, 0, 10, 18, 1346),
  (60, .iload_n 3, 1, 0, 3, 0, 0),
  (61, .aaload, 1, 0, 0, 0, 0),
  (62, .iconst 0, 1, 0, 0, 0, 0),
  (63, .iaload, 1, 0, 0, 0, 0),
  (64, .iload_n 1, 1, 0, 1, 0, 0),
  (65, .if_icmp .ne 17, 3, 0, 82, 0, 0),
  (68, .aload_n 0, 1, 0, 0, 0, 0),
  (69, .getfield 46, 3, 0, 10, 18, 1346),
  (72, .iload_n 3, 1, 0, 3, 0, 0),
  (73, .aaload, 1, 0, 0, 0, 0),
  (74, .iconst 1, 1, 1, 0, 0, 0),
  (75, .iaload, 1, 0, 0, 0, 0),
  (76, .iload_n 2, 1, 0, 2, 0, 0),
  (77, .if_icmp .ne 5, 3, 0, 82, 0, 0),
  (80, .iconst 1, 1, 1, 0, 0, 0),
  (81, .ireturn, 1, 0, 0, 0, 0),
  (82, .iinc 3 1, 3, 1, 3, 0, 0),
  (85, .goto (-39), 3, 0, 46, 0, 0),
  (88, .iconst 0, 1, 0, 0, 0, 0),
  (89, .ireturn, 1, 0, 0, 0, 0)],
  [], [])
set_option maxRecDepth 100000 in
theorem vd_X10_isTaken : md_X10_isTaken.cd.all (cb_vE md_X10_isTaken) = true := by decide +kernel
theorem wd_X10_isTaken : cb_wd yX10_isTaken md_X10_isTaken := ⟨cb_tw (i := 1560) (by decide +kernel), cb_tw (i := 11) (by decide +kernel), by decide, by decide⟩
theorem cs_X10_isTaken : ∀ X, cb_Bs md_X10_isTaken X → ∀ g ∈ md_X10_isTaken.ga, cb_CS cb_tb md_X10_isTaken X g := fun X B => fun _ h => nomatch h
theorem ok_X10_isTaken : cb_MOK cb_tb yX10_isTaken md_X10_isTaken pt_X10_isTaken := by
  refine cb_okm ⟨plainFor_of_name (by decide), rfl⟩ (by decide) cs_X10_isTaken (by decide) (fun X n0 f i r M hr ha h => ?_)
  have h0 := cb_a1 (T := 46) rfl ha
  subst h0
  match r, hr, h with
  | [.inl b, .inl q], hr, h =>
    obtain ⟨n, hh, ⟨hn, hn8, hhk, hh6⟩, h⟩ := h
    have second : ∀ j, j ≤ hh → ∀ x : Int32, x = nI j → wr_tk (fun k => cb_gI M 57 k 0) (fun k => cb_gI M 57 k 1) n b q = false → wr_tk (fun k => cb_gI M 59 k 0) (fun k => cb_gI M 59 k 1) j b q = false → cb_Gd cb_tb md_X10_isTaken X 46 [some (cb_r 46 0), some (cb_i (b)), some (cb_i (q)), some (cb_i (x))] [] (cb_aS n0, f) M 0 0 := by
      refine cb_up (fun j => ∀ x : Int32, x = nI j → wr_tk (fun k => cb_gI M 57 k 0) (fun k => cb_gI M 57 k 1) n b q = false → wr_tk (fun k => cb_gI M 59 k 0) (fun k => cb_gI M 59 k 1) j b q = false → cb_Gd cb_tb md_X10_isTaken X 46 [some (cb_r 46 0), some (cb_i (b)), some (cb_i (q)), some (cb_i (x))] [] (cb_aS n0, f) M 0 0) ?_ ?_
      · intro x hx hz1 hz
        refine cb_run cb_tb_ok vd_X10_isTaken (cuts := [2, 46]) 90 ?_
        refine And.intro (mi_v 2 (by decide)) (cb_lout hx hhk (And.intro cb_rt0 (cb_z0 (K := fun v M' => X.K (.inl v) (cb_aS n0, f) M') h ?_)))
        rw [hz1, hz]
        rfl
      · intro j hj ih x hx hz1 hz
        have hxi : vp_in x 6 := by rw [hx]; exact cb_in8 hj hh6 (by decide)
        have hxc : x.toNatClampNeg = j := by rw [hx]; exact nI_clamp (by omega)
        have aj : cb_aS n0 59 x.toNatClampNeg = true := by
          rw [hxc]
          show Nat.blt j 6 = true
          exact Nat.blt_eq.mpr (by omega)
        have w0 : vp_in (nI 0) 2 := vp_in_nI (by decide) (by decide)
        have w1 : vp_in (nI 1) 2 := vp_in_nI (by decide) (by decide)
        refine cb_run cb_tb_ok vd_X10_isTaken (cuts := [2, 46]) 90 ?_
        refine And.intro (mi_v 2 (by decide)) (cb_lin hx hhk hj (by omega) (And.intro hxi (cb_av.of aj (And.intro w0 (cb_ifne (fun q1 => ?_) (fun q1 => And.intro hxi (cb_av.of aj (And.intro w1 (cb_ifne (fun q2 => ?_) (fun q2 => ?_))))))))))
        · rw [hxc] at q1
          have q1 : decide ((fun k => cb_gI M 59 k 0) j = b) = false := decide_eq_false q1
          refine ih _ (by rw [hx, nI_1]) hz1 ?_
          unfold wr_tk at *
          rw [cb_any_succ, hz, q1]
          rfl
        · rw [hxc] at q2
          have q2 : decide ((fun k => cb_gI M 59 k 1) j = q) = false := decide_eq_false q2
          refine ih _ (by rw [hx, nI_1]) hz1 ?_
          unfold wr_tk at *
          rw [cb_any_succ, hz, q2]
          simp
        · rw [hxc] at q1 q2
          have q1 : decide ((fun k => cb_gI M 59 k 0) j = b) = true := decide_eq_true q1
          have q2 : decide ((fun k => cb_gI M 59 k 1) j = q) = true := decide_eq_true q2
          refine And.intro cb_rt1 (cb_z1 (K := fun v M' => X.K (.inl v) (cb_aS n0, f) M') h ?_)
          have : wr_tk (fun k => cb_gI M 59 k 0) (fun k => cb_gI M 59 k 1) hh b q = true := cb_any_hit hj (by rw [q1, q2]; rfl)
          rw [this]
          simp
    have first : ∀ j, j ≤ n → ∀ x : Int32, x = nI j → wr_tk (fun k => cb_gI M 57 k 0) (fun k => cb_gI M 57 k 1) j b q = false → cb_Gd cb_tb md_X10_isTaken X 2 [some (cb_r 46 0), some (cb_i (b)), some (cb_i (q)), some (cb_i (x))] [] (cb_aS n0, f) M 0 0 := by
      refine cb_up (fun j => ∀ x : Int32, x = nI j → wr_tk (fun k => cb_gI M 57 k 0) (fun k => cb_gI M 57 k 1) j b q = false → cb_Gd cb_tb md_X10_isTaken X 2 [some (cb_r 46 0), some (cb_i (b)), some (cb_i (q)), some (cb_i (x))] [] (cb_aS n0, f) M 0 0) ?_ ?_
      · intro x hx hz
        refine cb_run cb_tb_ok vd_X10_isTaken (cuts := [2, 46]) 90 ?_
        exact And.intro (mi_v 1 (by decide)) (cb_lout hx hn (second 0 (Nat.zero_le _) _ rfl hz rfl))
      · intro j hj ih x hx hz
        have hxi : vp_in x 8 := by rw [hx]; exact cb_in8 hj hn8 (by decide)
        have hxc : x.toNatClampNeg = j := by rw [hx]; exact nI_clamp (by omega)
        have aj : cb_aS n0 57 x.toNatClampNeg = true := by
          rw [hxc]
          show Nat.blt j 8 = true
          exact Nat.blt_eq.mpr (by omega)
        have w0 : vp_in (nI 0) 6 := vp_in_nI (by decide) (by decide)
        have w1 : vp_in (nI 1) 6 := vp_in_nI (by decide) (by decide)
        refine cb_run cb_tb_ok vd_X10_isTaken (cuts := [2, 46]) 90 ?_
        refine And.intro (mi_v 1 (by decide)) (cb_lin hx hn hj (by omega) (And.intro hxi (cb_av.of aj (And.intro w0 (cb_ifne (fun q1 => ?_) (fun q1 => And.intro hxi (cb_av.of aj (And.intro w1 (cb_ifne (fun q2 => ?_) (fun q2 => ?_))))))))))
        · rw [hxc] at q1
          have q1 : decide ((fun k => cb_gI M 57 k 0) j = b) = false := decide_eq_false q1
          refine ih _ (by rw [hx, nI_1]) ?_
          unfold wr_tk at *
          rw [cb_any_succ, hz, q1]
          rfl
        · rw [hxc] at q2
          have q2 : decide ((fun k => cb_gI M 57 k 1) j = q) = false := decide_eq_false q2
          refine ih _ (by rw [hx, nI_1]) ?_
          unfold wr_tk at *
          rw [cb_any_succ, hz, q2]
          simp
        · rw [hxc] at q1 q2
          have q1 : decide ((fun k => cb_gI M 57 k 0) j = b) = true := decide_eq_true q1
          have q2 : decide ((fun k => cb_gI M 57 k 1) j = q) = true := decide_eq_true q2
          refine And.intro cb_rt1 (cb_z1 (K := fun v M' => X.K (.inl v) (cb_aS n0, f) M') h ?_)
          have : wr_tk (fun k => cb_gI M 57 k 0) (fun k => cb_gI M 57 k 1) n b q = true := cb_any_hit hj (by rw [q1, q2]; rfl)
          rw [this]
          rfl
    refine cb_run cb_tb_ok vd_X10_isTaken (cuts := [2, 46]) 90 ?_
    exact first 0 (Nat.zero_le _) _ rfl rfl
theorem wr_tk_eq {f g f' g' : wm_F} {n : Nat} {b q : Int32} (h : ∀ k, k < n → f k = f' k ∧ g k = g' k) : wr_tk f g n b q = wr_tk f' g' n b q := by
  unfold wr_tk
  rw [Bool.eq_iff_iff, List.any_eq_true, List.any_eq_true]
  constructor
  · rintro ⟨k, hk, e⟩
    exact ⟨k, hk, by rw [← (h k (List.mem_range.mp hk)).1, ← (h k (List.mem_range.mp hk)).2]; exact e⟩
  · rintro ⟨k, hk, e⟩
    exact ⟨k, hk, by rw [(h k (List.mem_range.mp hk)).1, (h k (List.mem_range.mp hk)).2]; exact e⟩
theorem mr_tk {M : cb_M} {A : rd_P} (hc : ∀ i, i < A.n → cb_gI M 57 i 0 = A.c.1 i ∧ cb_gI M 57 i 1 = A.c.2.1 i) (hk : ∀ l, l < A.h → cb_gI M 59 l 0 = A.hk.1 l ∧ cb_gI M 59 l 1 = A.hk.2 l) (b q : Int32) : (wr_tk (fun k => cb_gI M 57 k 0) (fun k => cb_gI M 57 k 1) A.n b q || wr_tk (fun k => cb_gI M 59 k 0) (fun k => cb_gI M 59 k 1) A.h b q) = rd_tk A b q := by
  unfold rd_tk
  rw [wr_tk_eq hc, wr_tk_eq hk]
def mr_hb (mt : wm_F) (len : Nat) (s : rd_X ⊕ Nat) : Nat := match s with
  | .inl _ => 0
  | .inr a => rd_end (rd_bl mt) len a
def mr_r1 (mt : wm_F) (len : Nat) (A : rd_P) (s : rd_X ⊕ Nat) : rd_X ⊕ (Int32 × Nat) := mr_N mt len 0 (nI A.nb - 1) (-1) s
def mr_r2 (mt : wm_F) (len : Nat) (A : rd_P) (s : rd_X ⊕ Nat) : rd_X ⊕ (Int32 × Nat) := mr_N mt len 0 19 (-1) (mr_na (mr_r1 mt len A s))
def mr_s2 (mt : wm_F) (len : Nat) (A : rd_P) (s : rd_X ⊕ Nat) : rd_X ⊕ Nat := if rd_tk A (mr_nv (mr_r1 mt len A s)) (mr_nv (mr_r2 mt len A s)) = true then rd_b (mr_na (mr_r2 mt len A s)) fun _ => .inl (2, mr_hb mt len (mr_na (mr_r1 mt len A s))) else mr_na (mr_r2 mt len A s)
def mr_r3 (mt : wm_F) (len : Nat) (A : rd_P) (s : rd_X ⊕ Nat) : rd_X ⊕ (Int32 × Nat) := mr_N mt len 0 200 (-1) (mr_s2 mt len A s)
def mr_r4 (mt : wm_F) (len : Nat) (A : rd_P) (s : rd_X ⊕ Nat) : rd_X ⊕ (Int32 × Nat) := mr_N mt len 1 20 (-1) (mr_na (mr_r3 mt len A s))
def mr_r5 (mt : wm_F) (len : Nat) (A : rd_P) (s : rd_X ⊕ Nat) : rd_X ⊕ (Int32 × Nat) := mr_N mt len 0 4 (-1) (mr_na (mr_r4 mt len A s))
def mr_r6 (mt : wm_F) (len : Nat) (A : rd_P) (s : rd_X ⊕ Nat) : rd_X ⊕ (Int32 × Nat) := mr_N mt len 0 999 (-1) (mr_na (mr_r5 mt len A s))
def mr_A1 (A : rd_P) (b p r w k f : Int32) : rd_P := ((A.nb, A.n + 1, A.h), A.2.1, A.th, (rd_up A.c.1 A.n b, rd_up A.c.2.1 A.n p, rd_up A.c.2.2.1 A.n (r - 100), rd_up A.c.2.2.2.1 A.n w, rd_up A.c.2.2.2.2.1 A.n k, rd_up A.c.2.2.2.2.2 A.n f), A.2.2.2.2)
def mr_A2 (A : rd_P) (b p : Int32) : rd_P := ((A.nb, A.n, A.h + 1), A.2.1, A.th, A.c, A.ky, (rd_up A.hk.1 A.h b, rd_up A.hk.2 A.h p), A.2.2.2.2.2.2)
def sp_X10_hangs : cb_Sp := fun _ r M K => match r with
  | [.inr (.inr (some (t, i0))), .inl z] => ∃ len s A mt, (mr_S M len s ∧ mr_V M A ∧ rd_C A ∧ cb_gI M 47 0 = mt) ∧ ((t = 57 ∧ i0 = A.n ∧ A.n < 8 ∧ z = 1 ∧ ∀ M', cb_fr fr_L M M' → cb_gI M' 46 0 7 = cb_gI M 46 0 7 → mr_V M' (mr_A1 A (mr_nv (mr_r1 mt len A s)) (mr_nv (mr_r2 mt len A s)) (mr_nv (mr_r3 mt len A s)) (mr_nv (mr_r4 mt len A s)) (mr_nv (mr_r5 mt len A s)) (mr_nv (mr_r6 mt len A s))) → mr_S M' len (mr_na (mr_r6 mt len A s)) → K none M') ∨
    (t = 59 ∧ i0 = A.h ∧ A.h < 6 ∧ z = 0 ∧ ∀ M', cb_fr fr_L M M' → cb_gI M' 46 0 7 = cb_gI M 46 0 7 → mr_V M' (mr_A2 A (mr_nv (mr_r1 mt len A s)) (mr_nv (mr_r2 mt len A s))) → mr_S M' len (mr_s2 mt len A s) → K none M'))
  | _ => False
def pt_X10_hangs : cb_PT := cb_m 46 2 sp_X10_hangs
theorem rc_X10_hangs : cb_rc cb_tb RX10 pt_X10_hangs := cb_m_rc rfl rfl
def md_X10_hangs : cb_D := (RX10, cX10_hangs, 4, none, (0, 0, 3, 66), [
  (0, .aload_n 1, 1, 0, 1, 0, 0),
  (1, .iconst 0, 1, 0, 0, 0, 0),
  (2, .aload_n 0, 1, 0, 0, 0, 0),
  (3, .iconst 0, 1, 0, 0, 0, 0),
  (4, .aload_n 0, 1, 0, 0, 0, 0),
  (5, .getfield 17, 3, 0, 10, 9, 1337),
  (8, .iconst 0, 1, 0, 0, 0, 0),
  (9, .iaload, 1, 0, 0, 0, 0),
  (10, .iconst 1, 1, 1, 0, 0, 0),
  (11, .isub, 1, 0, 0, 0, 0),
  (12, .iconst (-1), 1, (-1), 0, 0, 0),
  (13, .invokevirtual 185, 3, 0, 0, 0, 0),
  (16, .iastore, 1, 0, 0, 0, 0),
  (17, .aload_n 0, 1, 0, 0, 0, 0),
  (18, .invokevirtual 148, 3, 0, 1, 0, 0),
  (21, .aload_n 0, 1, 0, 0, 0, 0),
  (22, .getfield 135, 3, 0, 10, 4, 1332),
  (25, .istore_n 3, 1, 0, 3, 0, 0),
  (26, .aload_n 1, 1, 0, 1, 0, 0),
  (27, .iconst 1, 1, 1, 0, 0, 0),
  (28, .aload_n 0, 1, 0, 0, 0, 0),
  (29, .iconst 0, 1, 0, 0, 0, 0),
  (30, .bipush 19, 2, 19, 0, 0, 0),
  (32, .iconst (-1), 1, (-1), 0, 0, 0),
  (33, .invokevirtual 185, 3, 0, 0, 0, 0),
  (36, .iastore, 1, 0, 0, 0, 0),
  (37, .aload_n 0, 1, 0, 0, 0, 0),
  (38, .aload_n 1, 1, 0, 1, 0, 0),
  (39, .iconst 0, 1, 0, 0, 0, 0),
  (40, .iaload, 1, 0, 0, 0, 0),
  (41, .aload_n 1, 1, 0, 1, 0, 0),
  (42, .iconst 1, 1, 1, 0, 0, 0),
  (43, .iaload, 1, 0, 0, 0, 0),
  (44, .invokevirtual 196, 3, 0, 2, 0, 0),
  (47, .ifCond .eq 9, 3, 0, 56, 0, 0),
  (50, .aload_n 0, 1, 0, 0, 0, 0),
  (51, .iconst 2, 1, 2, 0, 0, 0),
  (52, .iload_n 3, 1, 0, 3, 0, 0),
  (53, .invokevirtual 155, 3, 0, 3, 0, 0),
  (56, .iload_n 2, 1, 0, 2, 0, 0),
  (57, .ifCond .eq 61, 3, 0, 118, 0, 0),
  (60, .aload_n 1, 1, 0, 1, 0, 0),
  (61, .iconst 2, 1, 2, 0, 0, 0),
  (62, .aload_n 0, 1, 0, 0, 0, 0),
  (63, .iconst 0, 1, 0, 0, 0, 0),
  (64, .sipush 200, 3, 200, 0, 0, 0),
  (67, .iconst (-1), 1, (-1), 0, 0, 0),
  (68, .invokevirtual 185, 3, 0, 0, 0, 0),
  (71, .iastore, 1, 0, 0, 0, 0),
  (72, .aload_n 1, 1, 0, 1, 0, 0),
  (73, .iconst 3, 1, 3, 0, 0, 0),
  (74, .aload_n 0, 1, 0, 0, 0, 0),
  (75, .iconst 1, 1, 1, 0, 0, 0),
  (76, .bipush 20, 2, 20, 0, 0, 0),
  (78, .iconst (-1), 1, (-1), 0, 0, 0),
  (79, .invokevirtual 185, 3, 0, 0, 0, 0),
  (82, .iastore, 1, 0, 0, 0, 0),
  (83, .aload_n 1, 1, 0, 1, 0, 0),
  (84, .iconst 4, 1, 4, 0, 0, 0),
  (85, .aload_n 0, 1, 0, 0, 0, 0),
  (86, .iconst 0, 1, 0, 0, 0, 0),
  (87, .iconst 4, 1, 4, 0, 0, 0),
  (88, .iconst (-1), 1, (-1), 0, 0, 0),
  (89, .invokevirtual 185, 3, 0, 0, 0, 0),
  (92, .iastore, 1, 0, 0, 0, 0),
  (93, .aload_n 1, 1, 0, 1, 0, 0),
  (94, .iconst 5, 1, 5, 0, 0, 0),
  (95, .aload_n 0, 1, 0, 0, 0, 0),
  (96, .iconst 0, 1, 0, 0, 0, 0),
  (97, .sipush 999, 3, 999, 0, 0, 0),
  (100, .iconst (-1), 1, (-1), 0, 0, 0),
  (101, .invokevirtual 185, 3, 0, 0, 0, 0),
  (104, .iastore, 1, 0, 0, 0, 0),
  (105, .aload_n 0, 1, 0, 0, 0, 0),
  (106, .getfield 17, 3, 0, 10, 9, 1337),
  (109, .iconst 1, 1, 1, 0, 0, 0),
  (110, .dup2, 1, 0, 0, 0, 0),
  (111, .iaload, 1, 0, 0, 0, 0),
  (112, .iconst 1, 1, 1, 0, 0, 0),
  (113, .iadd, 1, 0, 0, 0, 0),
  (114, .iastore, 1, 0, 0, 0, 0),
  (115, .goto 13, 3, 0, 128, 0, 0),
  (118, .aload_n 0, 1, 0, 0, 0, 0),
  (119, .getfield 17, 3, 0, 10, 9, 1337),
  (122, .iconst 2, 1, 2, 0, 0, 0),
  (123, .dup2, 1, 0, 0, 0, 0),
  (124, .iaload, 1, 0, 0, 0, 0),
  (125, .iconst 1, 1, 1, 0, 0, 0),
  (126, .iadd, 1, 0, 0, 0, 0),
  (127, .iastore, 1, 0, 0, 0, 0),
  (128, .return_, 1, 0, 0, 0, 0)],
  [(0, 185, 4, 0, 0, pt_X10_number), (0, 148, 1, 0, 0, pt_X10_blanks), (0, 196, 3, 0, 0, pt_X10_isTaken), (0, 155, 3, 0, 0, pt_X10_wrong)], [])
set_option maxRecDepth 100000 in
theorem vd_X10_hangs : md_X10_hangs.cd.all (cb_vE md_X10_hangs) = true := by decide +kernel
theorem wd_X10_hangs : cb_wd yX10_hangs md_X10_hangs := ⟨cb_tw (i := 1556) (by decide +kernel), cb_tw (i := 11) (by decide +kernel), by decide, by decide⟩
theorem cs_X10_hangs : ∀ X, cb_Bs md_X10_hangs X → ∀ g ∈ md_X10_hangs.ga, cb_CS cb_tb md_X10_hangs X g := fun X B => List.forall_mem_cons.mpr ⟨cb_csV B ok_X10_number wd_X10_number (cb_tw (i := 1545) (by decide +kernel)) (cb_tw (i := 1547) (by decide +kernel)) (cb_tp (i := 53) (by decide +kernel)) rc_X10_number ⟨by decide, by decide⟩ (by decide +kernel), List.forall_mem_cons.mpr ⟨cb_csV B ok_X10_blanks wd_X10_blanks (cb_tw (i := 1511) (by decide +kernel)) (cb_tw (i := 1513) (by decide +kernel)) (cb_tp (i := 46) (by decide +kernel)) rc_X10_blanks ⟨by decide, by decide⟩ (by decide +kernel), List.forall_mem_cons.mpr ⟨cb_csV B ok_X10_isTaken wd_X10_isTaken (cb_tw (i := 1557) (by decide +kernel)) (cb_tw (i := 1559) (by decide +kernel)) (cb_tp (i := 55) (by decide +kernel)) rc_X10_isTaken ⟨by decide, by decide⟩ (by decide +kernel), List.forall_mem_cons.mpr ⟨cb_csV B ok_X10_wrong wd_X10_wrong (cb_tw (i := 1538) (by decide +kernel)) (cb_tw (i := 1540) (by decide +kernel)) (cb_tp (i := 52) (by decide +kernel)) rc_X10_wrong ⟨by decide, by decide⟩ (by decide +kernel), fun _ h => nomatch h⟩⟩⟩⟩
theorem ok_X10_hangs : cb_MOK cb_tb yX10_hangs md_X10_hangs pt_X10_hangs := by
  refine cb_okm ⟨plainFor_of_name (by decide), rfl⟩ (by decide) cs_X10_hangs (by decide) (fun X n0 f i r M hr ha h => ?_)
  have h0 := cb_a1 (T := 46) rfl ha
  subst h0
  match r, hr, h with
  | [.inr (.inr (some (t, i0))), .inl z], hr, h =>
    obtain ⟨len, s, A, mt, ⟨hS, hV, hC, ht⟩, h⟩ := h
    obtain ⟨hc1, hc2, hc3⟩ := id hC
    rcases h with ⟨rfl, rfl, hpre, rfl, h⟩ | ⟨rfl, rfl, hpre, rfl, h⟩
    · have aT : cb_aS n0 57 A.n = true := by
        show Nat.blt A.n 8 = true
        exact Nat.blt_eq.mpr hpre
      have vi : ∀ k, k < 6 → vp_in (nI k) 6 := fun k hk => vp_in_nI hk (by decide)
      have go : ∀ (x : Int32) M4, mr_H 57 A.n M M4 [mr_nv (mr_r1 mt len A s), mr_nv (mr_r2 mt len A s)] → mr_S M4 len (mr_s2 mt len A s) → cb_gI M4 47 0 = mt → cb_Gd cb_tb md_X10_hangs X 56 [some (cb_r 46 0), some (cb_r 57 (A.n)), some (cb_i (1)), some (cb_i (x))] [] (cb_aS n0, f) M4 0 0 := by
        intro x M4 hH hS4 ht4
        refine cb_run cb_tb_ok vd_X10_hangs (cuts := []) 90 ?_
        refine And.intro (fun q => absurd q (show ¬ (1 : Int32) = 0 by decide)) (fun _ => ?_)
        refine And.intro (cb_on rfl) (mr_call 201 hS4 rfl (by decide) ht4 (fun M5 hF5 hS5 ht5 => cb_av.of aT (And.intro (vi 2 (by decide)) ?_)))
        have H5 := (hH.num (by decide) hF5).put (k := 2) rfl (mr_nv (mr_r3 mt len A s))
        refine And.intro (cb_on rfl) (mr_call 21 (mr_S_set hS5 (by decide)) rfl (by decide) ht5 (fun M6 hF6 hS6 ht6 => cb_av.of aT (And.intro (vi 3 (by decide)) ?_)))
        have H6 := (H5.num (by decide) hF6).put (k := 3) rfl (mr_nv (mr_r4 mt len A s))
        refine And.intro (cb_on rfl) (mr_call 5 (mr_S_set hS6 (by decide)) rfl (by decide) ht6 (fun M7 hF7 hS7 ht7 => cb_av.of aT (And.intro (vi 4 (by decide)) ?_)))
        have H7 := (H6.num (by decide) hF7).put (k := 4) rfl (mr_nv (mr_r5 mt len A s))
        refine And.intro (cb_on rfl) (mr_call 1000 (mr_S_set hS7 (by decide)) rfl (by decide) ht7 (fun M8 hF8 hS8 ht8 => cb_av.of aT (And.intro (vi 5 (by decide)) ?_)))
        have H8 := (H7.num (by decide) hF8).put (k := 5) rfl (mr_nv (mr_r6 mt len A s))
        refine And.intro (mi_v 1 (by decide)) (And.intro (mi_v 1 (by decide)) (And.intro rfl ?_))
        have hn : cb_gI (cb_sI M8 57 A.n 5 (mr_nv (mr_r6 mt len A s))) 48 0 1 = nI A.n := (H8.1 48 0 1 rfl (by omega)).trans hV.1.2.1
        have em : cb_sI (cb_sI M8 57 A.n 5 (mr_nv (mr_r6 mt len A s))) 48 0 1 (cb_gI (cb_sI M8 57 A.n 5 (mr_nv (mr_r6 mt len A s))) 48 0 1 + 1) = cb_sI (cb_sI M8 57 A.n 5 (mr_nv (mr_r6 mt len A s))) 48 0 1 (nI (A.n + 1)) := by rw [hn, nI_1]
        refine cb_eqN (h (cb_sI (cb_sI M8 57 A.n 5 (mr_nv (mr_r6 mt len A s))) 48 0 1 (nI (A.n + 1))) ((H8.fr (fun _ => rfl)).set (nI (A.n + 1)) rfl) (H8.1 46 0 7 rfl (by omega)) ?_ (mr_S_set (mr_S_set hS8 (by decide)) (by decide))) em
        generalize cb_sI M8 57 A.n 5 (mr_nv (mr_r6 mt len A s)) = M9 at *
        have g : ∀ t i j, ¬ t = 46 → ¬ (t = 57 ∧ i = A.n) → ¬ (t = 48 ∧ j = 1) → cb_gI (cb_sI M9 48 0 1 (nI (A.n + 1))) t i j = cb_gI M t i j := fun t i j h1 h2 h3 => (cb_gs_ne (fun w => h3 ⟨w.1, w.2.2⟩)).trans (H8.1 t i j (fr_R_no h1) h2)
        have gr : ∀ j v, [mr_nv (mr_r1 mt len A s), mr_nv (mr_r2 mt len A s), mr_nv (mr_r3 mt len A s), mr_nv (mr_r4 mt len A s), mr_nv (mr_r5 mt len A s), mr_nv (mr_r6 mt len A s)][j]? = some v → cb_gI (cb_sI M9 48 0 1 (nI (A.n + 1))) 57 A.n j = v := fun j v e => (cb_gs_ne (by omega)).trans (H8.2.2 j v e)
        obtain ⟨⟨v1, v2, v3, v4, v5⟩, v6, v7, v8, v9, v10, v11⟩ := hV
        refine ⟨⟨(g 48 0 0 (by decide) (by omega) (by omega)).trans v1, cb_gs_eq _ _ _ _ _, (g 48 0 2 (by decide) (by omega) (by omega)).trans v3, (g 48 0 3 (by decide) (by omega) (by omega)).trans v4, (g 48 0 4 (by decide) (by omega) (by omega)).trans v5⟩, fun b hb => (g 50 0 b (by decide) (by omega) (by omega)).trans (v6 b hb), fun i hi => ?_, fun i hi => (g 54 0 i (by decide) (by omega) (by omega)).trans (v8 i hi), fun l hl => ⟨(g 59 l 0 (by decide) (by omega) (by omega)).trans (v9 l hl).1, (g 59 l 1 (by decide) (by omega) (by omega)).trans (v9 l hl).2⟩, fun i j hi hj => (g 61 i j (by decide) (by omega) (by omega)).trans (v10 i j hi hj), fun d hd => (g 52 0 d (by decide) (by omega) (by omega)).trans (v11 d hd)⟩
        have hi : i < A.n + 1 := hi
        by_cases e : i = A.n
        · subst e
          rw [gr 0 _ rfl, gr 1 _ rfl, gr 2 _ rfl, gr 3 _ rfl, gr 4 _ rfl, gr 5 _ rfl]
          exact ⟨(rd_up_eq _ _ _).symm, (rd_up_eq _ _ _).symm, (rd_up_eq _ _ _).symm, (rd_up_eq _ _ _).symm, (rd_up_eq _ _ _).symm, (rd_up_eq _ _ _).symm⟩
        · have gg : ∀ j, cb_gI (cb_sI M9 48 0 1 (nI (A.n + 1))) 57 i j = cb_gI M 57 i j := fun j => g 57 i j (by decide) (fun w => e w.2) (by omega)
          rw [gg, gg, gg, gg, gg, gg]
          obtain ⟨w1, w2, w3, w4, w5, w6⟩ := v7 i (by omega)
          exact ⟨w1.trans (rd_up_ne e).symm, w2.trans (rd_up_ne e).symm, w3.trans (rd_up_ne e).symm, w4.trans (rd_up_ne e).symm, w5.trans (rd_up_ne e).symm, w6.trans (rd_up_ne e).symm⟩
      refine cb_run cb_tb_ok vd_X10_hangs (cuts := [56]) 90 ?_
      refine And.intro (mi_v 0 (by decide)) (And.intro (cb_on rfl) ?_)
      show sp_X10_number 0 [.inl 0, .inl (cb_gI M 48 0 0 - 1), .inl (-1)] M _
      rw [hV.1.1]
      refine mr_call A.nb hS rfl (by omega) ht (fun M1 hF1 hS1 ht1 => cb_av.of aT (And.intro (vi 0 (by decide)) ?_))
      have H0 : mr_H 57 A.n M M [] := ⟨fun _ _ _ _ _ => rfl, rfl, fun _ _ e => by cases e⟩
      have H1 := (H0.num (by decide) hF1).put (k := 0) rfl (mr_nv (mr_r1 mt len A s))
      refine And.intro (cb_on rfl) (mr_blc (mr_S_set hS1 (by decide)) ht1 (fun M2 hF2 hS2 ht2 => ?_))
      have H2 := H1.num (by decide) hF2
      refine And.intro (cb_on rfl) ?_
      refine mr_call 20 hS2 rfl (by decide) ht2 (fun M3 hF3 hS3 ht3 => ?_)
      have hS3' : mr_S M3 len (mr_na (mr_r2 mt len A s)) := by
        have := hS3
        rw [mr_N_bl] at this
        exact this
      rw [mr_N_bl]
      refine cb_av.of aT (And.intro (vi 1 (by decide)) ?_)
      have H3 : mr_H 57 A.n M (cb_sI M3 57 A.n 1 (mr_nv (mr_r2 mt len A s))) [mr_nv (mr_r1 mt len A s), mr_nv (mr_r2 mt len A s)] := (H2.num (by decide) hF3).put (k := 1) rfl (mr_nv (mr_r2 mt len A s))
      have tk : ∀ a b, a = mr_nv (mr_r1 mt len A s) → b = mr_nv (mr_r2 mt len A s) → (wr_tk (fun k => cb_gI (cb_sI M3 57 A.n 1 (mr_nv (mr_r2 mt len A s))) 57 k 0) (fun k => cb_gI (cb_sI M3 57 A.n 1 (mr_nv (mr_r2 mt len A s))) 57 k 1) A.n a b || wr_tk (fun k => cb_gI (cb_sI M3 57 A.n 1 (mr_nv (mr_r2 mt len A s))) 59 k 0) (fun k => cb_gI (cb_sI M3 57 A.n 1 (mr_nv (mr_r2 mt len A s))) 59 k 1) A.h a b) = rd_tk A (mr_nv (mr_r1 mt len A s)) (mr_nv (mr_r2 mt len A s)) := by
        intro a b ea eb
        rw [ea, eb]
        refine mr_tk (fun i hi => ?_) (fun l hl => ?_) _ _
        · rw [H3.1 57 i 0 rfl (by omega), H3.1 57 i 1 rfl (by omega)]
          exact ⟨(hV.2.2.1 i hi).1, (hV.2.2.1 i hi).2.1⟩
        · rw [H3.1 59 l 0 rfl (by omega), H3.1 59 l 1 rfl (by omega)]
          exact hV.2.2.2.2.1 l hl
      refine cb_av.of aT (And.intro (vi 0 (by decide)) (cb_av.of aT (And.intro (vi 1 (by decide)) (And.intro (cb_on rfl) ⟨A.n, A.h, ⟨(H3.1 48 0 1 rfl (by omega)).trans hV.1.2.1, hc2, (H3.1 48 0 2 rfl (by omega)).trans hV.1.2.2.1, hc3⟩, cb_ifz (fun q => ?_) (fun q => ?_)⟩))))
      · have q := (tk _ _ (H3.2.2 0 _ rfl) (H3.2.2 1 _ rfl)).symm.trans q
        refine go _ _ H3 ?_ ht3
        unfold mr_s2
        rw [if_neg (by rw [q]; decide)]
        exact mr_S_set hS3' (by decide)
      · have q := (tk _ _ (H3.2.2 0 _ rfl) (H3.2.2 1 _ rfl)).symm.trans q
        refine And.intro (cb_on rfl) (mr_wr (b := mr_hb mt len (mr_na (mr_r1 mt len A s))) (mr_S_set hS3' (by decide)) (by decide) ?_ (fun M4 hF4 hS4 => ?_))
        · intro a ea
          show cb_gI M2 46 0 4 = _
          cases e1 : mr_na (mr_r1 mt len A s) with
          | inl x =>
            unfold mr_r2 at ea
            rw [e1] at ea
            cases ea
          | inr a1 =>
            have hS2 : mr_S M2 len (rd_b (mr_na (mr_r1 mt len A s)) fun a => .inr (rd_end (rd_bl mt) len a)) := hS2
            rw [e1] at hS2
            exact hS2.1.2.2.1
        · refine go _ _ (H3.num (by decide) hF4) ?_ ((hF4.fn 47 0 (fun _ => rfl)).trans ht3)
          unfold mr_s2
          rw [if_pos q]
          exact hS4
    · have aT : cb_aS n0 59 A.h = true := by
        show Nat.blt A.h 6 = true
        exact Nat.blt_eq.mpr hpre
      have vi : ∀ k, k < 2 → vp_in (nI k) 2 := fun k hk => vp_in_nI hk (by decide)
      have go : ∀ (x : Int32) M4, mr_H 59 A.h M M4 [mr_nv (mr_r1 mt len A s), mr_nv (mr_r2 mt len A s)] → mr_S M4 len (mr_s2 mt len A s) → cb_gI M4 47 0 = mt → cb_Gd cb_tb md_X10_hangs X 56 [some (cb_r 46 0), some (cb_r 59 (A.h)), some (cb_i (0)), some (cb_i (x))] [] (cb_aS n0, f) M4 0 0 := by
        intro x M4 hH hS4 ht4
        refine cb_run cb_tb_ok vd_X10_hangs (cuts := []) 90 ?_
        refine And.intro (fun _ => ?_) (fun q => absurd rfl q)
        refine And.intro (mi_v 2 (by decide)) (And.intro (mi_v 2 (by decide)) (And.intro rfl ?_))
        have hn : cb_gI M4 48 0 2 = nI A.h := (hH.1 48 0 2 rfl (by omega)).trans hV.1.2.2.1
        have em : cb_sI M4 48 0 2 (cb_gI M4 48 0 2 + 1) = cb_sI M4 48 0 2 (nI (A.h + 1)) := by rw [hn, nI_1]
        refine cb_eqN (h (cb_sI M4 48 0 2 (nI (A.h + 1))) ((hH.fr (fun _ => rfl)).set (nI (A.h + 1)) rfl) (hH.1 46 0 7 rfl (by omega)) ?_ (mr_S_set hS4 (by decide))) em
        have g : ∀ t i j, ¬ t = 46 → ¬ (t = 59 ∧ i = A.h) → ¬ (t = 48 ∧ j = 2) → cb_gI (cb_sI M4 48 0 2 (nI (A.h + 1))) t i j = cb_gI M t i j := fun t i j h1 h2 h3 => (cb_gs_ne (fun w => h3 ⟨w.1, w.2.2⟩)).trans (hH.1 t i j (fr_R_no h1) h2)
        have gr : ∀ j v, [mr_nv (mr_r1 mt len A s), mr_nv (mr_r2 mt len A s)][j]? = some v → cb_gI (cb_sI M4 48 0 2 (nI (A.h + 1))) 59 A.h j = v := fun j v e => (cb_gs_ne (by omega)).trans (hH.2.2 j v e)
        obtain ⟨⟨v1, v2, v3, v4, v5⟩, v6, v7, v8, v9, v10, v11⟩ := hV
        refine ⟨⟨(g 48 0 0 (by decide) (by omega) (by omega)).trans v1, (g 48 0 1 (by decide) (by omega) (by omega)).trans v2, cb_gs_eq _ _ _ _ _, (g 48 0 3 (by decide) (by omega) (by omega)).trans v4, (g 48 0 4 (by decide) (by omega) (by omega)).trans v5⟩, fun b hb => (g 50 0 b (by decide) (by omega) (by omega)).trans (v6 b hb), fun i hi => ?_, fun i hi => (g 54 0 i (by decide) (by omega) (by omega)).trans (v8 i hi), fun l hl => ?_, fun i j hi hj => (g 61 i j (by decide) (by omega) (by omega)).trans (v10 i j hi hj), fun d hd => (g 52 0 d (by decide) (by omega) (by omega)).trans (v11 d hd)⟩
        · have gg : ∀ j, cb_gI (cb_sI M4 48 0 2 (nI (A.h + 1))) 57 i j = cb_gI M 57 i j := fun j => g 57 i j (by decide) (by omega) (by omega)
          rw [gg, gg, gg, gg, gg, gg]
          exact v7 i hi
        · have hl : l < A.h + 1 := hl
          by_cases e : l = A.h
          · subst e
            rw [gr 0 _ rfl, gr 1 _ rfl]
            exact ⟨(rd_up_eq _ _ _).symm, (rd_up_eq _ _ _).symm⟩
          · rw [g 59 l 0 (by decide) (fun w => e w.2) (by omega), g 59 l 1 (by decide) (fun w => e w.2) (by omega)]
            exact ⟨(v9 l (by omega)).1.trans (rd_up_ne e).symm, (v9 l (by omega)).2.trans (rd_up_ne e).symm⟩
      refine cb_run cb_tb_ok vd_X10_hangs (cuts := [56]) 90 ?_
      refine And.intro (mi_v 0 (by decide)) (And.intro (cb_on rfl) ?_)
      show sp_X10_number 0 [.inl 0, .inl (cb_gI M 48 0 0 - 1), .inl (-1)] M _
      rw [hV.1.1]
      refine mr_call A.nb hS rfl (by omega) ht (fun M1 hF1 hS1 ht1 => cb_av.of aT (And.intro (vi 0 (by decide)) ?_))
      have H0 : mr_H 59 A.h M M [] := ⟨fun _ _ _ _ _ => rfl, rfl, fun _ _ e => by cases e⟩
      have H1 := (H0.num (by decide) hF1).put (k := 0) rfl (mr_nv (mr_r1 mt len A s))
      refine And.intro (cb_on rfl) (mr_blc (mr_S_set hS1 (by decide)) ht1 (fun M2 hF2 hS2 ht2 => ?_))
      have H2 := H1.num (by decide) hF2
      refine And.intro (cb_on rfl) ?_
      refine mr_call 20 hS2 rfl (by decide) ht2 (fun M3 hF3 hS3 ht3 => ?_)
      have hS3' : mr_S M3 len (mr_na (mr_r2 mt len A s)) := by
        have := hS3
        rw [mr_N_bl] at this
        exact this
      rw [mr_N_bl]
      refine cb_av.of aT (And.intro (vi 1 (by decide)) ?_)
      have H3 : mr_H 59 A.h M (cb_sI M3 59 A.h 1 (mr_nv (mr_r2 mt len A s))) [mr_nv (mr_r1 mt len A s), mr_nv (mr_r2 mt len A s)] := (H2.num (by decide) hF3).put (k := 1) rfl (mr_nv (mr_r2 mt len A s))
      have tk : ∀ a b, a = mr_nv (mr_r1 mt len A s) → b = mr_nv (mr_r2 mt len A s) → (wr_tk (fun k => cb_gI (cb_sI M3 59 A.h 1 (mr_nv (mr_r2 mt len A s))) 57 k 0) (fun k => cb_gI (cb_sI M3 59 A.h 1 (mr_nv (mr_r2 mt len A s))) 57 k 1) A.n a b || wr_tk (fun k => cb_gI (cb_sI M3 59 A.h 1 (mr_nv (mr_r2 mt len A s))) 59 k 0) (fun k => cb_gI (cb_sI M3 59 A.h 1 (mr_nv (mr_r2 mt len A s))) 59 k 1) A.h a b) = rd_tk A (mr_nv (mr_r1 mt len A s)) (mr_nv (mr_r2 mt len A s)) := by
        intro a b ea eb
        rw [ea, eb]
        refine mr_tk (fun i hi => ?_) (fun l hl => ?_) _ _
        · rw [H3.1 57 i 0 rfl (by omega), H3.1 57 i 1 rfl (by omega)]
          exact ⟨(hV.2.2.1 i hi).1, (hV.2.2.1 i hi).2.1⟩
        · rw [H3.1 59 l 0 rfl (by omega), H3.1 59 l 1 rfl (by omega)]
          exact hV.2.2.2.2.1 l hl
      refine cb_av.of aT (And.intro (vi 0 (by decide)) (cb_av.of aT (And.intro (vi 1 (by decide)) (And.intro (cb_on rfl) ⟨A.n, A.h, ⟨(H3.1 48 0 1 rfl (by omega)).trans hV.1.2.1, hc2, (H3.1 48 0 2 rfl (by omega)).trans hV.1.2.2.1, hc3⟩, cb_ifz (fun q => ?_) (fun q => ?_)⟩))))
      · have q := (tk _ _ (H3.2.2 0 _ rfl) (H3.2.2 1 _ rfl)).symm.trans q
        refine go _ _ H3 ?_ ht3
        unfold mr_s2
        rw [if_neg (by rw [q]; decide)]
        exact mr_S_set hS3' (by decide)
      · have q := (tk _ _ (H3.2.2 0 _ rfl) (H3.2.2 1 _ rfl)).symm.trans q
        refine And.intro (cb_on rfl) (mr_wr (b := mr_hb mt len (mr_na (mr_r1 mt len A s))) (mr_S_set hS3' (by decide)) (by decide) ?_ (fun M4 hF4 hS4 => ?_))
        · intro a ea
          show cb_gI M2 46 0 4 = _
          cases e1 : mr_na (mr_r1 mt len A s) with
          | inl x =>
            unfold mr_r2 at ea
            rw [e1] at ea
            cases ea
          | inr a1 =>
            have hS2 : mr_S M2 len (rd_b (mr_na (mr_r1 mt len A s)) fun a => .inr (rd_end (rd_bl mt) len a)) := hS2
            rw [e1] at hS2
            exact hS2.1.2.2.1
        · refine go _ _ (H3.num (by decide) hF4) ?_ ((hF4.fn 47 0 (fun _ => rfl)).trans ht3)
          unfold mr_s2
          rw [if_pos q]
          exact hS4
