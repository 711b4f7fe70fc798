/-! ===== the reference: wall ===== -/
def fr_W (t j : Nat) : Bool := (Nat.ble 48 t && Nat.ble t 61 && !Nat.beq t 49 && !Nat.beq t 51 && !Nat.beq t 53 && !Nat.beq t 55) || (Nat.beq t 46 && Nat.ble j 7)
def fr_W2 (t j : Nat) : Bool := fr_W t j || fr_S t j
theorem fr_W_2 : ∀ t j, fr_W t j = true → fr_W2 t j = true := fun t j h => by unfold fr_W2; rw [h]; rfl
theorem fr_S_2 : ∀ t j, fr_S t j = true → fr_W2 t j = true := fun t j h => by unfold fr_W2; rw [h, Bool.or_true]
theorem fr_L_W : ∀ t j, fr_L t j = true → fr_W t j = true := by
  intro t j h
  unfold fr_L at h
  unfold fr_W
  rw [Bool.or_eq_true] at h ⊢
  refine h.imp id (fun h => ?_)
  simp only [Bool.and_eq_true, Bool.or_eq_true] at h ⊢
  refine ⟨h.1, ?_⟩
  rcases h.2 with h | h | h | h
  · have := Nat.eq_of_beq_eq_true h; subst this; rfl
  · have := Nat.eq_of_beq_eq_true h; subst this; rfl
  · have := Nat.eq_of_beq_eq_true h; subst this; rfl
  · have := Nat.eq_of_beq_eq_true h; subst this; rfl
theorem fr_R_W : ∀ t j, fr_R t j = true → fr_W t j = true := fun t j h => fr_L_W t j (fr_R_L t j h)
/-- the wall stands as it was read -/
def ms_A (M : cb_M) (A : rd_P) : Prop := (cb_gI M 49 0 0 = nI A.nb ∧ cb_gI M 49 0 1 = nI A.n ∧ cb_gI M 49 0 2 = nI A.h ∧ cb_gI M 49 0 3 = A.w ∧ cb_gI M 49 0 4 = A.so) ∧ (∀ b, b < A.nb → cb_gI M 51 0 b = A.th b) ∧
  (∀ i, i < A.n → cb_gI M 64 0 i = A.c.1 i ∧ cb_gI M 65 0 i = A.c.2.1 i ∧ cb_gI M 66 0 i = A.c.2.2.1 i ∧ cb_gI M 67 0 i = A.c.2.2.2.1 i ∧ cb_gI M 68 0 i = A.c.2.2.2.2.1 i ∧ cb_gI M 69 0 i = A.c.2.2.2.2.2 i ∧ cb_gI M 70 0 i = 0) ∧
  (∀ i, i < 8 → cb_gI M 55 0 i = A.ky i ∧ cb_gI M 71 0 i = -2147483648) ∧ (∀ l, l < A.h → cb_gI M 72 0 l = A.hk.1 l ∧ cb_gI M 73 0 l = A.hk.2 l) ∧ (∀ i j, i < 8 → j < 8 → cb_gI M 63 i j = A.he (i * 8 + j)) ∧ ∀ d, d < 400 → cb_gI M 53 0 d = A.dp d
theorem ms_of {M M' : cb_M} {A : rd_P} (hV : mr_V M A) (hQ : ms_Q M M' 5 400 A.nb 8 A.n A.h) : ms_A M' A := by
  obtain ⟨⟨v1, v2, v3, v4, v5⟩, v6, v7, v8, v9, v10, v11⟩ := hV
  obtain ⟨-, h1, h2, h3, h4, h5, h6⟩ := hQ
  exact ⟨⟨(h1 0 (by decide)).trans v1, (h1 1 (by decide)).trans v2, (h1 2 (by decide)).trans v3, (h1 3 (by decide)).trans v4, (h1 4 (by decide)).trans v5⟩, fun b hb => (h3 b hb).trans (v6 b hb),
    fun i hi => ⟨(h5 i hi).1.trans (v7 i hi).1, (h5 i hi).2.1.trans (v7 i hi).2.1, (h5 i hi).2.2.1.trans (v7 i hi).2.2.1, (h5 i hi).2.2.2.1.trans (v7 i hi).2.2.2.1, (h5 i hi).2.2.2.2.1.trans (v7 i hi).2.2.2.2.1, (h5 i hi).2.2.2.2.2.1.trans (v7 i hi).2.2.2.2.2, (h5 i hi).2.2.2.2.2.2⟩,
    fun i hi => ⟨(h4 i hi).1.trans (v8 i hi), (h4 i hi).2.1⟩, fun l hl => ⟨(h6 l hl).1.trans (v9 l hl).1, (h6 l hl).2.trans (v9 l hl).2⟩, fun i j hi hj => ((h4 i hi).2.2 j hj).trans (v10 i j hi hj), fun d hd => (h2 d hd).trans (v11 d hd)⟩
def mw_post (M : cb_M) (R : rd_X ⊕ rd_P) (v : Int32) (M' : cb_M) : Prop := cb_gI M' 46 0 0 = 0 ∧ cb_gI M' 46 0 1 = 0 ∧ (match R with
  | .inl (k, b) => cb_fr fr_W M M' ∧ v = k - 10 ∧ ¬ k = 0 ∧ cb_gI M' 46 0 3 = nI b
  | .inr A => cb_fr fr_W2 M M' ∧ v = nI A.n ∧ cb_gI M' 46 0 3 = -1 ∧ ms_A M' A ∧ cb_gI M' 46 0 33 = 0 ∧ cb_gI M' 46 0 34 = 0)
def sp_X10_wall : cb_Sp := fun _ r M K => match r with
  | [.inl N] => ∃ t, (cb_gI M 46 0 1 = nI t ∧ t ≤ 600) ∧ wg_r 0 t N (mT 1 M K) fun k => ∀ M' v, mw_post M (rd_loop (cb_gI M 47 0) k 61 rd_0 0 0) v M' → K (some (cb_i v)) M'
  | _ => False
/-- before the text is read -/
def mw_b (M : cb_M) (k : Nat) : Prop := cb_gI M 46 0 0 = 0 ∧ cb_gI M 46 0 1 = 0 ∧ cb_gI M 46 0 2 = nI k ∧ cb_gI M 46 0 4 = 0 ∧ cb_gI M 46 0 5 = 0 ∧ cb_gI M 46 0 6 = -1 ∧ cb_gI M 46 0 7 = 0
def mw_Q (M M' : cb_M) (k k1 k2 k3 : Nat) : Prop := cb_fr fr_W M M' ∧ mw_b M' k ∧ (∀ j, j < k1 → cb_gI M' 48 0 j = if j = 3 then 50 else 0) ∧ (∀ j, j < k2 → cb_gI M' 52 0 j = 0) ∧ ∀ i, i < k3 → cb_gI M' 54 0 i = 8 ∧ ∀ j, j < 8 → cb_gI M' 61 i j = 0
theorem mw_Q_V {M M' : cb_M} {k : Nat} (h : mw_Q M M' k 5 400 8) : mr_V M' rd_0 := by
  obtain ⟨-, -, h1, h2, h3⟩ := h
  exact ⟨⟨h1 0 (by decide), h1 1 (by decide), h1 2 (by decide), h1 3 (by decide), h1 4 (by decide)⟩, fun b hb => absurd hb (Nat.not_lt_zero b), fun b hb => absurd hb (Nat.not_lt_zero b), fun i hi => (h3 i hi).1, fun b hb => absurd hb (Nat.not_lt_zero b), fun i j hi hj => (h3 i hi).2 j hj, fun d hd => h2 d hd⟩
theorem rd_clause_60 {mt : wm_F} {len a : Nat} {A : rd_P} {y : rd_P × Nat} {cnt : Nat} (h : rd_clause mt len A cnt a = .inr y) : cnt < 60 := by
  unfold rd_clause at h
  split at h
  · cases h
  · split at h
    · cases h
    · rename_i q
      apply Classical.byContradiction
      intro w
      exact q (Or.inl (by omega))
def pt_X10_wall : cb_PT := cb_m 46 1 sp_X10_wall
theorem rc_X10_wall : cb_rc cb_tb RX10 pt_X10_wall := cb_m_rc rfl rfl
def md_X10_wall : cb_D := (RX10, cX10_wall, 4, (some .int), (0, 0, 6, 133), [
  (0, .aload_n 0, 1, 0, 0, 0, 0),
  (1, .iconst 0, 1, 0, 0, 0, 0),
  (2, .putfield 126, 3, 0, 10, 0, 1328),
  (5, .aload_n 0, 1, 0, 0, 0, 0),
  (6, .iload_n 1, 1, 0, 1, 0, 0),
  (7, .iconst 0, 1, 0, 0, 0, 0),
  (8, .aload_n 0, 1, 0, 0, 0, 0),
  (9, .getfield 129, 3, 0, 10, 1, 1329),
  (12, .invokestatic 160, 3, 0, 0, 0, 0),
  (15, .ifCond .ne 7, 3, 0, 22, 0, 0),
  (18, .iconst 1, 1, 1, 0, 0, 0),
  (19, .goto 4, 3, 0, 23, 0, 0),
  (22, .iconst 0, 1, 0, 0, 0, 0),
  (23, .iconst 1, 1, 1, 0, 0, 0),
  (24, .invokevirtual 200, 3, 0, 1, 0, 0),
  (27, .ifCond .eq 5, 3, 0, 32, 0, 0),
  (30, .iconst 0, 1, 0, 0, 0, 0),
  (31, .ireturn, 1, 0, 0, 0, 0),
  (32, .aload_n 0, 1, 0, 0, 0, 0),
  (33, .iconst 0, 1, 0, 0, 0, 0),
  (34, .putfield 129, 3, 0, 10, 1, 1329),
  (37, .aload_n 0, 1, 0, 0, 0, 0),
  (38, .iload_n 1, 1, 0, 1, 0, 0),
  (39, .putfield 132, 3, 0, 10, 2, 1330),
  (42, .aload_n 0, 1, 0, 0, 0, 0),
  (43, .iconst 0, 1, 0, 0, 0, 0),
  (44, .putfield 135, 3, 0, 10, 4, 1332),
  (47, .aload_n 0, 1, 0, 0, 0, 0),
  (48, .iconst 0, 1, 0, 0, 0, 0),
  (49, .putfield 142, 3, 0, 10, 5, 1333),
  (52, .aload_n 0, 1, 0, 0, 0, 0),
  (53, .iconst (-1), 1, (-1), 0, 0, 0),
  (54, .putfield 145, 3, 0, 10, 6, 1334),
  (57, .aload_n 0, 1, 0, 0, 0, 0),
  (58, .iconst 0, 1, 0, 0, 0, 0),
  (59, .putfield 179, 3, 0, 10, 7, 1335),
  (62, .iconst 0, 1, 0, 0, 0, 0),
  (63, .istore_n 2, 1, 0, 2, 0, 0),
  (64, .iload_n 2, 1, 0, 2, 0, 0),
  (65, .iconst 5, 1, 5, 0, 0, 0),
  (66, .if_icmp .ge 26, 3, 0, 92, 0, 0),
  (69, .aload_n 0, 1, 0, 0, 0, 0),
  (70, .getfield 17, 3, 0, 10, 9, 1337),
  (73, .iload_n 2, 1, 0, 2, 0, 0),
  (74, .iload_n 2, 1, 0, 2, 0, 0),
  (75, .iconst 3, 1, 3, 0, 0, 0),
  (76, .if_icmp .ne 8, 3, 0, 84, 0, 0),
  (79, .bipush 50, 2, 50, 0, 0, 0),
  (81, .goto 4, 3, 0, 85, 0, 0),
  (84, .iconst 0, 1, 0, 0, 0, 0),
  (85, .iastore, 1, 0, 0, 0, 0),
  (86, .iinc 2 1, 3, 1, 2, 0, 0),
  (89, .goto (-25), 3, 0, 64, 0, 0),
  (92, .iconst 0, 1, 0, 0, 0, 0),
  (93, .istore_n 2, 1, 0, 2, 0, 0),
  (94, .iload_n 2, 1, 0, 2, 0, 0),
  (95, .sipush 400, 3, 400, 0, 0, 0),
  (98, .if_icmp .ge 16, 3, 0, 114, 0, 0),
  (101, .aload_n 0, 1, 0, 0, 0, 0),
  (102, .getfield 29, 3, 0, 10, 13, 1341),
  (105, .iload_n 2, 1, 0, 2, 0, 0),
  (106, .iconst 0, 1, 0, 0, 0, 0),
  (107, .iastore, 1, 0, 0, 0, 0),
  (108, .iinc 2 1, 3, 1, 2, 0, 0),
  (111, .goto (-17), 3, 0, 94, 0, 0),
  (114, .iconst 0, 1, 0, 0, 0, 0),
  (115, .istore_n 2, 1, 0, 2, 0, 0),
  (116, .iload_n 2, 1, 0, 2, 0, 0),
  (117, .bipush 8, 2, 8, 0, 0, 0),
  (119, .if_icmp .ge 40, 3, 0, 159, 0, 0),
  (122, .aload_n 0, 1, 0, 0, 0, 0),
  (123, .getfield 35, 3, 0, 10, 15, 1343),
  (126, .iload_n 2, 1, 0, 2, 0, 0),
  (127, .bipush 8, 2, 8, 0, 0, 0),
  (129, .iastore, 1, 0, 0, 0, 0),
  (130, .iconst 0, 1, 0, 0, 0, 0),
  (131, .istore_n 3, 1, 0, 3, 0, 0),
  (132, .iload_n 3, 1, 0, 3, 0, 0),
  (133, .bipush 8, 2, 8, 0, 0, 0),
  (135, .if_icmp .ge 18, 3, 0, 153, 0, 0),
  (138, .aload_n 0, 1, 0, 0, 0, 0),
  (139, .getfield 49, 3, 0, 10, 19, 1347),
  (142, .iload_n 2, 1, 0, 2, 0, 0),
  (143, .aaload, 1, 0, 0, 0, 0),
  (144, .iload_n 3, 1, 0, 3, 0, 0),
  (145, .iconst 0, 1, 0, 0, 0, 0),
  (146, .iastore, 1, 0, 0, 0, 0),
  (147, .iinc 3 1, 3, 1, 3, 0, 0),
  (150, .goto (-18), 3, 0, 132, 0, 0),
  (153, .iinc 2 1, 3, 1, 2, 0, 0),
  (156, .goto (-40), 3, 0, 116, 0, 0),
  (159, .aload_n 0, 1, 0, 0, 0, 0),
  (160, .invokevirtual 148, 3, 0, 2, 0, 0),
  (163, .aload_n 0, 1, 0, 0, 0, 0),
  (164, .getfield 142, 3, 0, 10, 5, 1333),
  (167, .ifCond .ne 25, 3, 0, 192, 0, 0),
  (170, .aload_n 0, 1, 0, 0, 0, 0),
  (171, .getfield 135, 3, 0, 10, 4, 1332),
  (174, .aload_n 0, 1, 0, 0, 0, 0),
  (175, .getfield 132, 3, 0, 10, 2, 1330),
  (178, .if_icmp .ge 14, 3, 0, 192, 0, 0),
  (181, .aload_n 0, 1, 0, 0, 0, 0),
  (182, .invokevirtual 204, 3, 0, 3, 0, 0),
  (185, .aload_n 0, 1, 0, 0, 0, 0),
  (186, .invokevirtual 148, 3, 0, 2, 0, 0),
  (189, .goto (-26), 3, 0, 163, 0, 0),
  (192, .aload_n 0, 1, 0, 0, 0, 0),
  (193, .aload_n 0, 1, 0, 0, 0, 0),
  (194, .getfield 145, 3, 0, 10, 6, 1334),
  (197, .putfield 9, 3, 0, 10, 3, 1331),
  (200, .aload_n 0, 1, 0, 0, 0, 0),
  (201, .getfield 142, 3, 0, 10, 5, 1333),
  (204, .ifCond .eq 11, 3, 0, 215, 0, 0),
  (207, .aload_n 0, 1, 0, 0, 0, 0),
  (208, .getfield 142, 3, 0, 10, 5, 1333),
  (211, .bipush 10, 2, 10, 0, 0, 0),
  (213, .isub, 1, 0, 0, 0, 0),
  (214, .ireturn, 1, 0, 0, 0, 0),
  (215, .aload_n 0, 1, 0, 0, 0, 0),
  (216, .invokevirtual 207, 3, 0, 4, 0, 0),
  (219, .aload_n 0, 1, 0, 0, 0, 0),
  (220, .getfield 20, 3, 0, 10, 10, 1338),
  (223, .iconst 1, 1, 1, 0, 0, 0),
  (224, .iaload, 1, 0, 0, 0, 0),
  (225, .ireturn, 1, 0, 0, 0, 0)],
  [(1, 160, 3, 0, 0, pt_X10_in), (0, 200, 3, 0, 0, pt_X10_bad), (0, 148, 1, 0, 0, pt_X10_blanks), (0, 204, 1, 0, 0, pt_X10_clause), (0, 207, 1, 0, 0, pt_X10_stands)], [])
set_option maxRecDepth 100000 in
theorem vd_X10_wall : md_X10_wall.cd.all (cb_vE md_X10_wall) = true := by decide +kernel
theorem wd_X10_wall : cb_wd yX10_wall md_X10_wall := ⟨cb_tw (i := 1503) (by decide +kernel), cb_tw (i := 11) (by decide +kernel), by decide, by decide⟩
theorem cs_X10_wall : ∀ X, cb_Bs md_X10_wall X → ∀ g ∈ md_X10_wall.ga, cb_CS cb_tb md_X10_wall X g := fun X B => List.forall_mem_cons.mpr ⟨cb_csS B ok_X10_in wd_X10_in (cb_tw (i := 1504) (by decide +kernel)) (cb_tw (i := 1505) (by decide +kernel)) ⟨by decide, by decide⟩ (by decide +kernel), List.forall_mem_cons.mpr ⟨cb_csV B ok_X10_bad wd_X10_bad (cb_tw (i := 1507) (by decide +kernel)) (cb_tw (i := 1509) (by decide +kernel)) (cb_tp (i := 45) (by decide +kernel)) rc_X10_bad ⟨by decide, by decide⟩ (by decide +kernel), List.forall_mem_cons.mpr ⟨cb_csV B ok_X10_blanks wd_X10_blanks (cb_tw (i := 1511) (by decide +kernel)) (cb_tw (i := 1513) (by decide +kernel)) (cb_tp (i := 46) (by decide +kernel)) rc_X10_blanks ⟨by decide, by decide⟩ (by decide +kernel), List.forall_mem_cons.mpr ⟨cb_csV B ok_X10_clause wd_X10_clause (cb_tw (i := 1519) (by decide +kernel)) (cb_tw (i := 1521) (by decide +kernel)) (cb_tp (i := 48) (by decide +kernel)) rc_X10_clause ⟨by decide, by decide⟩ (by decide +kernel), List.forall_mem_cons.mpr ⟨cb_csV B ok_X10_stands wd_X10_stands (cb_tw (i := 1565) (by decide +kernel)) (cb_tw (i := 1567) (by decide +kernel)) (cb_tp (i := 57) (by decide +kernel)) rc_X10_stands ⟨by decide, by decide⟩ (by decide +kernel), fun _ h => nomatch h⟩⟩⟩⟩⟩
theorem ok_X10_wall : cb_MOK cb_tb yX10_wall md_X10_wall pt_X10_wall := by
  refine cb_okm ⟨plainFor_of_name (by decide), rfl⟩ (by decide) cs_X10_wall (by decide) (fun X n0 f i r M hr ha h => ?_)
  have h0 := cb_a1 (T := 46) rfl ha
  subst h0
  match r, hr, h with
  | [.inl N], hr, h =>
    obtain ⟨t, ⟨ht, ht6⟩, h⟩ := h
    refine cb_run cb_tb_ok vd_X10_wall (cuts := [64]) 90 ?_
    refine cb_ifnz (fun q => And.intro (cb_on rfl) (bad_f rfl (by decide) (ez_f ?_))) (fun q => And.intro (cb_on rfl) (bad_t rfl (by decide) (ez_t (And.intro trivial (h.1 ?_ _ (mx2 M 1) rfl)))))
    rotate_left
    · have q : mi_in N 0 (cb_gI M 46 0 1) = false := q
      rw [ht] at q
      exact mi_in_f q
    have q : mi_in N 0 (cb_gI M 46 0 1) = true := q
    rw [ht] at q
    obtain ⟨k, k1, k2, ke⟩ := mi_in_yes (lo := 0) (hi := t) (by omega) (by omega) q
    have h := h.2 k k1 k2 ke
    have hk6 : k ≤ 600 := by omega
    obtain ⟨mt, hmt⟩ : ∃ mt, cb_gI M 47 0 = mt := ⟨_, rfl⟩
    rw [hmt] at h
    obtain ⟨R, hR⟩ : ∃ R, rd_loop mt k 61 rd_0 0 0 = R := ⟨_, rfl⟩
    rw [hR] at h
    have t47 : ∀ {M2}, cb_fr fr_W M M2 → cb_gI M2 47 0 = mt := fun hF => (hF.fn 47 0 (fun _ => rfl)).trans hmt
    have finD : ∀ (z : Int32) (l3 : Option cb_V) M2 kk b, cb_fr fr_W M M2 → cb_gI M2 46 0 0 = 0 ∧ cb_gI M2 46 0 1 = 0 → mr_S M2 k (.inl (kk, b)) → R = .inl (kk, b) → cb_Gd cb_tb md_X10_wall X 192 [some (cb_r 46 0), some (cb_i (N)), some (cb_i (z)), l3] [] (cb_aS n0, f) M2 0 0 := by
      intro z l3 M2 kk b hF h01 hS e
      rw [e] at h
      refine cb_run cb_tb_ok vd_X10_wall (cuts := []) 90 ?_
      refine And.intro (fun q => absurd q (by show ¬ cb_gI M2 46 0 5 = 0; rw [hS.2.1]; exact hS.1)) (fun _ => And.intro trivial ?_)
      refine h (cb_sI M2 46 0 3 (cb_gI M2 46 0 6)) _ ⟨h01.1, h01.2, hF.set _ rfl, ?_, hS.1, ?_⟩
      · show cb_gI M2 46 0 5 - 10 = _
        rw [hS.2.1]
      · rw [cb_gs_eq]
        exact hS.2.2.1
    have finL : ∀ (z : Int32) (l3 : Option cb_V) M2 a A, cb_fr fr_W M M2 → cb_gI M2 46 0 0 = 0 ∧ cb_gI M2 46 0 1 = 0 → mr_S M2 k (.inr a) → mr_V M2 A → rd_C A → R = .inr A → cb_Gd cb_tb md_X10_wall X 192 [some (cb_r 46 0), some (cb_i (N)), some (cb_i (z)), l3] [] (cb_aS n0, f) M2 0 0 := by
      intro z l3 M2 a A hF h01 hS hV hC e
      rw [e] at h
      have hV' : mr_V (cb_sI M2 46 0 3 (cb_gI M2 46 0 6)) A := hV
      refine cb_run cb_tb_ok vd_X10_wall (cuts := []) 90 ?_
      refine And.intro (fun _ => And.intro (cb_on rfl) ⟨A.nb, A.n, A.h, ⟨hV.1.1, hV.1.2.1, hV.1.2.2.1, hC.1, hC.2.1, hC.2.2⟩, fun M3 hQ h33 h34 => And.intro (mi_v 1 (by decide)) (And.intro trivial ?_)⟩) (fun q => absurd hS.2.1 q)
      have hA := ms_of hV' hQ
      refine h M3 _ ⟨(hQ.1.1 46 0 0 rfl).trans h01.1, (hQ.1.1 46 0 1 rfl).trans h01.2, (((hF.set (cb_gI M2 46 0 6) rfl).mono fr_W_2).trans (hQ.1.mono fr_S_2) : cb_fr fr_W2 M M3), hA.1.2.1, ?_, hA, h33, h34⟩
      rw [hQ.1.1 46 0 3 rfl, cb_gs_eq]
      exact hS.2.2
    have lp : ∀ g cnt e A (z : Int32) (l3 : Option cb_V) M2, cnt + g = 61 → cnt ≤ 60 → cb_fr fr_W M M2 → cb_gI M2 46 0 0 = 0 ∧ cb_gI M2 46 0 1 = 0 → mr_S M2 k (.inr (rd_end (rd_bl mt) k e)) → mr_V M2 A → rd_W A → cb_gI M2 46 0 7 = nI cnt → rd_loop mt k g A cnt e = R → cb_Gd cb_tb md_X10_wall X 163 [some (cb_r 46 0), some (cb_i (N)), some (cb_i (z)), l3] [] (cb_aS n0, f) M2 0 0 := by
      intro g
      induction g with
      | zero => intro cnt e A z l3 M2 h1 h2; omega
      | succ g ih =>
        intro cnt e A z l3 M2 h1 h2 hF h01 hS hV hW hc hR2
        rw [rd_loop] at hR2
        obtain ⟨b, hb⟩ : ∃ b, b = rd_end (rd_bl mt) k e := ⟨_, rfl⟩
        have hid : rd_end (rd_bl mt) k b = b := by rw [hb]; exact rd_end_idem _ e rfl
        rw [← hb] at hS hR2
        obtain ⟨e1, e2, e3, e4⟩ := id hS.1
        refine cb_run cb_tb_ok vd_X10_wall (cuts := [163, 192]) 90 ?_
        refine cb_ifne (fun q => absurd hS.2.1 q) (fun _ => And.intro (fun q => ?_) (fun q => ?_))
        · have q : cb_gI M2 46 0 2 ≤ cb_gI M2 46 0 4 := q
          rw [e1, e3] at q
          have q := (nI_leI (by omega) (by omega)).mp q
          rw [if_pos q] at hR2
          exact finL _ _ M2 b A hF h01 hS hV hW.1 hR2.symm
        · have q : ¬ cb_gI M2 46 0 2 ≤ cb_gI M2 46 0 4 := q
          rw [e1, e3] at q
          have q : ¬ k ≤ b := fun w => q (nI_le w (by omega))
          rw [if_neg q] at hR2
          refine And.intro (cb_on rfl) ⟨k, b, A, cnt, ⟨hS, by rw [t47 hF]; exact hid, hV, hW.1, hc, h2⟩, fun M3 hF3 hQ3 => ?_⟩
          rw [t47 hF] at hQ3
          have hF3' := hF.trans (hF3.mono fr_L_W)
          have h01' : cb_gI M3 46 0 0 = 0 ∧ cb_gI M3 46 0 1 = 0 := ⟨(hF3.1 46 0 0 rfl).trans h01.1, (hF3.1 46 0 1 rfl).trans h01.2⟩
          cases ec : rd_clause mt k A cnt b with
          | inl x =>
            rw [ec] at hQ3 hR2
            refine And.intro (cb_on rfl) (mr_blc (s := .inl x) hQ3 (t47 hF3') (fun M4 hF4 hS4 ht4 => ?_))
            have hF4' := hF3'.trans (hF4.mono fr_R_W)
            have hS4 : mr_S M4 k (.inl x) := hS4
            have go : cb_Gd cb_tb md_X10_wall X 163 [some (cb_r 46 0), some (cb_i (N)), some (cb_i (z)), l3] [] (cb_aS n0, f) M4 0 0 := by
              refine cb_run cb_tb_ok vd_X10_wall (cuts := [192]) 90 ?_
              exact And.intro (fun _ => finD _ _ M4 x.1 x.2 hF4' ⟨(hF4.1 46 0 0 rfl).trans h01'.1, (hF4.1 46 0 1 rfl).trans h01'.2⟩ hS4 hR2.symm) (fun q => absurd hS4.2.1 (fun w => q (by show ¬ cb_gI M4 46 0 5 = 0; rw [w]; exact hS4.1)))
            exact go
          | inr y =>
            obtain ⟨A', e'⟩ := y
            have c60 := rd_clause_60 ec
            have hW' := rd_clause_W hW ec
            rw [ec] at hQ3 hR2
            obtain ⟨hS3, hV3, hc3⟩ := hQ3
            refine And.intro (cb_on rfl) (mr_blc hS3 (t47 hF3') (fun M4 hF4 hS4 ht4 => ?_))
            exact ih (cnt + 1) e' A' _ _ M4 (by omega) (by omega) (hF3'.trans (hF4.mono fr_R_W)) ⟨(hF4.1 46 0 0 rfl).trans h01'.1, (hF4.1 46 0 1 rfl).trans h01'.2⟩ hS4 (mr_V_R hF4 hV3) hW' ((hF4.1 46 0 7 rfl).trans hc3) hR2
    have lC : ∀ j, j ≤ 8 → ∀ (z : Int32) (l3 : Option cb_V) (M2 : cb_M), z = nI j → mw_Q M M2 k 5 400 j → cb_Gd cb_tb md_X10_wall X 116 [some (cb_r 46 0), some (cb_i (N)), some (cb_i (z)), l3] [] (cb_aS n0, f) M2 0 0 := by
      refine cb_up (fun j => ∀ (z : Int32) (l3 : Option cb_V) (M2 : cb_M), z = nI j → mw_Q M M2 k 5 400 j → cb_Gd cb_tb md_X10_wall X 116 [some (cb_r 46 0), some (cb_i (N)), some (cb_i (z)), l3] [] (cb_aS n0, f) M2 0 0) ?_ ?_
      · intro z l3 M2 hz H
        have hV := mw_Q_V H
        obtain ⟨hF, ⟨b0, b1, b2, b4, b5, b6, b7⟩, -⟩ := H
        refine cb_run cb_tb_ok vd_X10_wall (cuts := [116, 163]) 90 ?_
        refine cb_lout (N := 8) hz rfl (And.intro (cb_on rfl) (mr_blc (len := k) (s := .inr 0) ⟨⟨b2, hk6, b4, Nat.zero_le _⟩, b5, b6⟩ (t47 hF) (fun M4 hF4 hS4 ht4 => ?_)))
        exact lp 61 0 0 rd_0 _ _ M4 rfl (by decide) (hF.trans (hF4.mono fr_R_W)) ⟨(hF4.1 46 0 0 rfl).trans b0, (hF4.1 46 0 1 rfl).trans b1⟩ hS4 (mr_V_R hF4 hV) rd_0_W ((hF4.1 46 0 7 rfl).trans b7) hR
      · intro j hj ih z l3 M2 hz H
        have v8 : vp_in z 8 := by rw [hz]; exact cb_in8 hj (Nat.le_refl 8) (by decide)
        have hzc : z.toNatClampNeg = j := by rw [hz]; exact nI_clamp (by omega)
        have a1 : cb_aS n0 61 z.toNatClampNeg = true := by
          rw [hzc]
          show Nat.blt j 8 = true
          exact Nat.blt_eq.mpr (by omega)
        have inn : ∀ l, l ≤ 8 → ∀ (y : Int32) (M3 : cb_M), y = nI l → mw_Q M M3 k 5 400 j → cb_gI M3 54 0 j = 8 → (∀ i, i < l → cb_gI M3 61 j i = 0) → cb_Gd cb_tb md_X10_wall X 132 [some (cb_r 46 0), some (cb_i (N)), some (cb_i (z)), some (cb_i (y))] [] (cb_aS n0, f) M3 0 0 := by
          refine cb_up (fun l => ∀ (y : Int32) (M3 : cb_M), y = nI l → mw_Q M M3 k 5 400 j → cb_gI M3 54 0 j = 8 → (∀ i, i < l → cb_gI M3 61 j i = 0) → cb_Gd cb_tb md_X10_wall X 132 [some (cb_r 46 0), some (cb_i (N)), some (cb_i (z)), some (cb_i (y))] [] (cb_aS n0, f) M3 0 0) ?_ ?_
          · intro y M3 hy H g1 g2
            refine cb_run cb_tb_ok vd_X10_wall (cuts := [116, 132]) 90 ?_
            refine cb_lout (N := 8) hy rfl ?_
            refine ih _ _ _ (by rw [hz]; exact nI_1 j) ⟨H.1, H.2.1, H.2.2.1, H.2.2.2.1, fun i hi => ?_⟩
            by_cases q : i = j
            · subst q
              exact ⟨g1, g2⟩
            · exact H.2.2.2.2 i (by omega)
          · intro l hl ih2 y M3 hy H g1 g2
            have y8 : vp_in y 8 := by rw [hy]; exact cb_in8 hl (Nat.le_refl 8) (by decide)
            have hyc : y.toNatClampNeg = l := by rw [hy]; exact nI_clamp (by omega)
            refine cb_run cb_tb_ok vd_X10_wall (cuts := [116, 132]) 90 ?_
            refine cb_lin (N := 8) hy rfl hl (by decide) (And.intro v8 (cb_av.of a1 (And.intro y8 ?_)))
            show cb_Gd cb_tb md_X10_wall X 132 [some (cb_r 46 0), some (cb_i (N)), some (cb_i (z)), some (cb_i (y + 1))] [] (cb_aS n0, f) (cb_sI M3 61 z.toNatClampNeg y.toNatClampNeg 0) 0 0
            obtain ⟨hF, hb, h1, h2, h3⟩ := H
            rw [hzc, hyc]
            refine ih2 _ _ (by rw [hy, nI_1]) ⟨hF.set _ rfl, hb, h1, h2, fun i hi => ⟨(h3 i hi).1, fun q hq => (cb_gs_ne (by omega)).trans ((h3 i hi).2 q hq)⟩⟩ g1 (fun i hi => ?_)
            by_cases q : i = l
            · subst q
              exact cb_gs_eq _ _ _ _ _
            · exact (cb_gs_ne (by omega)).trans (g2 i (by omega))
        refine cb_run cb_tb_ok vd_X10_wall (cuts := [116, 132]) 90 ?_
        refine cb_lin (N := 8) hz rfl hj (by decide) (And.intro v8 ?_)
        show cb_Gd cb_tb md_X10_wall X 132 [some (cb_r 46 0), some (cb_i (N)), some (cb_i (z)), some (cb_i (0))] [] (cb_aS n0, f) (cb_sI M2 54 0 z.toNatClampNeg 8) 0 0
        obtain ⟨hF, hb, h1, h2, h3⟩ := H
        rw [hzc]
        refine inn 0 (Nat.zero_le _) _ _ rfl ⟨hF.set _ rfl, hb, h1, h2, fun i hi => ?_⟩ (cb_gs_eq _ _ _ _ _) (fun l hl => absurd hl (by omega))
        rw [cb_gs_ne (by omega)]
        exact h3 i hi
    have lB : ∀ j, j ≤ 400 → ∀ (z : Int32) (M2 : cb_M), z = nI j → mw_Q M M2 k 5 j 0 → cb_Gd cb_tb md_X10_wall X 94 [some (cb_r 46 0), some (cb_i (N)), some (cb_i (z)), none] [] (cb_aS n0, f) M2 0 0 := by
      refine cb_up (fun j => ∀ (z : Int32) (M2 : cb_M), z = nI j → mw_Q M M2 k 5 j 0 → cb_Gd cb_tb md_X10_wall X 94 [some (cb_r 46 0), some (cb_i (N)), some (cb_i (z)), none] [] (cb_aS n0, f) M2 0 0) ?_ ?_
      · intro z M2 hz H
        refine cb_run cb_tb_ok vd_X10_wall (cuts := [94, 116]) 90 ?_
        exact cb_lout (N := 400) hz rfl (lC 0 (Nat.zero_le _) _ _ _ rfl H)
      · intro j hj ih z M2 hz H
        have v4 : vp_in z 400 := by rw [hz]; exact cb_in8 hj (Nat.le_refl 400) (by decide)
        have hzc : z.toNatClampNeg = j := by rw [hz]; exact nI_clamp (by omega)
        refine cb_run cb_tb_ok vd_X10_wall (cuts := [94, 116]) 90 ?_
        refine cb_lin (N := 400) hz rfl hj (by decide) (And.intro v4 ?_)
        show cb_Gd cb_tb md_X10_wall X 94 [some (cb_r 46 0), some (cb_i (N)), some (cb_i (z + 1)), none] [] (cb_aS n0, f) (cb_sI M2 52 0 z.toNatClampNeg 0) 0 0
        obtain ⟨hF, hb, h1, h2, h3⟩ := H
        rw [hzc]
        exact ih _ _ (by rw [hz, nI_1]) ⟨hF.set _ rfl, hb, h1, ms_up (f := fun _ => 0) h2 rfl, h3⟩
    have lA : ∀ j, j ≤ 5 → ∀ (z : Int32) (M2 : cb_M), z = nI j → mw_Q M M2 k j 0 0 → cb_Gd cb_tb md_X10_wall X 64 [some (cb_r 46 0), some (cb_i (N)), some (cb_i (z)), none] [] (cb_aS n0, f) M2 0 0 := by
      refine cb_up (fun j => ∀ (z : Int32) (M2 : cb_M), z = nI j → mw_Q M M2 k j 0 0 → cb_Gd cb_tb md_X10_wall X 64 [some (cb_r 46 0), some (cb_i (N)), some (cb_i (z)), none] [] (cb_aS n0, f) M2 0 0) ?_ ?_
      · intro z M2 hz H
        refine cb_run cb_tb_ok vd_X10_wall (cuts := [64, 94]) 90 ?_
        exact cb_lout (N := 5) hz rfl (lB 0 (Nat.zero_le _) _ _ rfl H)
      · intro j hj ih z M2 hz H
        have v5 : vp_in z 5 := by rw [hz]; exact cb_in8 hj (Nat.le_refl 5) (by decide)
        have hzc : z.toNatClampNeg = j := by rw [hz]; exact nI_clamp (by omega)
        have nx : ∀ v : Int32, v = (if j = 3 then 50 else 0) → cb_Gd cb_tb md_X10_wall X 64 [some (cb_r 46 0), some (cb_i (N)), some (cb_i (z + 1)), none] [] (cb_aS n0, f) (cb_sI M2 48 0 z.toNatClampNeg v) 0 0 := by
          intro v hv
          obtain ⟨hF, hb, h1, h2, h3⟩ := H
          rw [hzc]
          exact ih _ _ (by rw [hz, nI_1]) ⟨hF.set _ rfl, hb, ms_up (f := fun j => if j = 3 then 50 else 0) h1 hv, h2, h3⟩
        refine cb_run cb_tb_ok vd_X10_wall (cuts := [64, 94]) 90 ?_
        refine cb_lin (N := 5) hz rfl hj (by decide) (cb_ifne (fun q => And.intro v5 (nx 0 ?_)) (fun q => And.intro v5 (nx 50 ?_)))
        · have q : ¬ z = 3 := q
          rw [hz] at q
          rw [if_neg (fun w => q (by rw [w]; rfl))]
        · have q : z = 3 := q
          rw [hz] at q
          rw [if_pos ((nI_eq (b := 3) (by omega) (by decide)).mp q)]
    exact lA 0 (Nat.zero_le _) _ _ rfl ⟨(((((((cb_fr.refl M).set _ rfl).set _ rfl).set _ rfl).set _ rfl).set _ rfl).set _ rfl).set _ rfl, ⟨rfl, rfl, ke, rfl, rfl, rfl, rfl⟩, fun j hj => absurd hj (by omega), fun j hj => absurd hj (by omega), fun j hj => absurd hj (by omega)⟩
