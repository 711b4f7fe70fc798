/-! ===== the reference: its words ===== -/
def mr_wv (mt : wm_F) (a : Nat) : Nat → Int32
  | 0 => 0
  | n + 1 => 27 * mr_wv mt a n + mt (a + n) - 97 + 1
def mr_wd (mt : wm_F) (len a : Nat) : Int32 := if 6 < rd_end (rd_ls mt) len a - a then -1 else mr_wv mt a (rd_end (rd_ls mt) len a - a)
def sp_X10_wordHere : cb_Sp := fun _ r M K => match r with
  | [] => ∃ len a, (mr_E M len a ∧ rd_end (rd_bl (cb_gI M 47 0)) len a = a) ∧ ∀ M', cb_fr fr_R4 M M' → mr_E M' len a → K (some (cb_i (mr_wd (cb_gI M 47 0) len a))) M'
  | _ => False
def pt_X10_wordHere : cb_PT := cb_m 46 0 sp_X10_wordHere
theorem rc_X10_wordHere : cb_rc cb_tb RX10 pt_X10_wordHere := cb_m_rc rfl rfl
def md_X10_wordHere : cb_D := (RX10, cX10_wordHere, 3, (some .int), (0, 0, 2, 41), [
  (0, .aload_n 0, 1, 0, 0, 0, 0),
  (1, .invokevirtual 148, 3, 0, 0, 0, 0),
  (4, .iconst 0, 1, 0, 0, 0, 0),
  (5, .istore_n 1, 1, 0, 1, 0, 0),
  (6, .iconst 0, 1, 0, 0, 0, 0),
  (7, .istore_n 2, 1, 0, 2, 0, 0),
  (8, .aload_n 0, 1, 0, 0, 0, 0),
  (9, .aload_n 0, 1, 0, 0, 0, 0),
  (10, .getfield 135, 3, 0, 10, 4, 1332),
  (13, .iload_n 2, 1, 0, 2, 0, 0),
  (14, .iadd, 1, 0, 0, 0, 0),
  (15, .invokevirtual 138, 3, 0, 1, 0, 0),
  (18, .bipush 97, 2, 97, 0, 0, 0),
  (20, .if_icmp .lt 55, 3, 0, 75, 0, 0),
  (23, .aload_n 0, 1, 0, 0, 0, 0),
  (24, .aload_n 0, 1, 0, 0, 0, 0),
  (25, .getfield 135, 3, 0, 10, 4, 1332),
  (28, .iload_n 2, 1, 0, 2, 0, 0),
  (29, .iadd, 1, 0, 0, 0, 0),
  (30, .invokevirtual 138, 3, 0, 1, 0, 0),
  (33, .bipush 122, 2, 122, 0, 0, 0),
  (35, .if_icmp .gt 40, 3, 0, 75, 0, 0),
  (38, .iload_n 2, 1, 0, 2, 0, 0),
  (39, .bipush 6, 2, 6, 0, 0, 0),
  (41, .if_icmp .ge 26, 3, 0, 67, 0, 0),
  (44, .bipush 27, 2, 27, 0, 0, 0),
  (46, .iload_n 1, 1, 0, 1, 0, 0),
  (47, .imul, 1, 0, 0, 0, 0),
  (48, .aload_n 0, 1, 0, 0, 0, 0),
  (49, .aload_n 0, 1, 0, 0, 0, 0),
  (50, .getfield 135, 3, 0, 10, 4, 1332),
  (53, .iload_n 2, 1, 0, 2, 0, 0),
  (54, .iadd, 1, 0, 0, 0, 0),
  (55, .invokevirtual 138, 3, 0, 1, 0, 0),
  (58, .iadd, 1, 0, 0, 0, 0),
  (59, .bipush 97, 2, 97, 0, 0, 0),
  (61, .isub, 1, 0, 0, 0, 0),
  (62, .iconst 1, 1, 1, 0, 0, 0),
  (63, .iadd, 1, 0, 0, 0, 0),
  (64, .goto 4, 3, 0, 68, 0, 0),
  (67, .iload_n 1, 1, 0, 1, 0, 0),
  (68, .istore_n 1, 1, 0, 1, 0, 0),
  (69, .iinc 2 1, 3, 1, 2, 0, 0),
  (72, .goto (-64), 3, 0, 8, 0, 0),
  (75, .iload_n 2, 1, 0, 2, 0, 0),
  (76, .bipush 6, 2, 6, 0, 0, 0),
  (78, .if_icmp .le 7, 3, 0, 85, 0, 0),
  (81, .iconst (-1), 1, (-1), 0, 0, 0),
  (82, .goto 4, 3, 0, 86, 0, 0),
  (85, .iload_n 1, 1, 0, 1, 0, 0),
  (86, .ireturn, 1, 0, 0, 0, 0)],
  [(0, 148, 1, 0, 0, pt_X10_blanks), (0, 138, 2, 0, 0, pt_X10_byteAt)], [])
set_option maxRecDepth 100000 in
theorem vd_X10_wordHere : md_X10_wordHere.cd.all (cb_vE md_X10_wordHere) = true := by decide +kernel
theorem wd_X10_wordHere : cb_wd yX10_wordHere md_X10_wordHere := ⟨cb_tw (i := 1534) (by decide +kernel), cb_tw (i := 11) (by decide +kernel), by decide, by decide⟩
theorem cs_X10_wordHere : ∀ X, cb_Bs md_X10_wordHere X → ∀ g ∈ md_X10_wordHere.ga, cb_CS cb_tb md_X10_wordHere X g := fun X B => List.forall_mem_cons.mpr ⟨cb_csV B ok_X10_blanks wd_X10_blanks (cb_tw (i := 1511) (by decide +kernel)) (cb_tw (i := 1513) (by decide +kernel)) (cb_tp (i := 46) (by decide +kernel)) rc_X10_blanks ⟨by decide, by decide⟩ (by decide +kernel), List.forall_mem_cons.mpr ⟨cb_csV B ok_X10_byteAt wd_X10_byteAt (cb_tw (i := 1515) (by decide +kernel)) (cb_tw (i := 1517) (by decide +kernel)) (cb_tp (i := 47) (by decide +kernel)) rc_X10_byteAt ⟨by decide, by decide⟩ (by decide +kernel), fun _ h => nomatch h⟩⟩
theorem ok_X10_wordHere : cb_MOK cb_tb yX10_wordHere md_X10_wordHere pt_X10_wordHere := by
  refine cb_okm ⟨plainFor_of_name (by decide), rfl⟩ (by decide) cs_X10_wordHere (by decide) (fun X n0 f i r M hr ha h => ?_)
  have h0 := cb_a1 (T := 46) rfl ha
  subst h0
  match r, hr, h with
  | [], hr, h =>
    obtain ⟨len, a, ⟨hE, hbl⟩, h⟩ := h
    refine cb_run cb_tb_ok vd_X10_wordHere (cuts := [8, 75]) 90 ?_
    refine And.intro (cb_on rfl) ⟨len, a, hE, fun M1 hF1 hE1 => ?_⟩
    rw [hbl] at hE1
    have h := h M1 hF1 hE1
    obtain ⟨e1, e2, e3, e4⟩ := id hE1
    obtain ⟨e, he⟩ : ∃ e, e = rd_end (rd_ls (cb_gI M 47 0)) len a := ⟨_, rfl⟩
    have hel : e ≤ len := by rw [he]; exact rd_end_le e4
    have hae : a ≤ e := by rw [he]; exact rd_end_ge _ _ _
    unfold mr_wd at h
    rw [← he] at h
    have fin : ∀ (n : Nat) (v : Int32), n = e - a → v = mr_wv (cb_gI M 47 0) a (min n 6) → cb_Gd cb_tb md_X10_wordHere X 75 [some (cb_r 46 0), some (cb_i (v)), some (cb_i (nI n))] [] (cb_aS n0, f) M1 0 0 := by
      intro n v hn hv
      subst hn
      refine cb_run cb_tb_ok vd_X10_wordHere (cuts := []) 90 ?_
      refine And.intro (fun q => And.intro trivial ?_) (fun q => And.intro trivial ?_)
      · have q : nI (e - a) ≤ 6 := q
        have q := (nI_leI (b := 6) (by omega) (by decide)).mp q
        rw [if_neg (by omega)] at h
        rw [hv, Nat.min_eq_left q]
        exact h
      · have q : ¬ nI (e - a) ≤ 6 := q
        have q : ¬ e - a ≤ 6 := fun w => q (nI_le (b := 6) w (by decide))
        rw [if_pos (by omega)] at h
        exact h
    have hB : ∀ n, a + n ≤ len → cb_gI M1 46 0 2 = nI len ∧ len ≤ 600 ∧ cb_gI M1 46 0 4 + nI n = nI (a + n) ∧ a + n ≤ 1000000 := fun n hn => ⟨e1, e2, by rw [e3, nI_add], by omega⟩
    have loop : ∀ g n v, len - (a + n) = g → a + n ≤ len → v = mr_wv (cb_gI M 47 0) a (min n 6) → rd_end (rd_ls (cb_gI M 47 0)) len (a + n) = e → cb_Gd cb_tb md_X10_wordHere X 8 [some (cb_r 46 0), some (cb_i (v)), some (cb_i (nI n))] [] (cb_aS n0, f) M1 0 0 := by
      intro g
      induction g with
      | zero =>
        intro n v hg hn hv hz
        have hil : ¬ a + n < len := by omega
        have hne : n = e - a := by
          rw [rd_end_out (by omega)] at hz
          omega
        refine cb_run cb_tb_ok vd_X10_wordHere (cuts := [8, 75]) 90 ?_
        refine And.intro (cb_on rfl) ⟨len, a + n, hB n hn, And.intro (fun q => fin n v hne hv) (fun q => ?_)⟩
        have q : ¬ mr_by (cb_gI M1 47 0) len (a + n) < 97 := q
        rw [show mr_by (cb_gI M1 47 0) len (a + n) = -1 from if_neg hil] at q
        exact absurd (by decide) q
      | succ g ih =>
        intro n v hg hn hv hz
        have hil : a + n < len := by omega
        have hby : mr_by (cb_gI M1 47 0) len (a + n) = cb_gI M 47 0 (a + n) := (if_pos hil).trans (hF1.1 47 0 (a + n) rfl)
        have out : rd_ls (cb_gI M 47 0) (a + n) = false → n = e - a := fun q => by
          rw [rd_end_out (fun u => by rw [q] at u; cases u.2)] at hz
          omega
        refine cb_run cb_tb_ok vd_X10_wordHere (cuts := [8, 75]) 90 ?_
        refine And.intro (cb_on rfl) ⟨len, a + n, hB n hn, And.intro (fun q => ?_) (fun q => And.intro (cb_on rfl) ⟨len, a + n, hB n hn, And.intro (fun q1 => ?_) (fun q1 => ?_)⟩)⟩
        · have q : mr_by (cb_gI M1 47 0) len (a + n) < 97 := q
          rw [hby] at q
          exact fin n v (out (decide_eq_false (fun u => u.1 q))) hv
        · have q1 : 122 < mr_by (cb_gI M1 47 0) len (a + n) := q1
          rw [hby] at q1
          exact fin n v (out (decide_eq_false (fun u => u.2 q1))) hv
        · have q : ¬ mr_by (cb_gI M1 47 0) len (a + n) < 97 := q
          have q1 : ¬ 122 < mr_by (cb_gI M1 47 0) len (a + n) := q1
          rw [hby] at q q1
          have hl : rd_ls (cb_gI M 47 0) (a + n) = true := decide_eq_true ⟨q, q1⟩
          have hz' : rd_end (rd_ls (cb_gI M 47 0)) len (a + (n + 1)) = e := by
            rw [← hz]
            exact (rd_end_in hil hl).symm
          refine And.intro (fun q2 => ?_) (fun q2 => And.intro (cb_on rfl) ⟨len, a + n, hB n hn, ?_⟩)
          · have q2 : 6 ≤ nI n := q2
            have q2 : 6 ≤ n := (nI_leI (a := 6) (by decide) (by omega)).mp q2
            show cb_Gd cb_tb md_X10_wordHere X 8 [some (cb_r 46 0), some (cb_i (v)), some (cb_i (nI n + 1))] [] (cb_aS n0, f) M1 0 0
            rw [nI_1]
            exact ih (n + 1) v (by omega) (by omega) (by rw [hv]; congr 1; omega) hz'
          · have q2 : ¬ 6 ≤ nI n := q2
            have q2 : ¬ 6 ≤ n := fun w => q2 (nI_le (a := 6) w (by omega))
            show cb_Gd cb_tb md_X10_wordHere X 8 [some (cb_r 46 0), some (cb_i (27 * v + mr_by (cb_gI M1 47 0) len (a + n) - 97 + 1)), some (cb_i (nI n + 1))] [] (cb_aS n0, f) M1 0 0
            rw [nI_1, hby]
            refine ih (n + 1) _ (by omega) (by omega) ?_ hz'
            rw [Nat.min_eq_left (by omega), mr_wv, hv, Nat.min_eq_left (by omega)]
    exact loop _ 0 0 rfl e4 rfl he.symm
def sp_X10_isWord : cb_Sp := fun _ r M K => match r with
  | [.inl a1, .inl a2, .inl a3, .inl a4, .inl a5] => ∃ len a, (mr_E M len a ∧ rd_end (rd_bl (cb_gI M 47 0)) len a = a ∧ cb_gI M 46 0 5 = 0) ∧ ∀ M', cb_fr fr_R4 M M' → mr_E M' len a → K (some (cb_i (cb_z (decide (mr_wd (cb_gI M 47 0) len a = mi_five a1 a2 a3 a4 a5))))) M'
  | _ => False
def pt_X10_isWord : cb_PT := cb_m 46 5 sp_X10_isWord
theorem rc_X10_isWord : cb_rc cb_tb RX10 pt_X10_isWord := cb_m_rc rfl rfl
def md_X10_isWord : cb_D := (RX10, cX10_isWord, 6, (some .boolean), (0, 0, 3, 63), [
  (0, .aload_n 0, 1, 0, 0, 0, 0),
  (1, .getfield 142, 3, 0, 10, 5, 1333),
  (4, .ifCond .ne 24, 3, 0, 28, 0, 0),
  (7, .aload_n 0, 1, 0, 0, 0, 0),
  (8, .invokevirtual 164, 3, 0, 0, 0, 0),
  (11, .iload_n 1, 1, 0, 1, 0, 0),
  (12, .iload_n 2, 1, 0, 2, 0, 0),
  (13, .iload_n 3, 1, 0, 3, 0, 0),
  (14, .iload 4, 2, 0, 4, 0, 0),
  (16, .iload 5, 2, 0, 5, 0, 0),
  (18, .invokestatic 168, 3, 0, 1, 0, 0),
  (21, .if_icmp .ne 7, 3, 0, 28, 0, 0),
  (24, .iconst 1, 1, 1, 0, 0, 0),
  (25, .goto 4, 3, 0, 29, 0, 0),
  (28, .iconst 0, 1, 0, 0, 0, 0),
  (29, .ireturn, 1, 0, 0, 0, 0)],
  [(0, 164, 1, 0, 0, pt_X10_wordHere), (1, 168, 5, 0, 0, pt_X10_five)], [])
set_option maxRecDepth 100000 in
theorem vd_X10_isWord : md_X10_isWord.cd.all (cb_vE md_X10_isWord) = true := by decide +kernel
theorem wd_X10_isWord : cb_wd yX10_isWord md_X10_isWord := ⟨cb_tw (i := 1530) (by decide +kernel), cb_tw (i := 11) (by decide +kernel), by decide, by decide⟩
theorem cs_X10_isWord : ∀ X, cb_Bs md_X10_isWord X → ∀ g ∈ md_X10_isWord.ga, cb_CS cb_tb md_X10_isWord X g := fun X B => List.forall_mem_cons.mpr ⟨cb_csV B ok_X10_wordHere wd_X10_wordHere (cb_tw (i := 1531) (by decide +kernel)) (cb_tw (i := 1533) (by decide +kernel)) (cb_tp (i := 51) (by decide +kernel)) rc_X10_wordHere ⟨by decide, by decide⟩ (by decide +kernel), List.forall_mem_cons.mpr ⟨cb_csS B ok_X10_five wd_X10_five (cb_tw (i := 1535) (by decide +kernel)) (cb_tw (i := 1536) (by decide +kernel)) ⟨by decide, by decide⟩ (by decide +kernel), fun _ h => nomatch h⟩⟩
theorem ok_X10_isWord : cb_MOK cb_tb yX10_isWord md_X10_isWord pt_X10_isWord := by
  refine cb_okm ⟨plainFor_of_name (by decide), rfl⟩ (by decide) cs_X10_isWord (by decide) (fun X n0 f i r M hr ha h => ?_)
  have h0 := cb_a1 (T := 46) rfl ha
  subst h0
  match r, hr, h with
  | [.inl a1, .inl a2, .inl a3, .inl a4, .inl a5], hr, h =>
    obtain ⟨len, a, ⟨hE, hbl, h5⟩, h⟩ := h
    refine cb_run cb_tb_ok vd_X10_isWord (cuts := []) 90 ?_
    refine cb_ifne (fun q => absurd h5 q) (fun _ => And.intro (cb_on rfl) ⟨len, a, ⟨hE, hbl⟩, fun M1 hF1 hE1 => cb_ifne (fun q => And.intro cb_rt0 ?_) (fun q => And.intro cb_rt1 ?_)⟩)
    · have h := h M1 hF1 hE1
      rw [decide_eq_false q] at h
      exact h
    · have h := h M1 hF1 hE1
      rw [decide_eq_true q] at h
      exact h
/-- the word's kind as the reference counts it -/
def mr_kw (w : Int32) : Int32 := if w = mi_five 2 15 1 18 4 then 0 else if w = 27 * mi_five 3 12 15 3 0 + 11 then 1 else if w = mi_five 8 15 15 11 0 then 2 else if w = mi_five 18 9 7 8 20 then 3 else if w = mi_five 19 15 21 14 4 then 4 else if w = mi_five 8 5 1 18 19 then 5 else if w = mi_five 4 1 13 16 0 then 6 else if w = mi_five 11 5 25 0 0 then 7 else -1
def sp_X10_kindHere : cb_Sp := fun _ r M K => match r with
  | [] => ∃ len a, (mr_E M len a ∧ rd_end (rd_bl (cb_gI M 47 0)) len a = a ∧ cb_gI M 46 0 5 = 0) ∧ ∀ M', cb_fr fr_R4 M M' → mr_E M' len a → K (some (cb_i (mr_kw (mr_wd (cb_gI M 47 0) len a)))) M'
  | _ => False
theorem mr_isw {M M0 : cb_M} {K : Option cb_V → cb_M → Prop} {len a : Nat} {w : Int32} (hF : cb_fr fr_R4 M0 M) (hE : mr_E M len a) (hbl : rd_end (rd_bl (cb_gI M0 47 0)) len a = a) (h5 : cb_gI M0 46 0 5 = 0) (hw : w = mr_wd (cb_gI M0 47 0) len a) {a1 a2 a3 a4 a5 : Int32}
    (hf : ∀ M', cb_fr fr_R4 M0 M' → mr_E M' len a → ¬ w = mi_five a1 a2 a3 a4 a5 → K (some (cb_i (cb_z false))) M') (ht : ∀ M', cb_fr fr_R4 M0 M' → mr_E M' len a → w = mi_five a1 a2 a3 a4 a5 → K (some (cb_i (cb_z true))) M') : sp_X10_isWord 0 [.inl a1, .inl a2, .inl a3, .inl a4, .inl a5] M K := by
  have e47 : cb_gI M 47 0 = cb_gI M0 47 0 := hF.fn 47 0 (fun _ => rfl)
  refine ⟨len, a, ⟨hE, by rw [e47]; exact hbl, (hF.1 46 0 5 rfl).trans h5⟩, fun M' hF' hE' => ?_⟩
  rw [e47, ← hw]
  by_cases q : w = mi_five a1 a2 a3 a4 a5
  · rw [decide_eq_true q]
    exact ht M' (hF.trans hF') hE' q
  · rw [decide_eq_false q]
    exact hf M' (hF.trans hF') hE' q
def pt_X10_kindHere : cb_PT := cb_m 46 0 sp_X10_kindHere
theorem rc_X10_kindHere : cb_rc cb_tb RX10 pt_X10_kindHere := cb_m_rc rfl rfl
def md_X10_kindHere : cb_D := (RX10, cX10_kindHere, 1, (some .int), (0, 0, 4, 88), [
  (0, .aload_n 0, 1, 0, 0, 0, 0),
  (1, .iconst 2, 1, 2, 0, 0, 0),
  (2, .bipush 15, 2, 15, 0, 0, 0),
  (4, .iconst 1, 1, 1, 0, 0, 0),
  (5, .bipush 18, 2, 18, 0, 0, 0),
  (7, .iconst 4, 1, 4, 0, 0, 0),
  (8, .invokevirtual 172, 3, 0, 0, 0, 0),
  (11, .ifCond .eq 5, 3, 0, 16, 0, 0),
  (14, .iconst 0, 1, 0, 0, 0, 0),
  (15, .ireturn, 1, 0, 0, 0, 0),
  (16, .aload_n 0, 1, 0, 0, 0, 0),
  (17, .getfield 142, 3, 0, 10, 5, 1333),
  (20, .ifCond .ne 28, 3, 0, 48, 0, 0),
  (23, .aload_n 0, 1, 0, 0, 0, 0),
  (24, .invokevirtual 164, 3, 0, 1, 0, 0),
  (27, .bipush 27, 2, 27, 0, 0, 0),
  (29, .iconst 3, 1, 3, 0, 0, 0),
  (30, .bipush 12, 2, 12, 0, 0, 0),
  (32, .bipush 15, 2, 15, 0, 0, 0),
  (34, .iconst 3, 1, 3, 0, 0, 0),
  (35, .iconst 0, 1, 0, 0, 0, 0),
  (36, .invokestatic 168, 3, 0, 2, 0, 0),
  (39, .imul, 1, 0, 0, 0, 0),
  (40, .bipush 11, 2, 11, 0, 0, 0),
  (42, .iadd, 1, 0, 0, 0, 0),
  (43, .if_icmp .ne 5, 3, 0, 48, 0, 0),
  (46, .iconst 1, 1, 1, 0, 0, 0),
  (47, .ireturn, 1, 0, 0, 0, 0),
  (48, .aload_n 0, 1, 0, 0, 0, 0),
  (49, .bipush 8, 2, 8, 0, 0, 0),
  (51, .bipush 15, 2, 15, 0, 0, 0),
  (53, .bipush 15, 2, 15, 0, 0, 0),
  (55, .bipush 11, 2, 11, 0, 0, 0),
  (57, .iconst 0, 1, 0, 0, 0, 0),
  (58, .invokevirtual 172, 3, 0, 0, 0, 0),
  (61, .ifCond .eq 5, 3, 0, 66, 0, 0),
  (64, .iconst 2, 1, 2, 0, 0, 0),
  (65, .ireturn, 1, 0, 0, 0, 0),
  (66, .aload_n 0, 1, 0, 0, 0, 0),
  (67, .bipush 18, 2, 18, 0, 0, 0),
  (69, .bipush 9, 2, 9, 0, 0, 0),
  (71, .bipush 7, 2, 7, 0, 0, 0),
  (73, .bipush 8, 2, 8, 0, 0, 0),
  (75, .bipush 20, 2, 20, 0, 0, 0),
  (77, .invokevirtual 172, 3, 0, 0, 0, 0),
  (80, .ifCond .eq 5, 3, 0, 85, 0, 0),
  (83, .iconst 3, 1, 3, 0, 0, 0),
  (84, .ireturn, 1, 0, 0, 0, 0),
  (85, .aload_n 0, 1, 0, 0, 0, 0),
  (86, .bipush 19, 2, 19, 0, 0, 0),
  (88, .bipush 15, 2, 15, 0, 0, 0),
  (90, .bipush 21, 2, 21, 0, 0, 0),
  (92, .bipush 14, 2, 14, 0, 0, 0),
  (94, .iconst 4, 1, 4, 0, 0, 0),
  (95, .invokevirtual 172, 3, 0, 0, 0, 0),
  (98, .ifCond .eq 5, 3, 0, 103, 0, 0),
  (101, .iconst 4, 1, 4, 0, 0, 0),
  (102, .ireturn, 1, 0, 0, 0, 0),
  (103, .aload_n 0, 1, 0, 0, 0, 0),
  (104, .bipush 8, 2, 8, 0, 0, 0),
  (106, .iconst 5, 1, 5, 0, 0, 0),
  (107, .iconst 1, 1, 1, 0, 0, 0),
  (108, .bipush 18, 2, 18, 0, 0, 0),
  (110, .bipush 19, 2, 19, 0, 0, 0),
  (112, .invokevirtual 172, 3, 0, 0, 0, 0),
  (115, .ifCond .eq 5, 3, 0, 120, 0, 0),
  (118, .iconst 5, 1, 5, 0, 0, 0),
  (119, .ireturn, 1, 0, 0, 0, 0),
  (120, .aload_n 0, 1, 0, 0, 0, 0),
  (121, .iconst 4, 1, 4, 0, 0, 0),
  (122, .iconst 1, 1, 1, 0, 0, 0),
  (123, .bipush 13, 2, 13, 0, 0, 0),
  (125, .bipush 16, 2, 16, 0, 0, 0),
  (127, .iconst 0, 1, 0, 0, 0, 0),
  (128, .invokevirtual 172, 3, 0, 0, 0, 0),
  (131, .ifCond .eq 6, 3, 0, 137, 0, 0),
  (134, .bipush 6, 2, 6, 0, 0, 0),
  (136, .ireturn, 1, 0, 0, 0, 0),
  (137, .aload_n 0, 1, 0, 0, 0, 0),
  (138, .bipush 11, 2, 11, 0, 0, 0),
  (140, .iconst 5, 1, 5, 0, 0, 0),
  (141, .bipush 25, 2, 25, 0, 0, 0),
  (143, .iconst 0, 1, 0, 0, 0, 0),
  (144, .iconst 0, 1, 0, 0, 0, 0),
  (145, .invokevirtual 172, 3, 0, 0, 0, 0),
  (148, .ifCond .eq 8, 3, 0, 156, 0, 0),
  (151, .bipush 7, 2, 7, 0, 0, 0),
  (153, .goto 4, 3, 0, 157, 0, 0),
  (156, .iconst (-1), 1, (-1), 0, 0, 0),
  (157, .ireturn, 1, 0, 0, 0, 0)],
  [(0, 172, 6, 0, 0, pt_X10_isWord), (0, 164, 1, 0, 0, pt_X10_wordHere), (1, 168, 5, 0, 0, pt_X10_five)], [])
set_option maxRecDepth 100000 in
theorem vd_X10_kindHere : md_X10_kindHere.cd.all (cb_vE md_X10_kindHere) = true := by decide +kernel
theorem wd_X10_kindHere : cb_wd yX10_kindHere md_X10_kindHere := ⟨cb_tw (i := 1526) (by decide +kernel), cb_tw (i := 11) (by decide +kernel), by decide, by decide⟩
theorem cs_X10_kindHere : ∀ X, cb_Bs md_X10_kindHere X → ∀ g ∈ md_X10_kindHere.ga, cb_CS cb_tb md_X10_kindHere X g := fun X B => List.forall_mem_cons.mpr ⟨cb_csV B ok_X10_isWord wd_X10_isWord (cb_tw (i := 1527) (by decide +kernel)) (cb_tw (i := 1529) (by decide +kernel)) (cb_tp (i := 50) (by decide +kernel)) rc_X10_isWord ⟨by decide, by decide⟩ (by decide +kernel), List.forall_mem_cons.mpr ⟨cb_csV B ok_X10_wordHere wd_X10_wordHere (cb_tw (i := 1531) (by decide +kernel)) (cb_tw (i := 1533) (by decide +kernel)) (cb_tp (i := 51) (by decide +kernel)) rc_X10_wordHere ⟨by decide, by decide⟩ (by decide +kernel), List.forall_mem_cons.mpr ⟨cb_csS B ok_X10_five wd_X10_five (cb_tw (i := 1535) (by decide +kernel)) (cb_tw (i := 1536) (by decide +kernel)) ⟨by decide, by decide⟩ (by decide +kernel), fun _ h => nomatch h⟩⟩⟩
theorem ok_X10_kindHere : cb_MOK cb_tb yX10_kindHere md_X10_kindHere pt_X10_kindHere := by
  refine cb_okm ⟨plainFor_of_name (by decide), rfl⟩ (by decide) cs_X10_kindHere (by decide) (fun X n0 f i r M hr ha h => ?_)
  have h0 := cb_a1 (T := 46) rfl ha
  subst h0
  match r, hr, h with
  | [], hr, h =>
    obtain ⟨len, a, ⟨hE, hbl, h5⟩, h⟩ := h
    obtain ⟨w, hw⟩ : ∃ w, w = mr_wd (cb_gI M 47 0) len a := ⟨_, rfl⟩
    rw [← hw] at h
    unfold mr_kw at h
    refine cb_run cb_tb_ok vd_X10_kindHere (cuts := []) 90 ?_
    refine And.intro (cb_on rfl) (mr_isw (cb_fr.refl M) hE hbl h5 hw (fun M1 hF1 hE1 n1 => ez_f ?_) (fun M1 hF1 hE1 y1 => ez_t (And.intro trivial ?_)))
    rotate_left
    · rw [if_pos y1] at h
      exact h M1 hF1 hE1
    rw [if_neg n1] at h
    refine cb_ifne (fun q => absurd ((hF1.1 46 0 5 rfl).trans h5) q) (fun _ => And.intro (cb_on rfl) ⟨len, a, ⟨hE1, by rw [hF1.fn 47 0 (fun _ => rfl)]; exact hbl⟩, fun M2 hF2' hE2 => ?_⟩)
    have hF2 := hF1.trans hF2'
    rw [hF1.fn 47 0 (fun _ => rfl), ← hw]
    refine cb_ifne (fun n2 => ?_) (fun y2 => And.intro trivial ?_)
    rotate_left
    · rw [if_pos y2] at h
      exact h M2 hF2 hE2
    rw [if_neg n2] at h
    refine And.intro (cb_on rfl) (mr_isw hF2 hE2 hbl h5 hw (fun M3 hF3 hE3 n3 => ez_f ?_) (fun M3 hF3 hE3 y3 => ez_t (And.intro trivial ?_)))
    rotate_left
    · rw [if_pos y3] at h
      exact h M3 hF3 hE3
    rw [if_neg n3] at h
    refine And.intro (cb_on rfl) (mr_isw hF3 hE3 hbl h5 hw (fun M4 hF4 hE4 n4 => ez_f ?_) (fun M4 hF4 hE4 y4 => ez_t (And.intro trivial ?_)))
    rotate_left
    · rw [if_pos y4] at h
      exact h M4 hF4 hE4
    rw [if_neg n4] at h
    refine And.intro (cb_on rfl) (mr_isw hF4 hE4 hbl h5 hw (fun M5 hF5 hE5 n5 => ez_f ?_) (fun M5 hF5 hE5 y5 => ez_t (And.intro trivial ?_)))
    rotate_left
    · rw [if_pos y5] at h
      exact h M5 hF5 hE5
    rw [if_neg n5] at h
    refine And.intro (cb_on rfl) (mr_isw hF5 hE5 hbl h5 hw (fun M6 hF6 hE6 n6 => ez_f ?_) (fun M6 hF6 hE6 y6 => ez_t (And.intro trivial ?_)))
    rotate_left
    · rw [if_pos y6] at h
      exact h M6 hF6 hE6
    rw [if_neg n6] at h
    refine And.intro (cb_on rfl) (mr_isw hF6 hE6 hbl h5 hw (fun M7 hF7 hE7 n7 => ez_f ?_) (fun M7 hF7 hE7 y7 => ez_t (And.intro trivial ?_)))
    rotate_left
    · rw [if_pos y7] at h
      exact h M7 hF7 hE7
    rw [if_neg n7] at h
    refine And.intro (cb_on rfl) (mr_isw hF7 hE7 hbl h5 hw (fun M8 hF8 hE8 n8 => ez_f (And.intro trivial ?_)) (fun M8 hF8 hE8 y8 => ez_t (And.intro trivial ?_)))
    · rw [if_neg n8] at h
      exact h M8 hF8 hE8
    · rw [if_pos y8] at h
      exact h M8 hF8 hE8
/-! words as numbers in base 27 -/
def mr_W (c : Nat → Nat) : Nat → Nat
  | 0 => 0
  | n + 1 => 27 * mr_W c n + c n
theorem mr_W_inj {c d : Nat → Nat} : ∀ {n m : Nat}, (∀ k, k < n → 1 ≤ c k ∧ c k ≤ 26) → (∀ k, k < m → 1 ≤ d k ∧ d k ≤ 26) → mr_W c n = mr_W d m → n = m ∧ ∀ k, k < n → c k = d k
  | 0, 0, _, _, _ => ⟨rfl, fun k hk => absurd hk (by omega)⟩
  | 0, m + 1, _, hd, h => by
    have := hd m (by omega)
    rw [mr_W, mr_W] at h
    omega
  | n + 1, 0, hc, _, h => by
    have := hc n (by omega)
    rw [mr_W, mr_W] at h
    omega
  | n + 1, m + 1, hc, hd, h => by
    have h1 := hc n (by omega)
    have h2 := hd m (by omega)
    rw [mr_W, mr_W] at h
    obtain ⟨rfl, q⟩ := mr_W_inj (fun k hk => hc k (by omega)) (fun k hk => hd k (by omega)) (show mr_W c n = mr_W d m by omega)
    refine ⟨rfl, fun k hk => ?_⟩
    by_cases e : k = n
    · subst e
      omega
    · exact q k (by omega)
theorem mr_W_congr {c d : Nat → Nat} : ∀ {n : Nat}, (∀ k, k < n → c k = d k) → mr_W c n = mr_W d n
  | 0, _ => rfl
  | n + 1, h => by rw [mr_W, mr_W, mr_W_congr (fun k hk => h k (by omega)), h n (by omega)]
theorem mr_W_lt {c : Nat → Nat} : ∀ {n : Nat}, (∀ k, k < n → 1 ≤ c k ∧ c k ≤ 26) → mr_W c n < 27 ^ n
  | 0, _ => show (0 : Nat) < 27 ^ 0 by decide
  | n + 1, h => by
    have h1 := mr_W_lt (c := c) (n := n) (fun k hk => h k (by omega))
    have h2 := h n (by omega)
    rw [mr_W, Nat.pow_succ]
    omega
theorem rd_end_all {p : Nat → Bool} {len : Nat} : ∀ (g a : Nat), len - a = g → ∀ k, a ≤ k → k < rd_end p len a → p k = true
  | 0, a, hg, k, h1, h2 => by
    rw [rd_end_out (by omega)] at h2
    omega
  | g + 1, a, hg, k, h1, h2 => by
    cases q : p a with
    | false =>
      rw [rd_end_out (fun u => by rw [q] at u; cases u.2)] at h2
      omega
    | true =>
      rw [rd_end_in (by omega) q] at h2
      by_cases e : k = a
      · rw [e]; exact q
      · exact rd_end_all g (a + 1) (by omega) k (by omega) h2
def mr_d (j k : Nat) : Nat := (tx_ch j k).toNatClampNeg - 96
theorem mr_d_in : ∀ j, j < 8 → ∀ k, k < cb_slen.getD j 0 → 1 ≤ mr_d j k ∧ mr_d j k ≤ 26 ∧ tx_ch j k = nI (96 + mr_d j k) := by decide
theorem mr_sl : ∀ j, j < 8 → cb_slen.getD j 0 ≤ 5 := by decide
theorem mr_let {c : Int32} (h : rd_lt c = true) : 1 ≤ c.toNatClampNeg - 96 ∧ c.toNatClampNeg - 96 ≤ 26 ∧ c = nI (96 + (c.toNatClampNeg - 96)) := by
  have q := of_decide_eq_true h
  obtain ⟨k, k1, k2, e⟩ := wg_r_yes (lo := 97) (hi := 122) (x := c) (by decide) (fun w => w.elim q.1 q.2) (by decide)
  have ec : c.toNatClampNeg = k := by rw [e]; exact nI_clamp (by omega)
  rw [ec]
  refine ⟨by omega, by omega, ?_⟩
  rw [e]
  congr 1
  omega
theorem mr_wv_nI {mt : wm_F} {a : Nat} : ∀ {n : Nat}, (∀ k, k < n → rd_lt (mt (a + k)) = true) → mr_wv mt a n = nI (mr_W (fun k => (mt (a + k)).toNatClampNeg - 96) n)
  | 0, _ => rfl
  | n + 1, h => by
    obtain ⟨l1, l2, l3⟩ := mr_let (h n (by omega))
    rw [mr_wv, mr_W, mr_wv_nI (fun k hk => h k (by omega)), l3]
    generalize (mt (a + n)).toNatClampNeg - 96 = c at *
    generalize mr_W _ n = x
    rw [show (27 : Int32) = nI 27 from rfl, show nI 27 * nI x = nI (27 * x) from (Int32.ofNat_mul 27 x).symm, nI_add, show (97 : Int32) = nI 97 from rfl, ← nI_sub (by omega), nI_1, nI_clamp (by omega)]
    congr 1
    omega
theorem mr_is {mt : wm_F} {len a j : Nat} (hj : j < 8) : mr_wd mt len a = nI (mr_W (mr_d j) (cb_slen.getD j 0)) ↔ rd_is mt a (rd_end (rd_ls mt) len a) j = true := by
  have hall : ∀ k, k < rd_end (rd_ls mt) len a - a → rd_lt (mt (a + k)) = true := fun k hk => rd_end_all (p := rd_ls mt) (len := len) _ a rfl (a + k) (by omega) (by omega)
  have hD : ∀ k, k < cb_slen.getD j 0 → 1 ≤ mr_d j k ∧ mr_d j k ≤ 26 := fun k hk => ⟨(mr_d_in j hj k hk).1, (mr_d_in j hj k hk).2.1⟩
  have h5 := mr_sl j hj
  have hlt : mr_W (mr_d j) (cb_slen.getD j 0) < 27 ^ 6 := Nat.lt_of_lt_of_le (mr_W_lt hD) (Nat.pow_le_pow_right (by decide) (by omega))
  unfold mr_wd rd_is
  generalize hn : rd_end (rd_ls mt) len a - a = n at *
  by_cases q6 : 6 < n
  · rw [if_pos q6, decide_eq_false (by omega)]
    refine ⟨fun w => ?_, fun w => by cases w⟩
    exact absurd w (fun w => by
      have := nI_pos (n := mr_W (mr_d j) (cb_slen.getD j 0)) (by omega)
      rw [← w] at this
      exact this (by decide))
  · rw [if_neg q6, mr_wv_nI hall]
    have hc : ∀ k, k < n → 1 ≤ (mt (a + k)).toNatClampNeg - 96 ∧ (mt (a + k)).toNatClampNeg - 96 ≤ 26 := fun k hk => ⟨(mr_let (hall k hk)).1, (mr_let (hall k hk)).2.1⟩
    have hlc : mr_W (fun k => (mt (a + k)).toNatClampNeg - 96) n < 27 ^ 6 := Nat.lt_of_lt_of_le (mr_W_lt hc) (Nat.pow_le_pow_right (by decide) (by omega))
    rw [nI_eq (by omega) (by omega), Bool.and_eq_true, decide_eq_true_eq, List.all_eq_true]
    constructor
    · intro w
      obtain ⟨q1, q2⟩ := mr_W_inj hc hD w
      refine ⟨q1, fun k hk => decide_eq_true ?_⟩
      have hk := List.mem_range.mp hk
      have q3 : (mt (a + k)).toNatClampNeg - 96 = mr_d j k := q2 k (by omega)
      rw [(mr_let (hall k (by omega))).2.2, q3]
      exact (mr_d_in j hj k hk).2.2.symm
    · rintro ⟨q1, q2⟩
      rw [q1]
      refine mr_W_congr (fun k hk => ?_)
      have := of_decide_eq_true (q2 k (List.mem_range.mpr hk))
      show (mt (a + k)).toNatClampNeg - 96 = _
      rw [this]
      rfl
def mr_pm (j : Nat) : Nat := if j < 3 then j else if j = 3 then 5 else if j = 4 then 6 else if j = 5 then 7 else if j = 6 then 4 else 3
theorem mr_kw_j : ∀ j, j < 8 → mr_kw (nI (mr_W (mr_d j) (cb_slen.getD j 0))) = nI (mr_pm j) := by decide
theorem mr_kw_0 {w : Int32} (h : ∀ j, j < 8 → ¬ w = nI (mr_W (mr_d j) (cb_slen.getD j 0))) : mr_kw w = -1 := by
  unfold mr_kw
  rw [if_neg (show ¬ w = mi_five 2 15 1 18 4 from fun z => h 0 (by decide) (z.trans (by decide))), if_neg (show ¬ w = 27 * mi_five 3 12 15 3 0 + 11 from fun z => h 1 (by decide) (z.trans (by decide))), if_neg (show ¬ w = mi_five 8 15 15 11 0 from fun z => h 2 (by decide) (z.trans (by decide))), if_neg (show ¬ w = mi_five 18 9 7 8 20 from fun z => h 7 (by decide) (z.trans (by decide))), if_neg (show ¬ w = mi_five 19 15 21 14 4 from fun z => h 6 (by decide) (z.trans (by decide))), if_neg (show ¬ w = mi_five 8 5 1 18 19 from fun z => h 3 (by decide) (z.trans (by decide))), if_neg (show ¬ w = mi_five 4 1 13 16 0 from fun z => h 4 (by decide) (z.trans (by decide))), if_neg (show ¬ w = mi_five 11 5 25 0 0 from fun z => h 5 (by decide) (z.trans (by decide)))]
theorem mr_kind (mt : wm_F) (len a : Nat) : mr_kw (mr_wd mt len a) = match rd_w mt a (rd_end (rd_ls mt) len a) with
  | none => -1
  | some j => nI (mr_pm j) := by
  cases e : rd_w mt a (rd_end (rd_ls mt) len a) with
  | none =>
    refine mr_kw_0 (fun j hj w => ?_)
    have := List.find?_eq_none.mp e j (List.mem_range.mpr hj)
    exact this ((mr_is hj).mp w)
  | some j =>
    have hj := rd_w_lt e
    have := List.find?_some e
    rw [(mr_is hj).mpr this]
    exact mr_kw_j j hj
