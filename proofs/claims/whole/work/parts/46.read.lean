/-! ===== the reader: blanks, numbers, ends, words ===== -/
def rd_to (p : Nat → Bool) : Nat → Nat → Nat
  | 0, a => a
  | f + 1, a => if p a = true then rd_to p f (a + 1) else a
def rd_end (p : Nat → Bool) (len a : Nat) : Nat := rd_to p (len - a) a
theorem rd_end_in {p : Nat → Bool} {len a : Nat} (h : a < len) (hp : p a = true) : rd_end p len a = rd_end p len (a + 1) := by
  unfold rd_end
  rw [show len - a = (len - (a + 1)) + 1 by omega, rd_to, if_pos hp]
theorem rd_end_out {p : Nat → Bool} {len a : Nat} (h : ¬ (a < len ∧ p a = true)) : rd_end p len a = a := by
  unfold rd_end
  by_cases q : a < len
  · rw [show len - a = (len - (a + 1)) + 1 by omega, rd_to, if_neg (fun w => h ⟨q, w⟩)]
  · rw [show len - a = 0 by omega, rd_to]
theorem rd_to_ge {p : Nat → Bool} : ∀ f a, a ≤ rd_to p f a
  | 0, a => Nat.le_refl _
  | f + 1, a => by
    rw [rd_to]
    split
    · exact Nat.le_trans (Nat.le_succ a) (rd_to_ge f (a + 1))
    · exact Nat.le_refl _
theorem rd_to_le {p : Nat → Bool} : ∀ f a, rd_to p f a ≤ a + f
  | 0, a => Nat.le_refl _
  | f + 1, a => by
    rw [rd_to]
    split
    · have := rd_to_le (p := p) f (a + 1)
      omega
    · omega
theorem rd_end_ge (p : Nat → Bool) (len a : Nat) : a ≤ rd_end p len a := rd_to_ge _ _
theorem rd_end_le {p : Nat → Bool} {len a : Nat} (h : a ≤ len) : rd_end p len a ≤ len := by
  have := rd_to_le (p := p) (len - a) a
  unfold rd_end
  omega
def rd_dg (c : Int32) : Bool := decide (¬ c < 48 ∧ ¬ 57 < c)
def rd_lt (c : Int32) : Bool := decide (¬ c < 97 ∧ ¬ 122 < c)
def rd_bl (tx : wm_F) (a : Nat) : Bool := decide (tx a = 32)
def rd_ds (tx : wm_F) (a : Nat) : Bool := rd_dg (tx a)
def rd_ls (tx : wm_F) (a : Nat) : Bool := rd_lt (tx a)
def rd_dv (tx : wm_F) : Nat → Nat → Int32 → Int32
  | 0, _, v => v
  | f + 1, a, v => if rd_dg (tx a) = true then rd_dv tx f (a + 1) (wm_min 10000 (v * 10 + (tx a - 48))) else v
abbrev rd_X : Type := Int32 × Nat
/-- a number, its end, its place; or the fault -/
def rd_num (tx : wm_F) (len : Nat) (lo hi : Int32) (at_ : Nat) : rd_X ⊕ (Int32 × Nat × Nat) :=
  if rd_end (rd_ds tx) len (rd_end (rd_bl tx) len at_) = rd_end (rd_bl tx) len at_ then .inl (1, rd_end (rd_bl tx) len at_)
  else if rd_dv tx (len - rd_end (rd_bl tx) len at_) (rd_end (rd_bl tx) len at_) 0 < lo ∨ hi < rd_dv tx (len - rd_end (rd_bl tx) len at_) (rd_end (rd_bl tx) len at_) 0 then .inl (2, rd_end (rd_bl tx) len at_)
  else .inr (rd_dv tx (len - rd_end (rd_bl tx) len at_) (rd_end (rd_bl tx) len at_) 0, rd_end (rd_ds tx) len (rd_end (rd_bl tx) len at_), rd_end (rd_bl tx) len at_)
def rd_close (tx : wm_F) (len at_ : Nat) : rd_X ⊕ Nat := if rd_end (rd_bl tx) len at_ < len ∧ tx (rd_end (rd_bl tx) len at_) = 59 then .inr (rd_end (rd_bl tx) len at_ + 1) else .inl (1, rd_end (rd_bl tx) len at_)
/-- the reader stands here -/
def rd_E (M : cb_M) (len at_ : Nat) : Prop := cb_gR M 1 0 0 = some 0 ∧ cb_gI M 1 0 1 = nI len ∧ len ≤ 600 ∧ cb_gI M 1 0 2 = nI at_ ∧ at_ ≤ len
def fr_1 (t j : Nat) : Bool := Nat.beq t 1 && Nat.ble 2 j
theorem rd_E_fr {M M' : cb_M} {len a b : Nat} (h : rd_E M len a) (hF : cb_fr fr_1 M M') (h2 : cb_gI M' 1 0 2 = nI b) (hb : b ≤ len) : rd_E M' len b := ⟨(hF.ref 1 0 0).trans h.1, (hF.1 1 0 1 rfl).trans h.2.1, h.2.2.1, h2, hb⟩
def pt_X6_isDigit : cb_PT := cb_f1 (fun _ => True) fun x => cb_z (rd_dg x)
def md_X6_isDigit : cb_D := (RX6, cX6_isDigit, 1, (some .boolean), (0, 0, 0, 0), [
  (0, .iload_n 0, 1, 0, 0, 0, 0),
  (1, .bipush 48, 2, 48, 0, 0, 0),
  (3, .if_icmp .lt 13, 3, 0, 16, 0, 0),
  (6, .iload_n 0, 1, 0, 0, 0, 0),
  (7, .bipush 57, 2, 57, 0, 0, 0),
  (9, .if_icmp .gt 7, 3, 0, 16, 0, 0),
  (12, .iconst 1, 1, 1, 0, 0, 0),
  (13, .goto 4, 3, 0, 17, 0, 0),
  (16, .iconst 0, 1, 0, 0, 0, 0),
  (17, .ireturn, 1, 0, 0, 0, 0)],
  [], [])
set_option maxRecDepth 100000 in
theorem vd_X6_isDigit : md_X6_isDigit.cd.all (cb_vE md_X6_isDigit) = true := by decide +kernel
theorem wd_X6_isDigit : cb_wd yX6_isDigit md_X6_isDigit := ⟨cb_tw (i := 723) (by decide +kernel), cb_tw (i := 2) (by decide +kernel), by decide, by decide⟩
theorem cs_X6_isDigit : ∀ X, cb_Bs md_X6_isDigit X → ∀ g ∈ md_X6_isDigit.ga, cb_CS cb_tb md_X6_isDigit X g := fun X B => fun _ h => nomatch h
theorem ok_X6_isDigit : cb_MOK cb_tb yX6_isDigit md_X6_isDigit pt_X6_isDigit := by
  refine cb_ok1 ⟨plainFor_of_name (by decide), rfl⟩ (by decide) cs_X6_isDigit (by decide) (fun X a M x _ h => cb_run cb_tb_ok vd_X6_isDigit (cuts := []) 40 ?_)
  have h : X.K (.inl (some (cb_i (cb_z (decide (¬ x < 48 ∧ ¬ 57 < x)))))) a M := h
  refine And.intro (fun q => And.intro cb_rt0 ?_) (fun q => And.intro (fun q1 => And.intro cb_rt0 ?_) (fun q1 => And.intro cb_rt1 ?_))
  · rw [decide_eq_false (fun w => w.1 q)] at h
    exact h
  · rw [decide_eq_false (fun w => w.2 q1)] at h
    exact h
  · rw [decide_eq_true ⟨q, q1⟩] at h
    exact h
def pt_X6_isLetter : cb_PT := cb_f1 (fun _ => True) fun x => cb_z (rd_lt x)
def md_X6_isLetter : cb_D := (RX6, cX6_isLetter, 1, (some .boolean), (0, 0, 0, 0), [
  (0, .iload_n 0, 1, 0, 0, 0, 0),
  (1, .bipush 97, 2, 97, 0, 0, 0),
  (3, .if_icmp .lt 13, 3, 0, 16, 0, 0),
  (6, .iload_n 0, 1, 0, 0, 0, 0),
  (7, .bipush 122, 2, 122, 0, 0, 0),
  (9, .if_icmp .gt 7, 3, 0, 16, 0, 0),
  (12, .iconst 1, 1, 1, 0, 0, 0),
  (13, .goto 4, 3, 0, 17, 0, 0),
  (16, .iconst 0, 1, 0, 0, 0, 0),
  (17, .ireturn, 1, 0, 0, 0, 0)],
  [], [])
set_option maxRecDepth 100000 in
theorem vd_X6_isLetter : md_X6_isLetter.cd.all (cb_vE md_X6_isLetter) = true := by decide +kernel
theorem wd_X6_isLetter : cb_wd yX6_isLetter md_X6_isLetter := ⟨cb_tw (i := 637) (by decide +kernel), cb_tw (i := 2) (by decide +kernel), by decide, by decide⟩
theorem cs_X6_isLetter : ∀ X, cb_Bs md_X6_isLetter X → ∀ g ∈ md_X6_isLetter.ga, cb_CS cb_tb md_X6_isLetter X g := fun X B => fun _ h => nomatch h
theorem ok_X6_isLetter : cb_MOK cb_tb yX6_isLetter md_X6_isLetter pt_X6_isLetter := by
  refine cb_ok1 ⟨plainFor_of_name (by decide), rfl⟩ (by decide) cs_X6_isLetter (by decide) (fun X a M x _ h => cb_run cb_tb_ok vd_X6_isLetter (cuts := []) 40 ?_)
  have h : X.K (.inl (some (cb_i (cb_z (decide (¬ x < 97 ∧ ¬ 122 < x)))))) a M := h
  refine And.intro (fun q => And.intro cb_rt0 ?_) (fun q => And.intro (fun q1 => And.intro cb_rt0 ?_) (fun q1 => And.intro cb_rt1 ?_))
  · rw [decide_eq_false (fun w => w.1 q)] at h
    exact h
  · rw [decide_eq_false (fun w => w.2 q1)] at h
    exact h
  · rw [decide_eq_true ⟨q, q1⟩] at h
    exact h
def sp_X6_failAt : cb_Sp := fun _ r M K => match r with
  | [.inl p, .inl k] => (¬ cb_gI M 1 0 4 = 0 → K none M) ∧ (cb_gI M 1 0 4 = 0 → K none (cb_sI (cb_sI M 1 0 4 k) 1 0 5 p))
  | _ => False
def pt_X6_failAt : cb_PT := cb_m 1 2 sp_X6_failAt
theorem rc_X6_failAt : cb_rc cb_tb RX6 pt_X6_failAt := cb_m_rc rfl rfl
def md_X6_failAt : cb_D := (RX6, cX6_failAt, 3, none, (0, 0, 0, 0), [
  (0, .aload_n 0, 1, 0, 0, 0, 0),
  (1, .getfield 25, 3, 0, 6, 4, 43),
  (4, .ifCond .ne 13, 3, 0, 17, 0, 0),
  (7, .aload_n 0, 1, 0, 0, 0, 0),
  (8, .iload_n 2, 1, 0, 2, 0, 0),
  (9, .putfield 25, 3, 0, 6, 4, 43),
  (12, .aload_n 0, 1, 0, 0, 0, 0),
  (13, .iload_n 1, 1, 0, 1, 0, 0),
  (14, .putfield 28, 3, 0, 6, 5, 44),
  (17, .return_, 1, 0, 0, 0, 0)],
  [], [])
set_option maxRecDepth 100000 in
theorem vd_X6_failAt : md_X6_failAt.cd.all (cb_vE md_X6_failAt) = true := by decide +kernel
theorem wd_X6_failAt : cb_wd yX6_failAt md_X6_failAt := ⟨cb_tw (i := 705) (by decide +kernel), cb_tw (i := 2) (by decide +kernel), by decide, by decide⟩
theorem cs_X6_failAt : ∀ X, cb_Bs md_X6_failAt X → ∀ g ∈ md_X6_failAt.ga, cb_CS cb_tb md_X6_failAt X g := fun X B => fun _ h => nomatch h
theorem ok_X6_failAt : cb_MOK cb_tb yX6_failAt md_X6_failAt pt_X6_failAt := by
  refine cb_okm ⟨plainFor_of_name (by decide), rfl⟩ (by decide) cs_X6_failAt (by decide) (fun X n0 f i r M hr ha h => ?_)
  have h0 := cb_a1 (T := 1) rfl ha
  subst h0
  match r, hr, h with
  | [.inl p, .inl k], hr, h =>
    refine cb_run cb_tb_ok vd_X6_failAt (cuts := []) 90 ?_
    exact And.intro (fun q => And.intro rfl (h.1 q)) (fun q => And.intro rfl (h.2 (Classical.not_not.mp q)))
def fr_2 (t j : Nat) : Bool := Nat.beq t 1 && Nat.beq j 2
theorem fr_2_1 : ∀ t j, fr_2 t j = true → fr_1 t j = true := by
  intro t j h
  unfold fr_2 at h
  rw [Bool.and_eq_true] at h
  have h1 := Nat.eq_of_beq_eq_true h.1
  have h2 := Nat.eq_of_beq_eq_true h.2
  subst h1 h2
  rfl
def sp_X6_skipBlanks : cb_Sp := fun _ r M K => match r with
  | [] => ∃ len at_, rd_E M len at_ ∧ ∀ M', cb_fr fr_2 M M' → rd_E M' len (rd_end (rd_bl (cb_gI M 2 0)) len at_) → K none M'
  | _ => False
def pt_X6_skipBlanks : cb_PT := cb_m 1 0 sp_X6_skipBlanks
theorem rc_X6_skipBlanks : cb_rc cb_tb RX6 pt_X6_skipBlanks := cb_m_rc rfl rfl
def md_X6_skipBlanks : cb_D := (RX6, cX6_skipBlanks, 2, none, (0, 0, 0, 0), [
  (0, .aload_n 0, 1, 0, 0, 0, 0),
  (1, .getfield 19, 3, 0, 6, 2, 41),
  (4, .istore_n 1, 1, 0, 1, 0, 0),
  (5, .iload_n 1, 1, 0, 1, 0, 0),
  (6, .aload_n 0, 1, 0, 0, 0, 0),
  (7, .getfield 15, 3, 0, 6, 1, 40),
  (10, .if_icmp .ge 27, 3, 0, 37, 0, 0),
  (13, .aload_n 0, 1, 0, 0, 0, 0),
  (14, .getfield 9, 3, 0, 6, 0, 39),
  (17, .iload_n 1, 1, 0, 1, 0, 0),
  (18, .baload, 1, 0, 0, 0, 0),
  (19, .bipush 32, 2, 32, 0, 0, 0),
  (21, .if_icmp .ne 16, 3, 0, 37, 0, 0),
  (24, .aload_n 0, 1, 0, 0, 0, 0),
  (25, .iload_n 1, 1, 0, 1, 0, 0),
  (26, .iconst 1, 1, 1, 0, 0, 0),
  (27, .iadd, 1, 0, 0, 0, 0),
  (28, .putfield 19, 3, 0, 6, 2, 41),
  (31, .iinc 1 1, 3, 1, 1, 0, 0),
  (34, .goto (-29), 3, 0, 5, 0, 0),
  (37, .return_, 1, 0, 0, 0, 0)],
  [], [])
set_option maxRecDepth 100000 in
theorem vd_X6_skipBlanks : md_X6_skipBlanks.cd.all (cb_vE md_X6_skipBlanks) = true := by decide +kernel
theorem wd_X6_skipBlanks : cb_wd yX6_skipBlanks md_X6_skipBlanks := ⟨cb_tw (i := 630) (by decide +kernel), cb_tw (i := 2) (by decide +kernel), by decide, by decide⟩
theorem cs_X6_skipBlanks : ∀ X, cb_Bs md_X6_skipBlanks X → ∀ g ∈ md_X6_skipBlanks.ga, cb_CS cb_tb md_X6_skipBlanks X g := fun X B => fun _ h => nomatch h
theorem ok_X6_skipBlanks : cb_MOK cb_tb yX6_skipBlanks md_X6_skipBlanks pt_X6_skipBlanks := by
  refine cb_okm ⟨plainFor_of_name (by decide), rfl⟩ (by decide) cs_X6_skipBlanks (by decide) (fun X n0 f i r M hr ha h => ?_)
  have h0 := cb_a1 (T := 1) rfl ha
  subst h0
  match r, hr, h with
  | [], hr, h =>
    obtain ⟨len, at_, hE, h⟩ := h
    obtain ⟨e1, e2, e3, e4, e5⟩ := id hE
    have loop : ∀ g i M', len - i = g → i ≤ len → cb_fr fr_2 M M' → cb_gI M' 1 0 2 = nI i → rd_end (rd_bl (cb_gI M 2 0)) len i = rd_end (rd_bl (cb_gI M 2 0)) len at_ → cb_Gd cb_tb md_X6_skipBlanks X 5 [some (cb_r 1 0), some (cb_i (nI i))] [] (cb_aS n0, f) M' 0 0 := by
      intro g
      induction g with
      | zero =>
        intro i M' hg hi hF h2 hz
        refine cb_run cb_tb_ok vd_X6_skipBlanks (cuts := [5]) 90 ?_
        have hil : i = len := by omega
        refine cb_lout (n := len) (by rw [hil]) ((hF.1 1 0 1 rfl).trans e2) (And.intro rfl (h M' hF (rd_E_fr hE (hF.mono fr_2_1) ?_ ?_)))
        · rw [← hz, rd_end_out (by omega)]
          exact h2
        · exact rd_end_le e5
      | succ g ih =>
        intro i M' hg hi hF h2 hz
        have hxi : vp_in (nI i) 600 := vp_in_nI (by omega) (by decide)
        have hxc : (nI i).toNatClampNeg = i := nI_clamp (by omega)
        refine cb_run cb_tb_ok vd_X6_skipBlanks (cuts := [5]) 90 ?_
        refine cb_lin rfl ((hF.1 1 0 1 rfl).trans e2) (show i < len by omega) (by omega) (Exists.intro (some 0) (And.intro ((hF.ref 1 0 0).trans e1) (And.intro hxi (cb_ifne (fun q => ?_) (fun q => ?_)))))
        · rw [hxc, hF.1 2 0 i rfl] at q
          refine And.intro rfl (h M' hF (rd_E_fr hE (hF.mono fr_2_1) ?_ (rd_end_le e5)))
          rw [← hz, rd_end_out (fun w => q (of_decide_eq_true w.2))]
          exact h2
        · rw [hxc, hF.1 2 0 i rfl] at q
          show cb_Gd cb_tb md_X6_skipBlanks X 5 [some (cb_r 1 0), some (cb_i (nI i + 1))] [] (cb_aS n0, f) (cb_sI M' 1 0 2 (nI i + 1)) 0 0
          rw [nI_1]
          refine ih (i + 1) _ (by omega) (by omega) (hF.set _ rfl) ?_ ?_
          · rw [cb_gI_sI, if_pos ⟨rfl, rfl, rfl⟩]
          · rw [← hz]
            exact (rd_end_in (by omega) (decide_eq_true q)).symm
    refine cb_run cb_tb_ok vd_X6_skipBlanks (cuts := [5]) 90 ?_
    show cb_Gd cb_tb md_X6_skipBlanks X 5 [some (cb_r 1 0), some (cb_i (cb_gI M 1 0 2))] [] (cb_aS n0, f) M 0 0
    rw [e4]
    exact loop _ at_ M rfl e5 (cb_fr.refl M) e4 rfl
def rd_p (M : cb_M) (len : Nat) (r : rd_X ⊕ (Int32 × Nat × Nat)) (v : Int32) (M' : cb_M) : Prop := match r with
  | .inl (k, b) => ¬ k = 0 ∧ cb_gI M' 1 0 4 = k ∧ cb_gI M' 1 0 5 = nI b ∧ ∃ a, rd_E M' len a
  | .inr (w, e, b) => v = w ∧ rd_E M' len e ∧ cb_gI M' 1 0 3 = nI b ∧ cb_gI M' 1 0 4 = 0 ∧ cb_gI M' 1 0 5 = cb_gI M 1 0 5
def sp_X6_readNumber : cb_Sp := fun _ r M K => match r with
  | [.inl lo, .inl hi] => ∃ len at_, rd_E M len at_ ∧ (¬ cb_gI M 1 0 4 = 0 → K (some (cb_i 0)) M) ∧ (cb_gI M 1 0 4 = 0 → ∀ M' v, cb_fr fr_1 M M' → rd_p M len (rd_num (cb_gI M 2 0) len lo hi at_) v M' → K (some (cb_i v)) M')
  | _ => False
def pt_X6_readNumber : cb_PT := cb_m 1 2 sp_X6_readNumber
theorem rc_X6_readNumber : cb_rc cb_tb RX6 pt_X6_readNumber := cb_m_rc rfl rfl
def md_X6_readNumber : cb_D := (RX6, cX6_readNumber, 5, (some .int), (0, 0, 1, 22), [
  (0, .aload_n 0, 1, 0, 0, 0, 0),
  (1, .getfield 25, 3, 0, 6, 4, 43),
  (4, .ifCond .eq 5, 3, 0, 9, 0, 0),
  (7, .iconst 0, 1, 0, 0, 0, 0),
  (8, .ireturn, 1, 0, 0, 0, 0),
  (9, .aload_n 0, 1, 0, 0, 0, 0),
  (10, .invokevirtual 42, 3, 0, 0, 0, 0),
  (13, .aload_n 0, 1, 0, 0, 0, 0),
  (14, .aload_n 0, 1, 0, 0, 0, 0),
  (15, .getfield 19, 3, 0, 6, 2, 41),
  (18, .putfield 22, 3, 0, 6, 3, 42),
  (21, .iconst 0, 1, 0, 0, 0, 0),
  (22, .istore_n 3, 1, 0, 3, 0, 0),
  (23, .aload_n 0, 1, 0, 0, 0, 0),
  (24, .getfield 19, 3, 0, 6, 2, 41),
  (27, .istore 4, 2, 0, 4, 0, 0),
  (29, .iload 4, 2, 0, 4, 0, 0),
  (31, .aload_n 0, 1, 0, 0, 0, 0),
  (32, .getfield 15, 3, 0, 6, 1, 40),
  (35, .if_icmp .ge 52, 3, 0, 87, 0, 0),
  (38, .aload_n 0, 1, 0, 0, 0, 0),
  (39, .getfield 9, 3, 0, 6, 0, 39),
  (42, .iload 4, 2, 0, 4, 0, 0),
  (44, .baload, 1, 0, 0, 0, 0),
  (45, .invokestatic 159, 3, 0, 1, 0, 0),
  (48, .ifCond .eq 39, 3, 0, 87, 0, 0),
  (51, .sipush 10000, 3, 10000, 0, 0, 0),
  (54, .iload_n 3, 1, 0, 3, 0, 0),
  (55, .bipush 10, 2, 10, 0, 0, 0),
  (57, .imul, 1, 0, 0, 0, 0),
  (58, .aload_n 0, 1, 0, 0, 0, 0),
  (59, .getfield 9, 3, 0, 6, 0, 39),
  (62, .iload 4, 2, 0, 4, 0, 0),
  (64, .baload, 1, 0, 0, 0, 0),
  (65, .bipush 48, 2, 48, 0, 0, 0),
  (67, .isub, 1, 0, 0, 0, 0),
  (68, .iadd, 1, 0, 0, 0, 0),
  (69, .invokestatic 31, 3, 0, 2, 0, 0),
  (72, .istore_n 3, 1, 0, 3, 0, 0),
  (73, .aload_n 0, 1, 0, 0, 0, 0),
  (74, .iload 4, 2, 0, 4, 0, 0),
  (76, .iconst 1, 1, 1, 0, 0, 0),
  (77, .iadd, 1, 0, 0, 0, 0),
  (78, .putfield 19, 3, 0, 6, 2, 41),
  (81, .iinc 4 1, 3, 1, 4, 0, 0),
  (84, .goto (-55), 3, 0, 29, 0, 0),
  (87, .aload_n 0, 1, 0, 0, 0, 0),
  (88, .getfield 19, 3, 0, 6, 2, 41),
  (91, .aload_n 0, 1, 0, 0, 0, 0),
  (92, .getfield 22, 3, 0, 6, 3, 42),
  (95, .if_icmp .ne 14, 3, 0, 109, 0, 0),
  (98, .aload_n 0, 1, 0, 0, 0, 0),
  (99, .aload_n 0, 1, 0, 0, 0, 0),
  (100, .getfield 19, 3, 0, 6, 2, 41),
  (103, .iconst 1, 1, 1, 0, 0, 0),
  (104, .invokevirtual 56, 3, 0, 3, 0, 0),
  (107, .iconst 0, 1, 0, 0, 0, 0),
  (108, .ireturn, 1, 0, 0, 0, 0),
  (109, .iload_n 3, 1, 0, 3, 0, 0),
  (110, .iload_n 1, 1, 0, 1, 0, 0),
  (111, .if_icmp .lt 8, 3, 0, 119, 0, 0),
  (114, .iload_n 3, 1, 0, 3, 0, 0),
  (115, .iload_n 2, 1, 0, 2, 0, 0),
  (116, .if_icmp .le 14, 3, 0, 130, 0, 0),
  (119, .aload_n 0, 1, 0, 0, 0, 0),
  (120, .aload_n 0, 1, 0, 0, 0, 0),
  (121, .getfield 22, 3, 0, 6, 3, 42),
  (124, .iconst 2, 1, 2, 0, 0, 0),
  (125, .invokevirtual 56, 3, 0, 3, 0, 0),
  (128, .iconst 0, 1, 0, 0, 0, 0),
  (129, .ireturn, 1, 0, 0, 0, 0),
  (130, .iload_n 3, 1, 0, 3, 0, 0),
  (131, .ireturn, 1, 0, 0, 0, 0)],
  [(0, 42, 1, 0, 0, pt_X6_skipBlanks), (1, 159, 1, 0, 0, pt_X6_isDigit), (1, 31, 2, 0, 0, pt_J9_min_7cf53), (0, 56, 3, 0, 0, pt_X6_failAt)], [])
set_option maxRecDepth 100000 in
theorem vd_X6_readNumber : md_X6_readNumber.cd.all (cb_vE md_X6_readNumber) = true := by decide +kernel
theorem wd_X6_readNumber : cb_wd yX6_readNumber md_X6_readNumber := ⟨cb_tw (i := 720) (by decide +kernel), cb_tw (i := 2) (by decide +kernel), by decide, by decide⟩
theorem cs_X6_readNumber : ∀ X, cb_Bs md_X6_readNumber X → ∀ g ∈ md_X6_readNumber.ga, cb_CS cb_tb md_X6_readNumber X g := fun X B => List.forall_mem_cons.mpr ⟨cb_csV B ok_X6_skipBlanks wd_X6_skipBlanks (cb_tw (i := 627) (by decide +kernel)) (cb_tw (i := 629) (by decide +kernel)) (cb_tp (i := 5) (by decide +kernel)) rc_X6_skipBlanks ⟨by decide, by decide⟩ (by decide +kernel), List.forall_mem_cons.mpr ⟨cb_csS B ok_X6_isDigit wd_X6_isDigit (cb_tw (i := 721) (by decide +kernel)) (cb_tw (i := 722) (by decide +kernel)) ⟨by decide, by decide⟩ (by decide +kernel), List.forall_mem_cons.mpr ⟨cb_csS B ok_J9_min_7cf53 wd_J9_min_7cf53 (cb_tw (i := 621) (by decide +kernel)) (cb_tw (i := 485) (by decide +kernel)) ⟨by decide, by decide⟩ (by decide +kernel), List.forall_mem_cons.mpr ⟨cb_csV B ok_X6_failAt wd_X6_failAt (cb_tw (i := 702) (by decide +kernel)) (cb_tw (i := 704) (by decide +kernel)) (cb_tp (i := 9) (by decide +kernel)) rc_X6_failAt ⟨by decide, by decide⟩ (by decide +kernel), fun _ h => nomatch h⟩⟩⟩⟩
theorem ok_X6_readNumber : cb_MOK cb_tb yX6_readNumber md_X6_readNumber pt_X6_readNumber := by
  refine cb_okm ⟨plainFor_of_name (by decide), rfl⟩ (by decide) cs_X6_readNumber (by decide) (fun X n0 f i r M hr ha h => ?_)
  have h0 := cb_a1 (T := 1) rfl ha
  subst h0
  match r, hr, h with
  | [.inl lo, .inl hi], hr, h =>
    obtain ⟨len, at_, hE, hdead, h⟩ := h
    refine cb_run cb_tb_ok vd_X6_readNumber (cuts := [29, 87]) 90 ?_
    refine And.intro (fun q0 => ?_) (fun q0 => And.intro trivial (hdead q0))
    have q0 : cb_gI M 1 0 4 = 0 := q0
    have h := h q0
    refine And.intro (cb_on rfl) ⟨len, at_, hE, fun M1 hF1 hE1 => ?_⟩
    obtain ⟨b, hb⟩ : ∃ b, b = rd_end (rd_bl (cb_gI M 2 0)) len at_ := ⟨_, rfl⟩
    rw [← hb] at hE1
    obtain ⟨e1, e2, e3, e4, e5⟩ := id hE1
    have hF1' := hF1.mono fr_2_1
    obtain ⟨e, he⟩ : ∃ e, e = rd_end (rd_ds (cb_gI M 2 0)) len b := ⟨_, rfl⟩
    obtain ⟨w, hw⟩ : ∃ w, w = rd_dv (cb_gI M 2 0) (len - b) b 0 := ⟨_, rfl⟩
    have hel : e ≤ len := by rw [he]; exact rd_end_le e5
    have hbe : b ≤ e := by rw [he]; exact rd_end_ge _ _ _
    have enum : rd_num (cb_gI M 2 0) len lo hi at_ = if e = b then .inl (1, b) else if w < lo ∨ hi < w then .inl (2, b) else .inr (w, e, b) := by
      unfold rd_num
      rw [← hb, ← he, ← hw]
    rw [enum] at h
    have fin : ∀ (i : Int32) (M' : cb_M), cb_fr fr_1 M M' → cb_gI M' 1 0 2 = nI e → cb_gI M' 1 0 3 = nI b → cb_gI M' 1 0 4 = 0 → cb_gI M' 1 0 5 = cb_gI M 1 0 5 → cb_Gd cb_tb md_X6_readNumber X 87 [some (cb_r 1 0), some (cb_i (lo)), some (cb_i (hi)), some (cb_i (w)), some (cb_i (i))] [] (cb_aS n0, f) M' 0 0 := by
      intro i M' hF g2 g3 g4 g5
      have hE' : rd_E M' len e := rd_E_fr hE hF g2 hel
      refine cb_run cb_tb_ok vd_X6_readNumber (cuts := [87]) 90 ?_
      refine cb_ifne (fun q => ?_) (fun q => ?_)
      · rw [g2, g3] at q
        have hne : ¬ e = b := fun z => q (by rw [z])
        rw [if_neg hne] at h
        refine And.intro (fun q1 => ?_) (fun q1 => And.intro (fun q2 => ?_) (fun q2 => ?_))
        · have q1 : w < lo := q1
          rw [if_pos (Or.inl q1)] at h
          refine And.intro (cb_on rfl) (And.intro (fun q => absurd g4 q) (fun _ => And.intro trivial (h _ 0 ((hF.set _ rfl).set _ rfl) ⟨by decide, rfl, g3, e, rd_E_fr hE ((hF.set _ rfl).set _ rfl) g2 hel⟩)))
        · have hn : ¬ (w < lo ∨ hi < w) := fun z => z.elim q1 (fun z => absurd q2 (Int32.not_le.mpr z))
          rw [if_neg hn] at h
          exact And.intro trivial (h M' w hF ⟨rfl, hE', g3, g4, g5⟩)
        · have hn : w < lo ∨ hi < w := Or.inr (Int32.not_le.mp q2)
          rw [if_pos hn] at h
          refine And.intro (cb_on rfl) (And.intro (fun q => absurd g4 q) (fun _ => And.intro trivial (h _ 0 ((hF.set _ rfl).set _ rfl) ⟨by decide, rfl, g3, e, rd_E_fr hE ((hF.set _ rfl).set _ rfl) g2 hel⟩)))
      · rw [g2, g3] at q
        have heq : e = b := (nI_eq (by omega) (by omega)).mp q
        rw [if_pos heq] at h
        refine And.intro (cb_on rfl) (And.intro (fun q => absurd g4 q) (fun _ => And.intro trivial (h _ 0 ((hF.set _ rfl).set _ rfl) ⟨by decide, rfl, ?_, e, rd_E_fr hE ((hF.set _ rfl).set _ rfl) g2 hel⟩)))
        show cb_gI M' 1 0 2 = nI b
        rw [g2, heq]
    have loop : ∀ g i v M', len - i = g → i ≤ len → cb_fr fr_1 M M' → cb_gI M' 1 0 2 = nI i → cb_gI M' 1 0 3 = nI b → cb_gI M' 1 0 4 = 0 → cb_gI M' 1 0 5 = cb_gI M 1 0 5 → rd_end (rd_ds (cb_gI M 2 0)) len i = e → rd_dv (cb_gI M 2 0) g i v = w → cb_Gd cb_tb md_X6_readNumber X 29 [some (cb_r 1 0), some (cb_i (lo)), some (cb_i (hi)), some (cb_i (v)), some (cb_i (nI i))] [] (cb_aS n0, f) M' 0 0 := by
      intro g
      induction g with
      | zero =>
        intro i v M' hg hi' hF g2 g3 g4 g5 hz hv
        have hil : i = len := by omega
        have hie : i = e := by rw [← hz, rd_end_out (by omega)]
        refine cb_run cb_tb_ok vd_X6_readNumber (cuts := [29, 87]) 90 ?_
        refine cb_lout (n := len) (by rw [hil]) ((hF.1 1 0 1 rfl).trans hE.2.1) ?_
        have hv : v = w := hv
        rw [hv]
        exact fin _ M' hF (by rw [g2, hie]) g3 g4 g5
      | succ g ih =>
        intro i v M' hg hi' hF g2 g3 g4 g5 hz hv
        have hxi : vp_in (nI i) 600 := vp_in_nI (by omega) (by decide)
        have hxc : (nI i).toNatClampNeg = i := nI_clamp (by omega)
        have htx : cb_gI M' 2 0 i = cb_gI M 2 0 i := hF.1 2 0 i rfl
        refine cb_run cb_tb_ok vd_X6_readNumber (cuts := [29, 87]) 90 ?_
        refine cb_lin rfl ((hF.1 1 0 1 rfl).trans hE.2.1) (show i < len by omega) (by omega) (Exists.intro (some 0) (And.intro ((hF.ref 1 0 0).trans hE.1) (And.intro hxi (And.intro trivial (cb_ifz (fun q => ?_) (fun q => Exists.intro (some 0) (And.intro ((hF.ref 1 0 0).trans hE.1) (And.intro hxi (And.intro trivial ?_)))))))))
        · rw [hxc, htx] at q
          have hie : i = e := by rw [← hz, rd_end_out (fun z => by have := z.2; unfold rd_ds at this; rw [q] at this; cases this)]
          rw [rd_dv, if_neg (by rw [q]; decide)] at hv
          rw [hv]
          exact fin _ M' hF (by rw [g2, hie]) g3 g4 g5
        · rw [hxc, htx] at q
          rw [rd_dv, if_pos q] at hv
          show cb_Gd cb_tb md_X6_readNumber X 29 [some (cb_r 1 0), some (cb_i (lo)), some (cb_i (hi)), some (cb_i (wm_min 10000 (v * 10 + (cb_gI M' 2 0 (nI i).toNatClampNeg - 48)))), some (cb_i (nI i + 1))] [] (cb_aS n0, f) (cb_sI M' 1 0 2 (nI i + 1)) 0 0
          rw [hxc, htx, nI_1]
          refine ih (i + 1) _ _ (by omega) (by omega) (hF.set _ rfl) ?_ g3 g4 g5 ?_ hv
          · rw [cb_gI_sI, if_pos ⟨rfl, rfl, rfl⟩]
          · rw [← hz]
            exact (rd_end_in (by omega) q).symm
    show cb_Gd cb_tb md_X6_readNumber X 29 [some (cb_r 1 0), some (cb_i (lo)), some (cb_i (hi)), some (cb_i (0)), some (cb_i (cb_gI (cb_sI M1 1 0 3 (cb_gI M1 1 0 2)) 1 0 2))] [] (cb_aS n0, f) (cb_sI M1 1 0 3 (cb_gI M1 1 0 2)) 0 0
    rw [e4]
    have g2 : cb_gI (cb_sI M1 1 0 3 (nI b)) 1 0 2 = nI b := by rw [cb_gI_sI, if_neg (by decide)]; exact e4
    rw [g2]
    refine loop _ b 0 _ rfl e5 (hF1'.set _ rfl) g2 ?_ ?_ ?_ he.symm hw.symm
    · rw [cb_gI_sI, if_pos ⟨rfl, rfl, rfl⟩]
    · rw [cb_gI_sI, if_neg (by decide), hF1.1 1 0 4 rfl]
      exact q0
    · rw [cb_gI_sI, if_neg (by decide), hF1.1 1 0 5 rfl]
def rd_pc (M : cb_M) (len : Nat) (r : rd_X ⊕ Nat) (v : Bool) (M' : cb_M) : Prop := match r with
  | .inl (k, b) => v = false ∧ ¬ k = 0 ∧ cb_gI M' 1 0 4 = k ∧ cb_gI M' 1 0 5 = nI b ∧ ∃ a, rd_E M' len a
  | .inr e => v = true ∧ rd_E M' len e ∧ cb_gI M' 1 0 4 = 0 ∧ cb_gI M' 1 0 5 = cb_gI M 1 0 5
def sp_X6_endsClause : cb_Sp := fun _ r M K => match r with
  | [] => ∃ len at_, rd_E M len at_ ∧ (¬ cb_gI M 1 0 4 = 0 → K (some (cb_i (cb_z false))) M) ∧ (cb_gI M 1 0 4 = 0 → ∀ M' v, cb_fr fr_1 M M' → rd_pc M len (rd_close (cb_gI M 2 0) len at_) v M' → K (some (cb_i (cb_z v))) M')
  | _ => False
def pt_X6_endsClause : cb_PT := cb_m 1 0 sp_X6_endsClause
theorem rc_X6_endsClause : cb_rc cb_tb RX6 pt_X6_endsClause := cb_m_rc rfl rfl
def md_X6_endsClause : cb_D := (RX6, cX6_endsClause, 1, (some .boolean), (0, 0, 1, 22), [
  (0, .aload_n 0, 1, 0, 0, 0, 0),
  (1, .getfield 25, 3, 0, 6, 4, 43),
  (4, .ifCond .eq 5, 3, 0, 9, 0, 0),
  (7, .iconst 0, 1, 0, 0, 0, 0),
  (8, .ireturn, 1, 0, 0, 0, 0),
  (9, .aload_n 0, 1, 0, 0, 0, 0),
  (10, .invokevirtual 42, 3, 0, 0, 0, 0),
  (13, .aload_n 0, 1, 0, 0, 0, 0),
  (14, .getfield 19, 3, 0, 6, 2, 41),
  (17, .aload_n 0, 1, 0, 0, 0, 0),
  (18, .getfield 15, 3, 0, 6, 1, 40),
  (21, .if_icmp .ge 17, 3, 0, 38, 0, 0),
  (24, .aload_n 0, 1, 0, 0, 0, 0),
  (25, .getfield 9, 3, 0, 6, 0, 39),
  (28, .aload_n 0, 1, 0, 0, 0, 0),
  (29, .getfield 19, 3, 0, 6, 2, 41),
  (32, .baload, 1, 0, 0, 0, 0),
  (33, .bipush 59, 2, 59, 0, 0, 0),
  (35, .if_icmp .eq 14, 3, 0, 49, 0, 0),
  (38, .aload_n 0, 1, 0, 0, 0, 0),
  (39, .aload_n 0, 1, 0, 0, 0, 0),
  (40, .getfield 19, 3, 0, 6, 2, 41),
  (43, .iconst 1, 1, 1, 0, 0, 0),
  (44, .invokevirtual 56, 3, 0, 1, 0, 0),
  (47, .iconst 0, 1, 0, 0, 0, 0),
  (48, .ireturn, 1, 0, 0, 0, 0),
  (49, .aload_n 0, 1, 0, 0, 0, 0),
  (50, .dup, 1, 0, 0, 0, 0),
  (51, .getfield 19, 3, 0, 6, 2, 41),
  (54, .iconst 1, 1, 1, 0, 0, 0),
  (55, .iadd, 1, 0, 0, 0, 0),
  (56, .putfield 19, 3, 0, 6, 2, 41),
  (59, .iconst 1, 1, 1, 0, 0, 0),
  (60, .ireturn, 1, 0, 0, 0, 0)],
  [(0, 42, 1, 0, 0, pt_X6_skipBlanks), (0, 56, 3, 0, 0, pt_X6_failAt)], [])
set_option maxRecDepth 100000 in
theorem vd_X6_endsClause : md_X6_endsClause.cd.all (cb_vE md_X6_endsClause) = true := by decide +kernel
theorem wd_X6_endsClause : cb_wd yX6_endsClause md_X6_endsClause := ⟨cb_tw (i := 727) (by decide +kernel), cb_tw (i := 2) (by decide +kernel), by decide, by decide⟩
theorem cs_X6_endsClause : ∀ X, cb_Bs md_X6_endsClause X → ∀ g ∈ md_X6_endsClause.ga, cb_CS cb_tb md_X6_endsClause X g := fun X B => List.forall_mem_cons.mpr ⟨cb_csV B ok_X6_skipBlanks wd_X6_skipBlanks (cb_tw (i := 627) (by decide +kernel)) (cb_tw (i := 629) (by decide +kernel)) (cb_tp (i := 5) (by decide +kernel)) rc_X6_skipBlanks ⟨by decide, by decide⟩ (by decide +kernel), List.forall_mem_cons.mpr ⟨cb_csV B ok_X6_failAt wd_X6_failAt (cb_tw (i := 702) (by decide +kernel)) (cb_tw (i := 704) (by decide +kernel)) (cb_tp (i := 9) (by decide +kernel)) rc_X6_failAt ⟨by decide, by decide⟩ (by decide +kernel), fun _ h => nomatch h⟩⟩
theorem ok_X6_endsClause : cb_MOK cb_tb yX6_endsClause md_X6_endsClause pt_X6_endsClause := by
  refine cb_okm ⟨plainFor_of_name (by decide), rfl⟩ (by decide) cs_X6_endsClause (by decide) (fun X n0 f i r M hr ha h => ?_)
  have h0 := cb_a1 (T := 1) rfl ha
  subst h0
  match r, hr, h with
  | [], hr, h =>
    obtain ⟨len, at_, hE, hdead, h⟩ := h
    refine cb_run cb_tb_ok vd_X6_endsClause (cuts := [38]) 90 ?_
    refine And.intro (fun q0 => ?_) (fun q0 => And.intro cb_rt0 (hdead q0))
    have q0 : cb_gI M 1 0 4 = 0 := q0
    have h := h q0
    refine And.intro (cb_on rfl) ⟨len, at_, hE, fun M1 hF1 hE1 => ?_⟩
    obtain ⟨b, hb⟩ : ∃ b, b = rd_end (rd_bl (cb_gI M 2 0)) len at_ := ⟨_, rfl⟩
    unfold rd_close at h
    rw [← hb] at hE1 h
    obtain ⟨e1, e2, e3, e4, e5⟩ := id hE1
    have hF1' := hF1.mono fr_2_1
    have g4 : cb_gI M1 1 0 4 = 0 := (hF1.1 1 0 4 rfl).trans q0
    have fail : ¬ (b < len ∧ cb_gI M 2 0 b = 59) → cb_Gd cb_tb md_X6_endsClause X 38 [some (cb_r 1 0)] [] (cb_aS n0, f) M1 0 0 := by
      intro q
      rw [if_neg q] at h
      refine cb_run cb_tb_ok vd_X6_endsClause (cuts := [38]) 90 ?_
      exact And.intro (cb_on rfl) (And.intro (fun q => absurd g4 q) (fun _ => And.intro cb_rt0 (h _ false ((hF1'.set _ rfl).set _ rfl) ⟨rfl, by decide, rfl, e4, b, rd_E_fr hE ((hF1'.set _ rfl).set _ rfl) e4 e5⟩)))
    by_cases hbl : b < len
    · have hxi : vp_in (cb_gI M1 1 0 2) 600 := by rw [e4]; exact vp_in_nI (by omega) (by decide)
      have hxc : (cb_gI M1 1 0 2).toNatClampNeg = b := by rw [e4]; exact nI_clamp (by omega)
      refine cb_lin e4 e2 hbl (by omega) (Exists.intro (some 0) (And.intro e1 (And.intro hxi (And.intro (fun q => ?_) (fun q => ?_)))))
      · have q : cb_gI M1 2 0 (cb_gI M1 1 0 2).toNatClampNeg = 59 := q
        rw [hxc, hF1.1 2 0 b rfl] at q
        rw [if_pos ⟨hbl, q⟩] at h
        refine And.intro cb_rt1 (h _ true (hF1'.set _ rfl) ⟨rfl, rd_E_fr hE (hF1'.set _ rfl) ?_ hbl, ?_, ?_⟩)
        · rw [cb_gI_sI, if_pos ⟨rfl, rfl, rfl⟩, e4]
          exact nI_1 b
        · exact g4
        · exact hF1.1 1 0 5 rfl
      · have q : ¬ cb_gI M1 2 0 (cb_gI M1 1 0 2).toNatClampNeg = 59 := q
        rw [hxc, hF1.1 2 0 b rfl] at q
        exact fail (fun z => q z.2)
    · refine And.intro (fun _ => fail (fun z => hbl z.1)) (fun q => absurd (show cb_gI M1 1 0 1 ≤ cb_gI M1 1 0 2 by rw [e2, e4]; exact nI_le (by omega) (by omega)) q)
