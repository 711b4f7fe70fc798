/-! ===== the class: its methods, what is refused ===== -/
abbrev cb_Sw : Type := List cb_V → cb_M → (cb_Out → cb_M → Prop) → Prop
def cb_ae (o : cb_Out) (a : cb_A) : cb_A := match o with
  | .inl _ => a
  | .inr _ => (a.1, none)
/-- a method of the class that takes na values -/
def cb_wm (na : Nat) (sp : cb_Sw) : cb_PT := fun As a M K => match As with
  | .inr (.inr (some (t, i))) :: r => cb_ck (Nat.beq t 0) (cb_ck (Nat.beq r.length na) (cb_ck (cb_nl r) (((∃ n, a.1 = cb_aS n) ∧ a.1 0 i = true) ∧ sp r M fun o M' => K o (cb_ae o a) M')))
  | _ => False
theorem cb_wm_to {na : Nat} {sp : cb_Sw} {As : List cb_V} {a : cb_A} {M : cb_M} {K : cb_Out → cb_A → cb_M → Prop} (h : cb_wm na sp As a M K) : ∃ (r : List cb_V) (n : Nat) (f : Option Nat), As = cb_r 0 0 :: r ∧ r.length = na ∧ cb_nl r = true ∧ a = (cb_aS n, f) ∧ sp r M fun o M' => K o (cb_ae o (cb_aS n, f)) M' := by
  unfold cb_wm at h
  split at h
  · obtain ⟨g1, h⟩ := h.to
    obtain ⟨g2, h⟩ := h.to
    obtain ⟨g3, h⟩ := h.to
    obtain ⟨⟨⟨n, hn⟩, ha⟩, h9⟩ := h
    have e := Nat.eq_of_beq_eq_true g1
    subst e
    obtain ⟨a1, a2⟩ := a
    simp only [] at hn
    subst hn
    have := cb_a1 (n := n) (T := 0) rfl ha
    subst this
    exact ⟨_, n, a2, rfl, Nat.eq_of_beq_eq_true g2, g3, rfl, h9⟩
  · exact h.elim
theorem cb_wm_rc {na : Nat} {sp : cb_Sw} : cb_rc cb_tb RX9 (cb_wm na sp) := by
  intro As a M K h
  obtain ⟨r, n, f, rfl, -, -, rfl, -⟩ := cb_wm_to h
  exact ⟨0, 0, r, (RX9, TX9, 15), rfl, rfl, rfl, rfl, rfl⟩
theorem cb_okw {y : MethodName} {d : cb_D} {na : Nat} {sp : cb_Sw} (hy : plainFor y = true ∧ y.cls = d.own) (hnL : na + 1 ≤ d.nL) (hcs : ∀ X, cb_Bs d X → ∀ g ∈ d.ga, cb_CS cb_tb d X g)
    (hts : ∀ X, cb_Bs d X → (∀ x ∈ X.c.exceptionTable.toList, False) → X.meth.locks = false → X.Q = vx_MQ X.below (cb_Qc cb_tb X.G X.K) (cb_XC cb_tb X.G X.K) X.args X.s d.mc d.ms X.G.A → cb_Ts cb_tb d X)
    (hb : ∀ X n f r M, r.length = na → sp r M (fun o M' => X.K o (cb_ae o (cb_aS n, f)) M') → cb_Gd cb_tb d X 0 (cb_l0 (cb_r 0 0 :: r) d.nL) [] (cb_aS n, f) M 0 0) : cb_MOK cb_tb y d (cb_wm na sp) := by
  refine cb_of hy (fun As a M K h => ?_) hcs hts (fun X As a M h => ?_)
  · obtain ⟨r, n, f, rfl, h1, h2, -⟩ := cb_wm_to h
    rw [List.flatMap_cons, List.length_append, cb_nl_len h2, h1]
    show 1 + na ≤ d.nL
    omega
  · obtain ⟨r, n, f, rfl, h1, -, rfl, h9⟩ := cb_wm_to h
    exact hb X n f r M h1 h9
theorem cb_okw0 {y : MethodName} {d : cb_D} {na : Nat} {sp : cb_Sw} (hy : plainFor y = true ∧ y.cls = d.own) (hnL : na + 1 ≤ d.nL) (hcs : ∀ X, cb_Bs d X → ∀ g ∈ d.ga, cb_CS cb_tb d X g) (hT : cb_noT d = true)
    (hb : ∀ X n f r M, r.length = na → sp r M (fun o M' => X.K o (cb_ae o (cb_aS n, f)) M') → cb_Gd cb_tb d X 0 (cb_l0 (cb_r 0 0 :: r) d.nL) [] (cb_aS n, f) M 0 0) : cb_MOK cb_tb y d (cb_wm na sp) :=
  cb_okw hy hnL hcs (fun _ _ _ _ _ => cb_Ts0 hT) hb
/-- the throw sites are in order -/
def cb_tsk (d : cb_D) : Bool := d.cd.all fun o => match o.2.1 with
  | .new ik => match decode d.cc (o.1 + 4), decode d.cc (o.1 + 7) with
    | .ok (.ldc_w is, 3), .ok (.invokespecial ic, 3) => (decide (o.2.2.2.2.1 = 0 ∧ ik = 340 ∧ ic = 344) || decide (o.2.2.2.2.1 = 1 ∧ ik = 349 ∧ ic = 353)) && cb_str.any fun q => decide (q.1 = RX9 ∧ q.2.1 = is)
    | _, _ => false
  | _ => true
theorem cb_tsk_to {d : cb_D} (h : cb_tsk d = true) : ∀ (pc x j ik is ic : Nat), (pc, Instr.new ik, 3, (7 : Int32), x, j, 0) ∈ d.cd → decode d.cc (pc + 4) = .ok (.ldc_w is, 3) → decode d.cc (pc + 7) = .ok (.invokespecial ic, 3) → ((x = 0 ∧ ik = 340 ∧ ic = 344) ∨ (x = 1 ∧ ik = 349 ∧ ic = 353)) ∧ ∃ tx n, (RX9, is, tx, n) ∈ cb_str := by
  intro pc x j ik is ic hm h4 h7
  have := List.all_eq_true.mp h _ hm
  simp only [h4, h7, Bool.and_eq_true, Bool.or_eq_true, decide_eq_true_eq, List.any_eq_true] at this
  obtain ⟨h1, q, hq, e1, e2⟩ := this
  refine ⟨h1, q.2.2.1, q.2.2.2, ?_⟩
  obtain ⟨q1, q2, q3, q4⟩ := q
  simp only at e1 e2
  subst e1 e2
  exact hq
theorem cb_okw1 {y : MethodName} {d : cb_D} {na : Nat} {sp : cb_Sw} (hy : plainFor y = true ∧ y.cls = d.own) (hnL : na + 1 ≤ d.nL) (hcs : ∀ X, cb_Bs d X → ∀ g ∈ d.ga, cb_CS cb_tb d X g) (hT : d.own = RX9 ∧ 6 ≤ d.fr ∧ 100 ≤ d.lo ∧ cb_tsk d = true)
    (hb : ∀ X n f r M, r.length = na → sp r M (fun o M' => X.K o (cb_ae o (cb_aS n, f)) M') → cb_Gd cb_tb d X 0 (cb_l0 (cb_r 0 0 :: r) d.nL) [] (cb_aS n, f) M 0 0) : cb_MOK cb_tb y d (cb_wm na sp) :=
  cb_okw hy hnL hcs (fun X B hno hl hQ => cb_ts9 B hT.1 hno hl hQ hT.2.1 hT.2.2.1 (cb_tsk_to hT.2.2.2)) hb
/-! what is asked of a number -/
def wg_no (x : Int32) (n : Nat) : Prop := x < 0 ∨ nI n ≤ x
theorem wg_yes {x : Int32} {n : Nat} (hn : n < 2 ^ 31) (h : ¬ wg_no x n) : ∃ i, i < n ∧ x = nI i := by
  have h1 : 0 ≤ x := Int32.not_lt.mp (fun w => h (Or.inl w))
  have h2 : x < nI n := cb_nle_lt (fun w => h (Or.inr w))
  obtain ⟨j, hj, e, -⟩ := cb_idx (cb_inI h1 h2 hn) hn
  exact ⟨j, hj, e⟩
theorem wg_ok {i n : Nat} (h : i < n) (hn : n < 2 ^ 31) : ¬ wg_no (nI i) n := fun w => w.elim (nI_pos (by omega)) (nI_ge h hn)
/-- a number of a clock, or of a hook -/
def wg_c (n : Nat) (x : Int32) (X : Prop) (C : Nat → Prop) : Prop := (wg_no x n → X) ∧ ∀ i, i < n → x = nI i → C i
/-- a number within limits, from 0 up -/
def wg_r (lo hi : Nat) (x : Int32) (X : Prop) (C : Nat → Prop) : Prop := (x < nI lo ∨ nI hi < x → X) ∧ ∀ k, lo ≤ k → k ≤ hi → x = nI k → C k
/-- a number within limits -/
def wg_i (lo hi x : Int32) (X C : Prop) : Prop := (x < lo ∨ hi < x → X) ∧ (¬ (x < lo ∨ hi < x) → C)
theorem wg_r_yes {lo hi : Nat} {x : Int32} (hh : hi < 2 ^ 31) (h : ¬ (x < nI lo ∨ nI hi < x)) (hl : lo ≤ hi) : ∃ k, lo ≤ k ∧ k ≤ hi ∧ x = nI k := by
  have h1 : nI lo ≤ x := Int32.not_lt.mp (fun w => h (Or.inl w))
  have h2 : x ≤ nI hi := Int32.not_lt.mp (fun w => h (Or.inr w))
  have e1 := Int32.le_iff_toInt_le.mp h1
  have e2 := Int32.le_iff_toInt_le.mp h2
  rw [nI_toInt (by omega)] at e1
  rw [nI_toInt hh] at e2
  have h0 : ¬ x < 0 := fun w => by
    have := Int32.lt_iff_toInt_lt.mp w
    have e0 : (0 : Int32).toInt = 0 := by decide
    omega
  obtain ⟨j, hj, rfl⟩ := nI_of h0
  rw [nI_toInt hj] at e1 e2
  exact ⟨j, by omega, by omega, rfl⟩
theorem wg_r_i {lo hi : Nat} {x : Int32} {X : Prop} {C : Nat → Prop} {D : Prop} (hh : hi < 2 ^ 31) (hl : lo ≤ hi) (h : wg_r lo hi x X C) (hd : ∀ k, lo ≤ k → k ≤ hi → x = nI k → C k → D) : wg_i (nI lo) (nI hi) x X D :=
  ⟨h.1, fun w => by
    obtain ⟨k, h1, h2, h3⟩ := wg_r_yes hh w hl
    exact hd k h1 h2 h3 (h.2 k h1 h2 h3)⟩
def pt_X9_needWithin : cb_PT := fun As a M K => match As with
  | [.inl x, .inl lo, .inl hi] => wg_i lo hi x (K (.inr 1) (a.1, none) M) (K (.inl none) a M)
  | _ => False
theorem pt_nw_to {As : List cb_V} {a : cb_A} {M : cb_M} {K : cb_Out → cb_A → cb_M → Prop} (h : pt_X9_needWithin As a M K) : ∃ x lo hi, As = [cb_i x, cb_i lo, cb_i hi] ∧ wg_i lo hi x (K (.inr 1) (a.1, none) M) (K (.inl none) a M) := by
  unfold pt_X9_needWithin at h
  split at h
  · exact ⟨_, _, _, rfl, h⟩
  · exact h.elim
def md_X9_needWithin : cb_D := (RX9, cX9_needWithin, 3, none, (1, 6, 6, 100), [
  (0, .iload_n 0, 1, 0, 0, 0, 0),
  (1, .iload_n 1, 1, 0, 1, 0, 0),
  (2, .if_icmp .lt 8, 3, 0, 10, 0, 0),
  (5, .iload_n 0, 1, 0, 0, 0, 0),
  (6, .iload_n 2, 1, 0, 2, 0, 0),
  (7, .if_icmp .le 14, 3, 0, 21, 0, 0),
  (10, .new 349, 3, 7, 1, 0, 0),
  (21, .return_, 1, 0, 0, 0, 0)],
  [], [])
set_option maxRecDepth 100000 in
theorem vd_X9_needWithin : md_X9_needWithin.cd.all (cb_vE md_X9_needWithin) = true := by decide +kernel
theorem wd_X9_needWithin : cb_wd yX9_needWithin md_X9_needWithin := ⟨cb_tw (i := 550) (by decide +kernel), cb_tw (i := 1) (by decide +kernel), by decide, by decide⟩
theorem cs_X9_needWithin : ∀ X, cb_Bs md_X9_needWithin X → ∀ g ∈ md_X9_needWithin.ga, cb_CS cb_tb md_X9_needWithin X g := fun X B => fun _ h => nomatch h
theorem ok_X9_needWithin : cb_MOK cb_tb yX9_needWithin md_X9_needWithin pt_X9_needWithin := by
  refine cb_of ⟨plainFor_of_name (by decide), rfl⟩ (fun As a M K h => ?_) cs_X9_needWithin (fun X B hno hl hQ => cb_ts9 B rfl hno hl hQ (by decide) (by decide) (cb_tsk_to (by decide +kernel))) (fun X As a M h => ?_)
  · obtain ⟨x, lo, hi, rfl, -⟩ := pt_nw_to h
    show 3 ≤ 3
    decide
  · obtain ⟨x, lo, hi, rfl, h⟩ := pt_nw_to h
    refine cb_run cb_tb_ok vd_X9_needWithin (cuts := []) 90 ?_
    refine And.intro (fun q => h.1 (Or.inl q)) (fun q => And.intro (fun q2 => And.intro rfl (h.2 ?_)) (fun q2 => h.1 (Or.inr (Int32.not_le.mp q2))))
    rintro (w | w)
    · exact q w
    · exact cb_lt_nle w q2
def pt_X9_needDaysOn : cb_PT := fun As a M K => match As with
  | [.inl x] => wg_r 1 100 x (K (.inr 1) (a.1, none) M) (fun _ => K (.inl none) a M)
  | _ => False
theorem pt_nd_to {As : List cb_V} {a : cb_A} {M : cb_M} {K : cb_Out → cb_A → cb_M → Prop} (h : pt_X9_needDaysOn As a M K) : ∃ x, As = [cb_i x] ∧ wg_r 1 100 x (K (.inr 1) (a.1, none) M) (fun _ => K (.inl none) a M) := by
  unfold pt_X9_needDaysOn at h
  split at h
  · exact ⟨_, rfl, h⟩
  · exact h.elim
def md_X9_needDaysOn : cb_D := (RX9, cX9_needDaysOn, 1, none, (1, 6, 7, 122), [
  (0, .iload_n 0, 1, 0, 0, 0, 0),
  (1, .iconst 1, 1, 1, 0, 0, 0),
  (2, .bipush 100, 2, 100, 0, 0, 0),
  (4, .invokestatic 101, 3, 0, 0, 0, 0),
  (7, .return_, 1, 0, 0, 0, 0)],
  [(1, 101, 3, 1, 6, pt_X9_needWithin)], [])
set_option maxRecDepth 100000 in
theorem vd_X9_needDaysOn : md_X9_needDaysOn.cd.all (cb_vE md_X9_needDaysOn) = true := by decide +kernel
theorem wd_X9_needDaysOn : cb_wd yX9_needDaysOn md_X9_needDaysOn := ⟨cb_tw (i := 939) (by decide +kernel), cb_tw (i := 1) (by decide +kernel), by decide, by decide⟩
theorem cs_X9_needDaysOn : ∀ X, cb_Bs md_X9_needDaysOn X → ∀ g ∈ md_X9_needDaysOn.ga, cb_CS cb_tb md_X9_needDaysOn X g := fun X B => List.forall_mem_cons.mpr ⟨cb_csS B ok_X9_needWithin wd_X9_needWithin (cb_tw (i := 548) (by decide +kernel)) (cb_tw (i := 549) (by decide +kernel)) ⟨by decide, by decide⟩ (by decide +kernel), fun _ h => nomatch h⟩
theorem ok_X9_needDaysOn : cb_MOK cb_tb yX9_needDaysOn md_X9_needDaysOn pt_X9_needDaysOn := by
  refine cb_of ⟨plainFor_of_name (by decide), rfl⟩ (fun As a M K h => ?_) cs_X9_needDaysOn (fun _ _ _ _ _ => cb_Ts0 (by decide)) (fun X As a M h => ?_)
  · obtain ⟨x, rfl, -⟩ := pt_nd_to h
    show 1 ≤ 1
    decide
  · obtain ⟨x, rfl, h⟩ := pt_nd_to h
    refine cb_run cb_tb_ok vd_X9_needDaysOn (cuts := []) 90 ?_
    exact wg_r_i (lo := 1) (hi := 100) (by decide) (by decide) h (fun k _ _ _ hc => And.intro rfl hc)
def wg_B (M : cb_M) (P n : Nat) : Prop := cb_gR M 0 0 4 = some P ∧ P < 2 ∧ cb_gI M 3 P 1 = nI n ∧ n ≤ 8
def sp_X9_needClock : cb_Sw := fun r M K => match r with
  | [.inl x] => ∃ P n, wg_B M P n ∧ wg_c n x (K (.inr 0) M) (fun _ => K (.inl none) M)
  | _ => False
def pt_X9_needClock : cb_PT := cb_wm 1 sp_X9_needClock
theorem rc_X9_needClock : cb_rc cb_tb RX9 pt_X9_needClock := cb_wm_rc
def md_X9_needClock : cb_D := (RX9, cX9_needClock, 2, none, (1, 6, 6, 100), [
  (0, .iload_n 1, 1, 0, 1, 0, 0),
  (1, .ifCond .lt 14, 3, 0, 15, 0, 0),
  (4, .iload_n 1, 1, 0, 1, 0, 0),
  (5, .aload_n 0, 1, 0, 0, 0, 0),
  (6, .getfield 30, 3, 0, 9, 4, 362),
  (9, .getfield 114, 3, 0, 4, 1, 72),
  (12, .if_icmp .lt 14, 3, 0, 26, 0, 0),
  (15, .new 340, 3, 7, 0, 0, 0),
  (26, .return_, 1, 0, 0, 0, 0)],
  [], [])
set_option maxRecDepth 100000 in
theorem vd_X9_needClock : md_X9_needClock.cd.all (cb_vE md_X9_needClock) = true := by decide +kernel
theorem wd_X9_needClock : cb_wd yX9_needClock md_X9_needClock := ⟨cb_tw (i := 788) (by decide +kernel), cb_tw (i := 1) (by decide +kernel), by decide, by decide⟩
theorem cs_X9_needClock : ∀ X, cb_Bs md_X9_needClock X → ∀ g ∈ md_X9_needClock.ga, cb_CS cb_tb md_X9_needClock X g := fun X B => fun _ h => nomatch h
theorem ok_X9_needClock : cb_MOK cb_tb yX9_needClock md_X9_needClock pt_X9_needClock := by
  refine cb_okw1 ⟨plainFor_of_name (by decide), rfl⟩ (by decide) cs_X9_needClock ⟨rfl, by decide, by decide, by decide +kernel⟩ (fun X n0 f r M hr h => ?_)
  match r, hr, h with
  | [.inl x], hr, h =>
    obtain ⟨P, n, ⟨hP, hP2, hn, hn8⟩, h⟩ := h
    refine cb_run cb_tb_ok vd_X9_needClock (cuts := []) 90 ?_
    refine And.intro (fun q => h.1 (Or.inl q)) (fun q => Exists.intro (some P) (And.intro hP (cb_av.of (cb_aPP hP2 rfl) (And.intro (fun q2 => ?_) (fun q2 => ?_)))))
    · have q2 : x < cb_gI M 3 P 1 := q2
      rw [hn] at q2
      obtain ⟨i, hi, e⟩ := wg_yes (by omega) (x := x) (n := n) (fun w => w.elim q (fun v => cb_lt_nle q2 v))
      exact And.intro rfl (h.2 i hi e)
    · have q2 : ¬ x < cb_gI M 3 P 1 := q2
      rw [hn] at q2
      exact h.1 (Or.inr (Int32.not_lt.mp q2))
def sp_X9_needHook : cb_Sw := fun r M K => match r with
  | [.inl x] => ∃ P hk, (cb_gR M 0 0 4 = some P ∧ P < 2 ∧ cb_gI M 3 P 2 = nI hk ∧ hk ≤ 6) ∧ wg_c hk x (K (.inr 0) M) (fun _ => K (.inl none) M)
  | _ => False
def pt_X9_needHook : cb_PT := cb_wm 1 sp_X9_needHook
theorem rc_X9_needHook : cb_rc cb_tb RX9 pt_X9_needHook := cb_wm_rc
def md_X9_needHook : cb_D := (RX9, cX9_needHook, 2, none, (1, 6, 6, 100), [
  (0, .iload_n 1, 1, 0, 1, 0, 0),
  (1, .ifCond .lt 14, 3, 0, 15, 0, 0),
  (4, .iload_n 1, 1, 0, 1, 0, 0),
  (5, .aload_n 0, 1, 0, 0, 0, 0),
  (6, .getfield 30, 3, 0, 9, 4, 362),
  (9, .getfield 120, 3, 0, 4, 2, 77),
  (12, .if_icmp .lt 14, 3, 0, 26, 0, 0),
  (15, .new 340, 3, 7, 0, 0, 0),
  (26, .return_, 1, 0, 0, 0, 0)],
  [], [])
set_option maxRecDepth 100000 in
theorem vd_X9_needHook : md_X9_needHook.cd.all (cb_vE md_X9_needHook) = true := by decide +kernel
theorem wd_X9_needHook : cb_wd yX9_needHook md_X9_needHook := ⟨cb_tw (i := 950) (by decide +kernel), cb_tw (i := 1) (by decide +kernel), by decide, by decide⟩
theorem cs_X9_needHook : ∀ X, cb_Bs md_X9_needHook X → ∀ g ∈ md_X9_needHook.ga, cb_CS cb_tb md_X9_needHook X g := fun X B => fun _ h => nomatch h
theorem ok_X9_needHook : cb_MOK cb_tb yX9_needHook md_X9_needHook pt_X9_needHook := by
  refine cb_okw1 ⟨plainFor_of_name (by decide), rfl⟩ (by decide) cs_X9_needHook ⟨rfl, by decide, by decide, by decide +kernel⟩ (fun X n0 f r M hr h => ?_)
  match r, hr, h with
  | [.inl x], hr, h =>
    obtain ⟨P, n, ⟨hP, hP2, hn, hn8⟩, h⟩ := h
    refine cb_run cb_tb_ok vd_X9_needHook (cuts := []) 90 ?_
    refine And.intro (fun q => h.1 (Or.inl q)) (fun q => Exists.intro (some P) (And.intro hP (cb_av.of (cb_aPP hP2 rfl) (And.intro (fun q2 => ?_) (fun q2 => ?_)))))
    · have q2 : x < cb_gI M 3 P 2 := q2
      rw [hn] at q2
      obtain ⟨i, hi, e⟩ := wg_yes (by omega) (x := x) (n := n) (fun w => w.elim q (fun v => cb_lt_nle q2 v))
      exact And.intro rfl (h.2 i hi e)
    · have q2 : ¬ x < cb_gI M 3 P 2 := q2
      rw [hn] at q2
      exact h.1 (Or.inr (Int32.not_lt.mp q2))
/-- two clocks that aren't one -/
def wg_p (n : Nat) (x y : Int32) (X0 X1 : Prop) (C : Nat → Nat → Prop) : Prop := wg_c n x X0 fun i => wg_c n y X0 fun j => (i = j → X1) ∧ (¬ i = j → C i j)
def sp_X9_needPair : cb_Sw := fun r M K => match r with
  | [.inl x, .inl y] => ∃ P n, wg_B M P n ∧ wg_p n x y (K (.inr 0) M) (K (.inr 1) M) (fun _ _ => K (.inl none) M)
  | _ => False
def pt_X9_needPair : cb_PT := cb_wm 2 sp_X9_needPair
theorem rc_X9_needPair : cb_rc cb_tb RX9 pt_X9_needPair := cb_wm_rc
def md_X9_needPair : cb_D := (RX9, cX9_needPair, 3, none, (3, 18, 7, 121), [
  (0, .aload_n 0, 1, 0, 0, 0, 0),
  (1, .iload_n 1, 1, 0, 1, 0, 0),
  (2, .invokevirtual 132, 3, 0, 0, 0, 0),
  (5, .aload_n 0, 1, 0, 0, 0, 0),
  (6, .iload_n 2, 1, 0, 2, 0, 0),
  (7, .invokevirtual 132, 3, 0, 0, 0, 0),
  (10, .iload_n 1, 1, 0, 1, 0, 0),
  (11, .iload_n 2, 1, 0, 2, 0, 0),
  (12, .if_icmp .ne 14, 3, 0, 26, 0, 0),
  (15, .new 349, 3, 7, 1, 0, 0),
  (26, .return_, 1, 0, 0, 0, 0)],
  [(0, 132, 2, 1, 6, pt_X9_needClock)], [])
set_option maxRecDepth 100000 in
theorem vd_X9_needPair : md_X9_needPair.cd.all (cb_vE md_X9_needPair) = true := by decide +kernel
theorem wd_X9_needPair : cb_wd yX9_needPair md_X9_needPair := ⟨cb_tw (i := 834) (by decide +kernel), cb_tw (i := 1) (by decide +kernel), by decide, by decide⟩
theorem cs_X9_needPair : ∀ X, cb_Bs md_X9_needPair X → ∀ g ∈ md_X9_needPair.ga, cb_CS cb_tb md_X9_needPair X g := fun X B => List.forall_mem_cons.mpr ⟨cb_csV B ok_X9_needClock wd_X9_needClock (cb_tw (i := 785) (by decide +kernel)) (cb_tw (i := 787) (by decide +kernel)) (cb_tp (i := 22) (by decide +kernel)) rc_X9_needClock ⟨by decide, by decide⟩ (by decide +kernel), fun _ h => nomatch h⟩
theorem ok_X9_needPair : cb_MOK cb_tb yX9_needPair md_X9_needPair pt_X9_needPair := by
  refine cb_okw1 ⟨plainFor_of_name (by decide), rfl⟩ (by decide) cs_X9_needPair ⟨rfl, by decide, by decide, by decide +kernel⟩ (fun X n0 f r M hr h => ?_)
  match r, hr, h with
  | [.inl x, .inl y], hr, h =>
    obtain ⟨P, n, hB, h⟩ := h
    have hn8 := hB.2.2.2
    refine cb_run cb_tb_ok vd_X9_needPair (cuts := []) 90 ?_
    refine And.intro (cb_on rfl) ⟨P, n, hB, And.intro h.1 (fun i hi hx => And.intro (cb_on rfl) ⟨P, n, hB, And.intro (h.2 i hi hx).1 (fun j hj hy => ?_)⟩)⟩
    have h := (h.2 i hi hx).2 j hj hy
    have e : x = y ↔ i = j := by
      rw [hx, hy]
      exact nI_eq (by omega) (by omega)
    exact And.intro (fun q => And.intro rfl (h.2 (fun w => q (e.mpr w)))) (fun q => h.1 (e.mp (Classical.not_not.mp q)))
def sp_X9_asTheyHang : cb_Sw := fun r M K => match r with
  | [] => ∃ P n, (cb_gR M 0 0 4 = some P ∧ wk_S M P n) ∧ ∀ M' m, wk_K M P n m M' → K (.inl (some (cb_r 25 0))) M'
  | _ => False
def pt_X9_asTheyHang : cb_PT := cb_wm 0 sp_X9_asTheyHang
theorem rc_X9_asTheyHang : cb_rc cb_tb RX9 pt_X9_asTheyHang := cb_wm_rc
def md_X9_asTheyHang : cb_D := (RX9, cX9_asTheyHang, 1, (some (.object "WallClocks$Trial")), (0, 0, 5, 115), [
  (0, .aload_n 0, 1, 0, 0, 0, 0),
  (1, .getfield 56, 3, 0, 9, 9, 367),
  (4, .aload_n 0, 1, 0, 0, 0, 0),
  (5, .getfield 30, 3, 0, 9, 4, 362),
  (8, .aload_n 0, 1, 0, 0, 0, 0),
  (9, .getfield 40, 3, 0, 9, 6, 364),
  (12, .invokevirtual 337, 3, 0, 0, 0, 0),
  (15, .aload_n 0, 1, 0, 0, 0, 0),
  (16, .getfield 56, 3, 0, 9, 9, 367),
  (19, .areturn, 1, 0, 0, 0, 0)],
  [(0, 337, 3, 0, 0, pt_X7_take)], [])
set_option maxRecDepth 100000 in
theorem vd_X9_asTheyHang : md_X9_asTheyHang.cd.all (cb_vE md_X9_asTheyHang) = true := by decide +kernel
theorem wd_X9_asTheyHang : cb_wd yX9_asTheyHang md_X9_asTheyHang := ⟨cb_tw (i := 423) (by decide +kernel), cb_tw (i := 1) (by decide +kernel), by decide, by decide⟩
theorem cs_X9_asTheyHang : ∀ X, cb_Bs md_X9_asTheyHang X → ∀ g ∈ md_X9_asTheyHang.ga, cb_CS cb_tb md_X9_asTheyHang X g := fun X B => List.forall_mem_cons.mpr ⟨cb_csV B ok_X7_take wd_X7_take (cb_tw (i := 424) (by decide +kernel)) (cb_tw (i := 425) (by decide +kernel)) (cb_tw (i := 426) (by decide +kernel)) rc_X7_take ⟨by decide, by decide⟩ (by decide +kernel), fun _ h => nomatch h⟩
theorem ok_X9_asTheyHang : cb_MOK cb_tb yX9_asTheyHang md_X9_asTheyHang pt_X9_asTheyHang := by
  refine cb_okw0 ⟨plainFor_of_name (by decide), rfl⟩ (by decide) cs_X9_asTheyHang (by decide) (fun X n0 f r M hr h => ?_)
  match r, hr, h with
  | [], hr, h =>
    obtain ⟨P, n, ⟨hP, hS⟩, h⟩ := h
    refine cb_run cb_tb_ok vd_X9_asTheyHang (cuts := []) 90 ?_
    exact Exists.intro (some P) (And.intro hP (And.intro (cb_on rfl) ⟨n, ⟨rfl, hS⟩, fun M1 m hK => And.intro (Or.inl ⟨_, rfl⟩) (h M1 m hK)⟩))
theorem wa_B {M : cb_M} {P n h nb : Nat} (hI : wa_I M P n h nb) : wg_B M P n := ⟨hI.1, hI.2.1.1, hI.2.1.2.1, hI.2.1.2.2.1⟩
/-! the simple questions -/
def vq_told (V : wV) (what : Nat) : Int32 := if what = 0 then nI V.nb else if what = 1 then nI V.n else if what = 2 then nI V.h else if what = 3 then V.s.1 else if what = 4 then V.w else V.so
def sp_X9_told : cb_Sw := fun r M K => match r with
  | [.inl x] => ∃ P n h nb, wa_I M P n h nb ∧ wg_r 0 5 x (K (.inr 1) M) fun k => K (.inl (some (cb_i (vq_told (va M P n h nb) k)))) M
  | _ => False
def pt_X9_told : cb_PT := cb_wm 1 sp_X9_told
theorem rc_X9_told : cb_rc cb_tb RX9 pt_X9_told := cb_wm_rc
def md_X9_told : cb_D := (RX9, cX9_told, 2, (some .int), (1, 6, 7, 122), [
  (0, .iload_n 1, 1, 0, 1, 0, 0),
  (1, .iconst 0, 1, 0, 0, 0, 0),
  (2, .iconst 5, 1, 5, 0, 0, 0),
  (3, .invokestatic 101, 3, 0, 0, 0, 0),
  (6, .iload_n 1, 1, 0, 1, 0, 0),
  (7, .tableswitch 73 0 4 #[33, 41, 49, 57, 65], 33, 0, 0, 0, 0),
  (40, .aload_n 0, 1, 0, 0, 0, 0),
  (41, .getfield 30, 3, 0, 9, 4, 362),
  (44, .getfield 117, 3, 0, 4, 0, 68),
  (47, .ireturn, 1, 0, 0, 0, 0),
  (48, .aload_n 0, 1, 0, 0, 0, 0),
  (49, .getfield 30, 3, 0, 9, 4, 362),
  (52, .getfield 114, 3, 0, 4, 1, 72),
  (55, .ireturn, 1, 0, 0, 0, 0),
  (56, .aload_n 0, 1, 0, 0, 0, 0),
  (57, .getfield 30, 3, 0, 9, 4, 362),
  (60, .getfield 120, 3, 0, 4, 2, 77),
  (63, .ireturn, 1, 0, 0, 0, 0),
  (64, .aload_n 0, 1, 0, 0, 0, 0),
  (65, .getfield 40, 3, 0, 9, 6, 364),
  (68, .getfield 123, 3, 0, 3, 0, 170),
  (71, .ireturn, 1, 0, 0, 0, 0),
  (72, .aload_n 0, 1, 0, 0, 0, 0),
  (73, .getfield 30, 3, 0, 9, 4, 362),
  (76, .getfield 126, 3, 0, 4, 4, 83),
  (79, .ireturn, 1, 0, 0, 0, 0),
  (80, .aload_n 0, 1, 0, 0, 0, 0),
  (81, .getfield 30, 3, 0, 9, 4, 362),
  (84, .getfield 129, 3, 0, 4, 3, 80),
  (87, .ireturn, 1, 0, 0, 0, 0)],
  [(1, 101, 3, 1, 6, pt_X9_needWithin)], [(7, [(0, 40), (1, 48), (2, 56), (3, 64), (4, 72)], 80)])
set_option maxRecDepth 100000 in
theorem vd_X9_told : md_X9_told.cd.all (cb_vE md_X9_told) = true := by decide +kernel
theorem wd_X9_told : cb_wd yX9_told md_X9_told := ⟨cb_tw (i := 776) (by decide +kernel), cb_tw (i := 1) (by decide +kernel), by decide, by decide⟩
theorem cs_X9_told : ∀ X, cb_Bs md_X9_told X → ∀ g ∈ md_X9_told.ga, cb_CS cb_tb md_X9_told X g := fun X B => List.forall_mem_cons.mpr ⟨cb_csS B ok_X9_needWithin wd_X9_needWithin (cb_tw (i := 548) (by decide +kernel)) (cb_tw (i := 549) (by decide +kernel)) ⟨by decide, by decide⟩ (by decide +kernel), fun _ h => nomatch h⟩
theorem ok_X9_told : cb_MOK cb_tb yX9_told md_X9_told pt_X9_told := by
  refine cb_okw0 ⟨plainFor_of_name (by decide), rfl⟩ (by decide) cs_X9_told (by decide) (fun X n0 f r M hr h => ?_)
  match r, hr, h with
  | [.inl x], hr, h =>
    obtain ⟨P, n, hh, nb, hI, h⟩ := h
    obtain ⟨hP, hS, hH, -⟩ := id hI
    refine cb_run cb_tb_ok vd_X9_told (cuts := []) 90 ?_
    refine wg_r_i (lo := 0) (hi := 5) (by decide) (by decide) h (fun k h0 h5 hx hc => ?_)
    have hk : ∀ j, j < 10 → x = nI j → k = j := fun j hj e => (nI_eq (by omega) (by omega)).mp (hx.symm.trans e)
    refine And.intro (fun q => ?_) (fun q0 => And.intro (fun q => ?_) (fun q1 => And.intro (fun q => ?_) (fun q2 => And.intro (fun q => ?_) (fun q3 => And.intro (fun q => ?_) (fun q4 => ?_)))))
    · have e := hk 0 (by omega) q
      subst e
      exact Exists.intro (some P) (And.intro hP (cb_av.of (cb_aPP hS.1 rfl) (And.intro trivial (cb_eqK hc hH.2.2.1))))
    · have e := hk 1 (by omega) q
      subst e
      exact Exists.intro (some P) (And.intro hP (cb_av.of (cb_aPP hS.1 rfl) (And.intro trivial (cb_eqK hc hS.2.1))))
    · have e := hk 2 (by omega) q
      subst e
      exact Exists.intro (some P) (And.intro hP (cb_av.of (cb_aPP hS.1 rfl) (And.intro trivial (cb_eqK hc hH.1))))
    · have e := hk 3 (by omega) q
      subst e
      exact And.intro trivial (cb_eqK hc rfl)
    · have e := hk 4 (by omega) q
      subst e
      exact Exists.intro (some P) (And.intro hP (cb_av.of (cb_aPP hS.1 rfl) (And.intro trivial (cb_eqK hc rfl))))
    · have e : k = 5 := by
        have a0 : ¬ k = 0 := fun w => q0 (by rw [hx, w]; rfl)
        have a1 : ¬ k = 1 := fun w => q1 (by rw [hx, w]; rfl)
        have a2 : ¬ k = 2 := fun w => q2 (by rw [hx, w]; rfl)
        have a3 : ¬ k = 3 := fun w => q3 (by rw [hx, w]; rfl)
        have a4 : ¬ k = 4 := fun w => q4 (by rw [hx, w]; rfl)
        omega
      subst e
      exact Exists.intro (some P) (And.intro hP (cb_av.of (cb_aPP hS.1 rfl) (And.intro trivial (cb_eqK hc rfl))))
def vq_clock (V : wV) (i what : Nat) : Int32 := if what = 0 then V.bd i else if what = 1 then V.pl i else if what = 2 then V.rt i else if what = 3 then V.wt i else if what = 4 then V.kd i else if what = 5 then V.s.2.1 i else if what = 6 then V.s.2.2 i else if what = 7 then cb_z (decide (V.ky i ≤ 8 ∨ cb_rem V.s.1 (V.ky i) < 8)) else cb_z (wn_stp (vc V) (wu_all V.n) V.s.1 V.s.2.1 i)
def sp_X9_clock : cb_Sw := fun r M K => match r with
  | [.inl x, .inl y] => ∃ P n h nb, wa_I M P n h nb ∧ wg_c n x (K (.inr 0) M) fun i => wg_r 0 8 y (K (.inr 1) M) fun k => ∀ M', cb_fx fr_Z M M' → K (.inl (some (cb_i (vq_clock (va M P n h nb) i k)))) M'
  | _ => False
theorem wt_stp_b {M : cb_M} {P n i : Nat} (hn : n ≤ 8) (hi : i < n) (hb : wk_bm M n) : cb_bit (wk_st M P (wk_ro M P n) n) i = wn_stp (wt_c M P n) (wt_u M n) (wt_s M n).1 (wt_s M n).2.1 i := by
  rw [wk_st_stp hn hi hb, wt_stp hi]
  rfl
def pt_X9_clock : cb_PT := cb_wm 2 sp_X9_clock
theorem rc_X9_clock : cb_rc cb_tb RX9 pt_X9_clock := cb_wm_rc
def md_X9_clock : cb_D := (RX9, cX9_clock, 3, (some .int), (2, 12, 7, 135), [
  (0, .aload_n 0, 1, 0, 0, 0, 0),
  (1, .iload_n 1, 1, 0, 1, 0, 0),
  (2, .invokevirtual 132, 3, 0, 0, 0, 0),
  (5, .iload_n 2, 1, 0, 2, 0, 0),
  (6, .iconst 0, 1, 0, 0, 0, 0),
  (7, .bipush 8, 2, 8, 0, 0, 0),
  (9, .invokestatic 101, 3, 0, 1, 0, 0),
  (12, .iload_n 2, 1, 0, 2, 0, 0),
  (13, .tableswitch 144 0 7 #[47, 57, 67, 77, 87, 97, 110, 120], 47, 0, 0, 0, 0),
  (60, .aload_n 0, 1, 0, 0, 0, 0),
  (61, .getfield 40, 3, 0, 9, 6, 364),
  (64, .getfield 135, 3, 0, 3, 2, 178),
  (67, .iload_n 1, 1, 0, 1, 0, 0),
  (68, .iaload, 1, 0, 0, 0, 0),
  (69, .ireturn, 1, 0, 0, 0, 0),
  (70, .aload_n 0, 1, 0, 0, 0, 0),
  (71, .getfield 40, 3, 0, 9, 6, 364),
  (74, .getfield 139, 3, 0, 3, 3, 182),
  (77, .iload_n 1, 1, 0, 1, 0, 0),
  (78, .iaload, 1, 0, 0, 0, 0),
  (79, .ireturn, 1, 0, 0, 0, 0),
  (80, .aload_n 0, 1, 0, 0, 0, 0),
  (81, .getfield 30, 3, 0, 9, 4, 362),
  (84, .getfield 142, 3, 0, 4, 8, 97),
  (87, .iload_n 1, 1, 0, 1, 0, 0),
  (88, .iaload, 1, 0, 0, 0, 0),
  (89, .ireturn, 1, 0, 0, 0, 0),
  (90, .aload_n 0, 1, 0, 0, 0, 0),
  (91, .getfield 30, 3, 0, 9, 4, 362),
  (94, .getfield 145, 3, 0, 4, 9, 101),
  (97, .iload_n 1, 1, 0, 1, 0, 0),
  (98, .iaload, 1, 0, 0, 0, 0),
  (99, .ireturn, 1, 0, 0, 0, 0),
  (100, .aload_n 0, 1, 0, 0, 0, 0),
  (101, .getfield 30, 3, 0, 9, 4, 362),
  (104, .getfield 148, 3, 0, 4, 10, 107),
  (107, .iload_n 1, 1, 0, 1, 0, 0),
  (108, .iaload, 1, 0, 0, 0, 0),
  (109, .ireturn, 1, 0, 0, 0, 0),
  (110, .aload_n 0, 1, 0, 0, 0, 0),
  (111, .getfield 40, 3, 0, 9, 6, 364),
  (114, .aload_n 0, 1, 0, 0, 0, 0),
  (115, .getfield 30, 3, 0, 9, 4, 362),
  (118, .iload_n 1, 1, 0, 1, 0, 0),
  (119, .invokevirtual 151, 3, 0, 2, 0, 0),
  (122, .ireturn, 1, 0, 0, 0, 0),
  (123, .aload_n 0, 1, 0, 0, 0, 0),
  (124, .getfield 40, 3, 0, 9, 6, 364),
  (127, .getfield 155, 3, 0, 3, 1, 174),
  (130, .iload_n 1, 1, 0, 1, 0, 0),
  (131, .iaload, 1, 0, 0, 0, 0),
  (132, .ireturn, 1, 0, 0, 0, 0),
  (133, .aload_n 0, 1, 0, 0, 0, 0),
  (134, .getfield 30, 3, 0, 9, 4, 362),
  (137, .iload_n 1, 1, 0, 1, 0, 0),
  (138, .aload_n 0, 1, 0, 0, 0, 0),
  (139, .getfield 40, 3, 0, 9, 6, 364),
  (142, .getfield 123, 3, 0, 3, 0, 170),
  (145, .invokevirtual 158, 3, 0, 3, 0, 0),
  (148, .ifCond .eq 7, 3, 0, 155, 0, 0),
  (151, .iconst 1, 1, 1, 0, 0, 0),
  (152, .goto 4, 3, 0, 156, 0, 0),
  (155, .iconst 0, 1, 0, 0, 0, 0),
  (156, .ireturn, 1, 0, 0, 0, 0),
  (157, .aload_n 0, 1, 0, 0, 0, 0),
  (158, .invokevirtual 162, 3, 0, 4, 0, 0),
  (161, .invokevirtual 166, 3, 0, 5, 0, 0),
  (164, .iload_n 1, 1, 0, 1, 0, 0),
  (165, .invokestatic 170, 3, 0, 6, 0, 0),
  (168, .ireturn, 1, 0, 0, 0, 0)],
  [(0, 132, 2, 1, 6, pt_X9_needClock), (1, 101, 3, 1, 6, pt_X9_needWithin), (0, 151, 3, 0, 0, pt_X3_phaseOf), (0, 158, 3, 0, 0, pt_X4_runsOn), (0, 162, 1, 0, 0, pt_X9_asTheyHang), (0, 166, 1, 0, 0, pt_X7_stoppedOnes), (1, 170, 2, 0, 0, pt_X9_bitOf)], [(13, [(0, 60), (1, 70), (2, 80), (3, 90), (4, 100), (5, 110), (6, 123), (7, 133)], 157)])
set_option maxRecDepth 100000 in
theorem vd_X9_clock : md_X9_clock.cd.all (cb_vE md_X9_clock) = true := by decide +kernel
theorem wd_X9_clock : cb_wd yX9_clock md_X9_clock := ⟨cb_tw (i := 784) (by decide +kernel), cb_tw (i := 1) (by decide +kernel), by decide, by decide⟩
theorem cs_X9_clock : ∀ X, cb_Bs md_X9_clock X → ∀ g ∈ md_X9_clock.ga, cb_CS cb_tb md_X9_clock X g := fun X B => List.forall_mem_cons.mpr ⟨cb_csV B ok_X9_needClock wd_X9_needClock (cb_tw (i := 785) (by decide +kernel)) (cb_tw (i := 787) (by decide +kernel)) (cb_tp (i := 22) (by decide +kernel)) rc_X9_needClock ⟨by decide, by decide⟩ (by decide +kernel), List.forall_mem_cons.mpr ⟨cb_csS B ok_X9_needWithin wd_X9_needWithin (cb_tw (i := 548) (by decide +kernel)) (cb_tw (i := 549) (by decide +kernel)) ⟨by decide, by decide⟩ (by decide +kernel), List.forall_mem_cons.mpr ⟨cb_csV B ok_X3_phaseOf wd_X3_phaseOf (cb_tw (i := 805) (by decide +kernel)) (cb_tw (i := 458) (by decide +kernel)) (cb_tw (i := 459) (by decide +kernel)) rc_X3_phaseOf ⟨by decide, by decide⟩ (by decide +kernel), List.forall_mem_cons.mpr ⟨cb_csV B ok_X4_runsOn wd_X4_runsOn (cb_tw (i := 806) (by decide +kernel)) (cb_tw (i := 807) (by decide +kernel)) (cb_tw (i := 808) (by decide +kernel)) rc_X4_runsOn ⟨by decide, by decide⟩ (by decide +kernel), List.forall_mem_cons.mpr ⟨cb_csV B ok_X9_asTheyHang wd_X9_asTheyHang (cb_tw (i := 420) (by decide +kernel)) (cb_tw (i := 422) (by decide +kernel)) (cb_tp (i := 1) (by decide +kernel)) rc_X9_asTheyHang ⟨by decide, by decide⟩ (by decide +kernel), List.forall_mem_cons.mpr ⟨cb_csV B ok_X7_stoppedOnes wd_X7_stoppedOnes (cb_tw (i := 810) (by decide +kernel)) (cb_tw (i := 811) (by decide +kernel)) (cb_tw (i := 812) (by decide +kernel)) rc_X7_stoppedOnes ⟨by decide, by decide⟩ (by decide +kernel), List.forall_mem_cons.mpr ⟨cb_csS B ok_X9_bitOf wd_X9_bitOf (cb_tw (i := 823) (by decide +kernel)) (cb_tw (i := 440) (by decide +kernel)) ⟨by decide, by decide⟩ (by decide +kernel), fun _ h => nomatch h⟩⟩⟩⟩⟩⟩⟩
theorem ok_X9_clock : cb_MOK cb_tb yX9_clock md_X9_clock pt_X9_clock := by
  refine cb_okw0 ⟨plainFor_of_name (by decide), rfl⟩ (by decide) cs_X9_clock (by decide) (fun X n0 f r M hr h => ?_)
  match r, hr, h with
  | [.inl x, .inl y], hr, h =>
    obtain ⟨P, n, hh, nb, hI, h⟩ := h
    obtain ⟨hP, hS, hH, -⟩ := id hI
    have hn8 := hS.2.2.1
    refine cb_run cb_tb_ok vd_X9_clock (cuts := []) 90 ?_
    refine And.intro (cb_on rfl) ⟨P, n, wa_B hI, And.intro h.1 (fun i hi hx => ?_)⟩
    have h := h.2 i hi hx
    have hx8 : vp_in x 8 := by rw [hx]; exact cb_in8 hi hn8 (by decide)
    have hxc : x.toNatClampNeg = i := by rw [hx]; exact nI_clamp (by omega)
    refine wg_r_i (lo := 0) (hi := 8) (by decide) (by decide) h (fun k h0 h5 hy hc => ?_)
    have hc0 := hc M (cb_fx.refl M)
    have hk : ∀ j, j < 10 → y = nI j → k = j := fun j hj e => (nI_eq (by omega) (by omega)).mp (hy.symm.trans e)
    refine And.intro (fun q => ?_) (fun q0 => And.intro (fun q => ?_) (fun q1 => And.intro (fun q => ?_) (fun q2 => And.intro (fun q => ?_) (fun q3 => And.intro (fun q => ?_) (fun q4 => And.intro (fun q => ?_) (fun q5 => And.intro (fun q => ?_) (fun q6 => And.intro (fun q => ?_) (fun q7 => ?_))))))))
    · have e := hk 0 (by omega) q
      subst e
      refine And.intro hx8 (And.intro trivial (cb_eqK hc0 ?_))
      rw [hxc]
      exact (wn_tr_lt hi).symm
    · have e := hk 1 (by omega) q
      subst e
      refine And.intro hx8 (And.intro trivial (cb_eqK hc0 ?_))
      rw [hxc]
      exact (wn_tr_lt hi).symm
    · have e := hk 2 (by omega) q
      subst e
      refine Exists.intro (some P) (And.intro hP (cb_av.of (cb_aPP hS.1 rfl) (cb_av.of (cb_aPP hS.1 rfl) (And.intro hx8 (And.intro trivial (cb_eqK hc0 ?_))))))
      rw [hxc]
      exact (wn_tr_lt hi).symm
    · have e := hk 3 (by omega) q
      subst e
      refine Exists.intro (some P) (And.intro hP (cb_av.of (cb_aPP hS.1 rfl) (cb_av.of (cb_aPP hS.1 rfl) (And.intro hx8 (And.intro trivial (cb_eqK hc0 ?_))))))
      rw [hxc]
      exact (wn_tr_lt hi).symm
    · have e := hk 4 (by omega) q
      subst e
      refine Exists.intro (some P) (And.intro hP (cb_av.of (cb_aPP hS.1 rfl) (cb_av.of (cb_aPP hS.1 rfl) (And.intro hx8 (And.intro trivial (cb_eqK hc0 ?_))))))
      rw [hxc]
      exact (wn_tr_lt hi).symm
    · have e := hk 5 (by omega) q
      subst e
      refine Exists.intro (some P) (And.intro hP (And.intro (cb_on rfl) (And.intro ⟨hS.1, hx8⟩ (And.intro trivial (cb_eqK hc0 ?_)))))
      rw [hxc]
      exact (wn_tr_lt hi).symm
    · have e := hk 6 (by omega) q
      subst e
      refine And.intro hx8 (And.intro trivial (cb_eqK hc0 ?_))
      rw [hxc]
      exact (wn_tr_lt hi).symm
    · have e := hk 7 (by omega) q
      subst e
      have ev : ∀ b, decide (cb_gI M 11 P x.toNatClampNeg ≤ 8 ∨ cb_rem (cb_gI M 16 0 0) (cb_gI M 11 P x.toNatClampNeg) < 8) = b → cb_z b = vq_clock (va M P n hh nb) i 7 := fun b e => by
        rw [← e, hxc]
        show _ = cb_z (decide ((va M P n hh nb).ky i ≤ 8 ∨ cb_rem (va M P n hh nb).s.1 ((va M P n hh nb).ky i) < 8))
        rw [show (va M P n hh nb).ky i = cb_gI M 11 P i from wn_tr_lt hi]
        rfl
      refine Exists.intro (some P) (And.intro hP (And.intro (cb_on (cb_aP hS.1 rfl)) (And.intro hx8 (cb_ifz (fun q => ?_) (fun q => ?_)))))
      · exact And.intro trivial (cb_eqK hc0 (ev _ q))
      · exact And.intro trivial (cb_eqK hc0 (ev _ q))
    · have e : k = 8 := by
        have a0 : ¬ k = 0 := fun w => q0 (by rw [hy, w]; rfl)
        have a1 : ¬ k = 1 := fun w => q1 (by rw [hy, w]; rfl)
        have a2 : ¬ k = 2 := fun w => q2 (by rw [hy, w]; rfl)
        have a3 : ¬ k = 3 := fun w => q3 (by rw [hy, w]; rfl)
        have a4 : ¬ k = 4 := fun w => q4 (by rw [hy, w]; rfl)
        have a5 : ¬ k = 5 := fun w => q5 (by rw [hy, w]; rfl)
        have a6 : ¬ k = 6 := fun w => q6 (by rw [hy, w]; rfl)
        have a7 : ¬ k = 7 := fun w => q7 (by rw [hy, w]; rfl)
        omega
      subst e
      refine And.intro (cb_on rfl) ⟨P, n, ⟨hP, hS⟩, fun M1 m hK => And.intro (cb_on rfl) ⟨P, n, hK.2.1.1, And.intro ?_ (And.intro trivial (cb_eqK (hc M1 (hK.1.mono fr_T_Z)) ?_))⟩⟩
      · rw [hx]
        exact cb_in8 hi (by omega) (by decide)
      · obtain ⟨ec, eu⟩ := wk_K_c hK
        show cb_z (cb_bit (wk_st M1 P (wk_ro M1 P n) n) x.toNatClampNeg) = _
        rw [hxc, wt_stp_b hn8 hi hK.2.1.2.1, ec, eu, hK.2.2.2.2.2.1, va_c hI]
        rfl
def vq_hear (V : wV) (i j : Nat) : Int32 := (vc V).he i j
def sp_X9_hearing : cb_Sw := fun r M K => match r with
  | [.inl x, .inl y] => ∃ P n h nb, wa_I M P n h nb ∧ wg_p n x y (K (.inr 0) M) (K (.inr 1) M) fun i j => ∀ M', cb_fx fr_Z M M' → K (.inl (some (cb_i (vq_hear (va M P n h nb) i j)))) M'
  | _ => False
def pt_X9_hearing : cb_PT := cb_wm 2 sp_X9_hearing
theorem rc_X9_hearing : cb_rc cb_tb RX9 pt_X9_hearing := cb_wm_rc
def md_X9_hearing : cb_D := (RX9, cX9_hearing, 3, (some .int), (3, 18, 8, 143), [
  (0, .aload_n 0, 1, 0, 0, 0, 0),
  (1, .iload_n 1, 1, 0, 1, 0, 0),
  (2, .iload_n 2, 1, 0, 2, 0, 0),
  (3, .invokevirtual 174, 3, 0, 0, 0, 0),
  (6, .aload_n 0, 1, 0, 0, 0, 0),
  (7, .invokevirtual 162, 3, 0, 1, 0, 0),
  (10, .iload_n 1, 1, 0, 1, 0, 0),
  (11, .iload_n 2, 1, 0, 2, 0, 0),
  (12, .invokevirtual 178, 3, 0, 2, 0, 0),
  (15, .ireturn, 1, 0, 0, 0, 0)],
  [(0, 174, 3, 3, 18, pt_X9_needPair), (0, 162, 1, 0, 0, pt_X9_asTheyHang), (0, 178, 3, 0, 0, pt_X7_hearingOf)], [])
set_option maxRecDepth 100000 in
theorem vd_X9_hearing : md_X9_hearing.cd.all (cb_vE md_X9_hearing) = true := by decide +kernel
theorem wd_X9_hearing : cb_wd yX9_hearing md_X9_hearing := ⟨cb_tw (i := 830) (by decide +kernel), cb_tw (i := 1) (by decide +kernel), by decide, by decide⟩
theorem cs_X9_hearing : ∀ X, cb_Bs md_X9_hearing X → ∀ g ∈ md_X9_hearing.ga, cb_CS cb_tb md_X9_hearing X g := fun X B => List.forall_mem_cons.mpr ⟨cb_csV B ok_X9_needPair wd_X9_needPair (cb_tw (i := 831) (by decide +kernel)) (cb_tw (i := 833) (by decide +kernel)) (cb_tp (i := 24) (by decide +kernel)) rc_X9_needPair ⟨by decide, by decide⟩ (by decide +kernel), List.forall_mem_cons.mpr ⟨cb_csV B ok_X9_asTheyHang wd_X9_asTheyHang (cb_tw (i := 420) (by decide +kernel)) (cb_tw (i := 422) (by decide +kernel)) (cb_tp (i := 1) (by decide +kernel)) rc_X9_asTheyHang ⟨by decide, by decide⟩ (by decide +kernel), List.forall_mem_cons.mpr ⟨cb_csV B ok_X7_hearingOf wd_X7_hearingOf (cb_tw (i := 521) (by decide +kernel)) (cb_tw (i := 447) (by decide +kernel)) (cb_tw (i := 448) (by decide +kernel)) rc_X7_hearingOf ⟨by decide, by decide⟩ (by decide +kernel), fun _ h => nomatch h⟩⟩⟩
theorem ok_X9_hearing : cb_MOK cb_tb yX9_hearing md_X9_hearing pt_X9_hearing := by
  refine cb_okw0 ⟨plainFor_of_name (by decide), rfl⟩ (by decide) cs_X9_hearing (by decide) (fun X n0 f r M hr h => ?_)
  match r, hr, h with
  | [.inl x, .inl y], hr, h =>
    obtain ⟨P, n, hh, nb, hI, h⟩ := h
    obtain ⟨hP, hS, hH, -⟩ := id hI
    have hn8 := hS.2.2.1
    refine cb_run cb_tb_ok vd_X9_hearing (cuts := []) 90 ?_
    refine And.intro (cb_on rfl) ⟨P, n, wa_B hI, And.intro h.1 (fun i hi hx => And.intro (h.2 i hi hx).1 (fun j hj hy => And.intro ((h.2 i hi hx).2 j hj hy).1 (fun hij => ?_)))⟩
    have h := ((h.2 i hi hx).2 j hj hy).2 hij
    have hx8 : vp_in x 8 := by rw [hx]; exact cb_in8 hi hn8 (by decide)
    have hxc : x.toNatClampNeg = i := by rw [hx]; exact nI_clamp (by omega)
    have hy8 : vp_in y 8 := by rw [hy]; exact cb_in8 hj hn8 (by decide)
    have hyc : y.toNatClampNeg = j := by rw [hy]; exact nI_clamp (by omega)
    refine And.intro (cb_on rfl) ⟨P, n, ⟨hP, hS⟩, fun M1 m hK => And.intro (cb_on rfl) ⟨P, ⟨hK.2.1.1.1, hS.1, hx8, hy8, by rw [hxc]; exact (hK.2.2.2.2.1 i hi).1, by rw [hxc, hyc]; exact wm_near (hK.2.2.2.2.1 i hi).2 (hK.2.2.2.2.1 j hj).2⟩, And.intro trivial (cb_eqK (h M1 (hK.1.mono fr_T_Z)) ?_)⟩⟩
    obtain ⟨ec, -⟩ := wk_K_c hK
    unfold vq_hear
    rw [← va_c hI, ← ec, hxc, hyc]
    exact (if_pos ⟨hi, hj⟩).symm
def sp_X9_apart : cb_Sw := fun r M K => match r with
  | [.inl x, .inl y] => ∃ P n h nb, wa_I M P n h nb ∧ wg_p n x y (K (.inr 0) M) (K (.inr 1) M) fun i j => ∀ M', cb_fx fr_Z M M' → K (.inl (some (cb_i (wm_ap ((va M P n h nb).s.2.1 i) ((va M P n h nb).s.2.1 j))))) M'
  | _ => False
theorem wk_K_ph {M M' : cb_M} {P n m i : Nat} (hK : wk_K M P n m M') (h nb : Nat) (hi : i < n) : cb_gI M' 27 0 i = (va M P n h nb).s.2.1 i := by
  have : (wt_s M' n).2.1 i = (wb_s M P n).2.1 i := by rw [hK.2.2.2.2.2.1]
  rw [show (wt_s M' n).2.1 i = cb_gI M' 27 0 i from wn_tr_lt hi] at this
  exact this
def pt_X9_apart : cb_PT := cb_wm 2 sp_X9_apart
theorem rc_X9_apart : cb_rc cb_tb RX9 pt_X9_apart := cb_wm_rc
def md_X9_apart : cb_D := (RX9, cX9_apart, 3, (some .int), (3, 18, 8, 143), [
  (0, .aload_n 0, 1, 0, 0, 0, 0),
  (1, .iload_n 1, 1, 0, 1, 0, 0),
  (2, .iload_n 2, 1, 0, 2, 0, 0),
  (3, .invokevirtual 174, 3, 0, 0, 0, 0),
  (6, .aload_n 0, 1, 0, 0, 0, 0),
  (7, .invokevirtual 162, 3, 0, 1, 0, 0),
  (10, .iload_n 1, 1, 0, 1, 0, 0),
  (11, .iload_n 2, 1, 0, 2, 0, 0),
  (12, .invokevirtual 181, 3, 0, 2, 0, 0),
  (15, .ireturn, 1, 0, 0, 0, 0)],
  [(0, 174, 3, 3, 18, pt_X9_needPair), (0, 162, 1, 0, 0, pt_X9_asTheyHang), (0, 181, 3, 0, 0, pt_X7_apartFrom)], [])
set_option maxRecDepth 100000 in
theorem vd_X9_apart : md_X9_apart.cd.all (cb_vE md_X9_apart) = true := by decide +kernel
theorem wd_X9_apart : cb_wd yX9_apart md_X9_apart := ⟨cb_tw (i := 842) (by decide +kernel), cb_tw (i := 1) (by decide +kernel), by decide, by decide⟩
theorem cs_X9_apart : ∀ X, cb_Bs md_X9_apart X → ∀ g ∈ md_X9_apart.ga, cb_CS cb_tb md_X9_apart X g := fun X B => List.forall_mem_cons.mpr ⟨cb_csV B ok_X9_needPair wd_X9_needPair (cb_tw (i := 831) (by decide +kernel)) (cb_tw (i := 833) (by decide +kernel)) (cb_tp (i := 24) (by decide +kernel)) rc_X9_needPair ⟨by decide, by decide⟩ (by decide +kernel), List.forall_mem_cons.mpr ⟨cb_csV B ok_X9_asTheyHang wd_X9_asTheyHang (cb_tw (i := 420) (by decide +kernel)) (cb_tw (i := 422) (by decide +kernel)) (cb_tp (i := 1) (by decide +kernel)) rc_X9_asTheyHang ⟨by decide, by decide⟩ (by decide +kernel), List.forall_mem_cons.mpr ⟨cb_csV B ok_X7_apartFrom wd_X7_apartFrom (cb_tw (i := 843) (by decide +kernel)) (cb_tw (i := 495) (by decide +kernel)) (cb_tw (i := 496) (by decide +kernel)) rc_X7_apartFrom ⟨by decide, by decide⟩ (by decide +kernel), fun _ h => nomatch h⟩⟩⟩
theorem ok_X9_apart : cb_MOK cb_tb yX9_apart md_X9_apart pt_X9_apart := by
  refine cb_okw0 ⟨plainFor_of_name (by decide), rfl⟩ (by decide) cs_X9_apart (by decide) (fun X n0 f r M hr h => ?_)
  match r, hr, h with
  | [.inl x, .inl y], hr, h =>
    obtain ⟨P, n, hh, nb, hI, h⟩ := h
    obtain ⟨hP, hS, hH, -⟩ := id hI
    have hn8 := hS.2.2.1
    refine cb_run cb_tb_ok vd_X9_apart (cuts := []) 90 ?_
    refine And.intro (cb_on rfl) ⟨P, n, wa_B hI, And.intro h.1 (fun i hi hx => And.intro (h.2 i hi hx).1 (fun j hj hy => And.intro ((h.2 i hi hx).2 j hj hy).1 (fun hij => ?_)))⟩
    have h := ((h.2 i hi hx).2 j hj hy).2 hij
    have hx8 : vp_in x 8 := by rw [hx]; exact cb_in8 hi hn8 (by decide)
    have hxc : x.toNatClampNeg = i := by rw [hx]; exact nI_clamp (by omega)
    have hy8 : vp_in y 8 := by rw [hy]; exact cb_in8 hj hn8 (by decide)
    have hyc : y.toNatClampNeg = j := by rw [hy]; exact nI_clamp (by omega)
    refine And.intro (cb_on rfl) ⟨P, n, ⟨hP, hS⟩, fun M1 m hK => And.intro (cb_on rfl) (And.intro ⟨hx8, hy8⟩ (And.intro trivial (cb_eqK (h M1 (hK.1.mono fr_T_Z)) ?_)))⟩
    rw [hxc, hyc, wk_K_ph hK hh nb hi, wk_K_ph hK hh nb hj]
def sp_X9_step : cb_Sw := fun r M K => match r with
  | [.inl x, .inl y] => ∃ P n h nb, wa_I M P n h nb ∧ wg_p n x y (K (.inr 0) M) (K (.inr 1) M) fun i j => ∀ M', cb_fx fr_Z M M' → K (.inl (some (cb_i (wm_beat (wm_ap ((va M P n h nb).s.2.1 i) ((va M P n h nb).s.2.1 j)))))) M'
  | _ => False
def pt_X9_step : cb_PT := cb_wm 2 sp_X9_step
theorem rc_X9_step : cb_rc cb_tb RX9 pt_X9_step := cb_wm_rc
def md_X9_step : cb_D := (RX9, cX9_step, 3, (some .int), (3, 18, 8, 143), [
  (0, .aload_n 0, 1, 0, 0, 0, 0),
  (1, .iload_n 1, 1, 0, 1, 0, 0),
  (2, .iload_n 2, 1, 0, 2, 0, 0),
  (3, .invokevirtual 174, 3, 0, 0, 0, 0),
  (6, .aload_n 0, 1, 0, 0, 0, 0),
  (7, .invokevirtual 162, 3, 0, 1, 0, 0),
  (10, .iload_n 1, 1, 0, 1, 0, 0),
  (11, .iload_n 2, 1, 0, 2, 0, 0),
  (12, .invokevirtual 205, 3, 0, 2, 0, 0),
  (15, .ireturn, 1, 0, 0, 0, 0)],
  [(0, 174, 3, 3, 18, pt_X9_needPair), (0, 162, 1, 0, 0, pt_X9_asTheyHang), (0, 205, 3, 0, 0, pt_X7_beatOf)], [])
set_option maxRecDepth 100000 in
theorem vd_X9_step : md_X9_step.cd.all (cb_vE md_X9_step) = true := by decide +kernel
theorem wd_X9_step : cb_wd yX9_step md_X9_step := ⟨cb_tw (i := 929) (by decide +kernel), cb_tw (i := 1) (by decide +kernel), by decide, by decide⟩
theorem cs_X9_step : ∀ X, cb_Bs md_X9_step X → ∀ g ∈ md_X9_step.ga, cb_CS cb_tb md_X9_step X g := fun X B => List.forall_mem_cons.mpr ⟨cb_csV B ok_X9_needPair wd_X9_needPair (cb_tw (i := 831) (by decide +kernel)) (cb_tw (i := 833) (by decide +kernel)) (cb_tp (i := 24) (by decide +kernel)) rc_X9_needPair ⟨by decide, by decide⟩ (by decide +kernel), List.forall_mem_cons.mpr ⟨cb_csV B ok_X9_asTheyHang wd_X9_asTheyHang (cb_tw (i := 420) (by decide +kernel)) (cb_tw (i := 422) (by decide +kernel)) (cb_tp (i := 1) (by decide +kernel)) rc_X9_asTheyHang ⟨by decide, by decide⟩ (by decide +kernel), List.forall_mem_cons.mpr ⟨cb_csV B ok_X7_beatOf wd_X7_beatOf (cb_tw (i := 490) (by decide +kernel)) (cb_tw (i := 491) (by decide +kernel)) (cb_tw (i := 492) (by decide +kernel)) rc_X7_beatOf ⟨by decide, by decide⟩ (by decide +kernel), fun _ h => nomatch h⟩⟩⟩
theorem ok_X9_step : cb_MOK cb_tb yX9_step md_X9_step pt_X9_step := by
  refine cb_okw0 ⟨plainFor_of_name (by decide), rfl⟩ (by decide) cs_X9_step (by decide) (fun X n0 f r M hr h => ?_)
  match r, hr, h with
  | [.inl x, .inl y], hr, h =>
    obtain ⟨P, n, hh, nb, hI, h⟩ := h
    obtain ⟨hP, hS, hH, -⟩ := id hI
    have hn8 := hS.2.2.1
    refine cb_run cb_tb_ok vd_X9_step (cuts := []) 90 ?_
    refine And.intro (cb_on rfl) ⟨P, n, wa_B hI, And.intro h.1 (fun i hi hx => And.intro (h.2 i hi hx).1 (fun j hj hy => And.intro ((h.2 i hi hx).2 j hj hy).1 (fun hij => ?_)))⟩
    have h := ((h.2 i hi hx).2 j hj hy).2 hij
    have hx8 : vp_in x 8 := by rw [hx]; exact cb_in8 hi hn8 (by decide)
    have hxc : x.toNatClampNeg = i := by rw [hx]; exact nI_clamp (by omega)
    have hy8 : vp_in y 8 := by rw [hy]; exact cb_in8 hj hn8 (by decide)
    have hyc : y.toNatClampNeg = j := by rw [hy]; exact nI_clamp (by omega)
    refine And.intro (cb_on rfl) ⟨P, n, ⟨hP, hS⟩, fun M1 m hK => And.intro (cb_on rfl) (And.intro ⟨hx8, hy8⟩ (And.intro trivial (cb_eqK (h M1 (hK.1.mono fr_T_Z)) ?_)))⟩
    rw [hxc, hyc, wk_K_ph hK hh nb hi, wk_K_ph hK hh nb hj]
def sp_X9_pull : cb_Sw := fun r M K => match r with
  | [.inl x] => ∃ P n h nb, wa_I M P n h nb ∧ wg_c n x (K (.inr 0) M) fun i => ∀ M', cb_fx fr_Z M M' → K (.inl (some (cb_i (wn_now (vc (va M P n h nb)) (wu_all n) (va M P n h nb).s i)))) M'
  | _ => False
def pt_X9_pull : cb_PT := cb_wm 1 sp_X9_pull
theorem rc_X9_pull : cb_rc cb_tb RX9 pt_X9_pull := cb_wm_rc
def md_X9_pull : cb_D := (RX9, cX9_pull, 2, (some .int), (1, 6, 7, 135), [
  (0, .aload_n 0, 1, 0, 0, 0, 0),
  (1, .iload_n 1, 1, 0, 1, 0, 0),
  (2, .invokevirtual 132, 3, 0, 0, 0, 0),
  (5, .aload_n 0, 1, 0, 0, 0, 0),
  (6, .invokevirtual 162, 3, 0, 1, 0, 0),
  (9, .iload_n 1, 1, 0, 1, 0, 0),
  (10, .invokevirtual 184, 3, 0, 2, 0, 0),
  (13, .ireturn, 1, 0, 0, 0, 0)],
  [(0, 132, 2, 1, 6, pt_X9_needClock), (0, 162, 1, 0, 0, pt_X9_asTheyHang), (0, 184, 2, 0, 0, pt_X7_pullToday)], [])
set_option maxRecDepth 100000 in
theorem vd_X9_pull : md_X9_pull.cd.all (cb_vE md_X9_pull) = true := by decide +kernel
theorem wd_X9_pull : cb_wd yX9_pull md_X9_pull := ⟨cb_tw (i := 850) (by decide +kernel), cb_tw (i := 1) (by decide +kernel), by decide, by decide⟩
theorem cs_X9_pull : ∀ X, cb_Bs md_X9_pull X → ∀ g ∈ md_X9_pull.ga, cb_CS cb_tb md_X9_pull X g := fun X B => List.forall_mem_cons.mpr ⟨cb_csV B ok_X9_needClock wd_X9_needClock (cb_tw (i := 785) (by decide +kernel)) (cb_tw (i := 787) (by decide +kernel)) (cb_tp (i := 22) (by decide +kernel)) rc_X9_needClock ⟨by decide, by decide⟩ (by decide +kernel), List.forall_mem_cons.mpr ⟨cb_csV B ok_X9_asTheyHang wd_X9_asTheyHang (cb_tw (i := 420) (by decide +kernel)) (cb_tw (i := 422) (by decide +kernel)) (cb_tp (i := 1) (by decide +kernel)) rc_X9_asTheyHang ⟨by decide, by decide⟩ (by decide +kernel), List.forall_mem_cons.mpr ⟨cb_csV B ok_X7_pullToday wd_X7_pullToday (cb_tw (i := 851) (by decide +kernel)) (cb_tw (i := 852) (by decide +kernel)) (cb_tw (i := 853) (by decide +kernel)) rc_X7_pullToday ⟨by decide, by decide⟩ (by decide +kernel), fun _ h => nomatch h⟩⟩⟩
theorem ok_X9_pull : cb_MOK cb_tb yX9_pull md_X9_pull pt_X9_pull := by
  refine cb_okw0 ⟨plainFor_of_name (by decide), rfl⟩ (by decide) cs_X9_pull (by decide) (fun X n0 f r M hr h => ?_)
  match r, hr, h with
  | [.inl x], hr, h =>
    obtain ⟨P, n, hh, nb, hI, h⟩ := h
    obtain ⟨hP, hS, hH, -⟩ := id hI
    have hn8 := hS.2.2.1
    refine cb_run cb_tb_ok vd_X9_pull (cuts := []) 90 ?_
    refine And.intro (cb_on rfl) ⟨P, n, wa_B hI, And.intro h.1 (fun i hi hx => ?_)⟩
    have h := h.2 i hi hx
    refine And.intro (cb_on rfl) ⟨P, n, ⟨hP, hS⟩, fun M1 m hK => And.intro (cb_on rfl) ⟨P, n, m, i, ⟨hK.2.1, hK.2.2.1, hx, hi⟩, fun M2 hF2 => And.intro trivial (cb_eqK (h M2 ((hK.1.mono fr_T_Z).trans (hF2.fx fr_t_Z))) ?_)⟩⟩
    obtain ⟨ec, eu⟩ := wk_K_c hK
    rw [ec, eu, hK.2.2.2.2.2.1, va_c hI]
    rfl
def vq_rts (V : wV) (up : Int32) (s : wm_S) : Int32 := wq_r V.w up s V.n
def sp_X9_right : cb_Sw := fun r M K => match r with
  | [] => ∃ P n h nb, wa_I M P n h nb ∧ ∀ M', cb_fx fr_Z M M' → K (.inl (some (cb_i (vq_rts (va M P n h nb) (wm_all (nI n)) (va M P n h nb).s)))) M'
  | _ => False
def pt_X9_right : cb_PT := cb_wm 0 sp_X9_right
theorem rc_X9_right : cb_rc cb_tb RX9 pt_X9_right := cb_wm_rc
def md_X9_right : cb_D := (RX9, cX9_right, 1, (some .int), (0, 0, 6, 135), [
  (0, .aload_n 0, 1, 0, 0, 0, 0),
  (1, .invokevirtual 162, 3, 0, 0, 0, 0),
  (4, .invokevirtual 208, 3, 0, 1, 0, 0),
  (7, .ireturn, 1, 0, 0, 0, 0)],
  [(0, 162, 1, 0, 0, pt_X9_asTheyHang), (0, 208, 1, 0, 0, pt_X7_rightOnes)], [])
set_option maxRecDepth 100000 in
theorem vd_X9_right : md_X9_right.cd.all (cb_vE md_X9_right) = true := by decide +kernel
theorem wd_X9_right : cb_wd yX9_right md_X9_right := ⟨cb_tw (i := 419) (by decide +kernel), cb_tw (i := 1) (by decide +kernel), by decide, by decide⟩
theorem cs_X9_right : ∀ X, cb_Bs md_X9_right X → ∀ g ∈ md_X9_right.ga, cb_CS cb_tb md_X9_right X g := fun X B => List.forall_mem_cons.mpr ⟨cb_csV B ok_X9_asTheyHang wd_X9_asTheyHang (cb_tw (i := 420) (by decide +kernel)) (cb_tw (i := 422) (by decide +kernel)) (cb_tp (i := 1) (by decide +kernel)) rc_X9_asTheyHang ⟨by decide, by decide⟩ (by decide +kernel), List.forall_mem_cons.mpr ⟨cb_csV B ok_X7_rightOnes wd_X7_rightOnes (cb_tw (i := 464) (by decide +kernel)) (cb_tw (i := 465) (by decide +kernel)) (cb_tw (i := 466) (by decide +kernel)) rc_X7_rightOnes ⟨by decide, by decide⟩ (by decide +kernel), fun _ h => nomatch h⟩⟩
theorem ok_X9_right : cb_MOK cb_tb yX9_right md_X9_right pt_X9_right := by
  refine cb_okw0 ⟨plainFor_of_name (by decide), rfl⟩ (by decide) cs_X9_right (by decide) (fun X n0 f r M hr h => ?_)
  match r, hr, h with
  | [], hr, h =>
    obtain ⟨P, n, hh, nb, hI, h⟩ := h
    obtain ⟨hP, hS, hH, -⟩ := id hI
    refine cb_run cb_tb_ok vd_X9_right (cuts := []) 90 ?_
    refine And.intro (cb_on rfl) ⟨P, n, ⟨hP, hS⟩, fun M1 m hK => And.intro (cb_on rfl) ⟨P, n, hK.2.1.1, And.intro trivial (cb_eqK (h M1 (hK.1.mono fr_T_Z)) ?_)⟩⟩
    rw [wq_r_s, hK.2.2.2.2.2.1, hK.2.2.2.2.2.2.2.1, hK.1.1 3 P 4 rfl]
    rfl
def sp_X9_off : cb_Sw := fun r M K => match r with
  | [.inl x, .inl N] => ∃ P n h nb, wa_I M P n h nb ∧ wg_c n x (K (.inr 0) M) fun i => wg_r 1 100 N (K (.inr 1) M) fun k => ∀ M', cb_fx fr_Z M M' → K (.inl (some (cb_i ((vq_on (va M P n h nb) k).2.2 i)))) M'
  | _ => False
def pt_X9_off : cb_PT := cb_wm 2 sp_X9_off
theorem rc_X9_off : cb_rc cb_tb RX9 pt_X9_off := cb_wm_rc
def md_X9_off : cb_D := (RX9, cX9_off, 3, (some .int), (2, 12, 8, 142), [
  (0, .aload_n 0, 1, 0, 0, 0, 0),
  (1, .iload_n 1, 1, 0, 1, 0, 0),
  (2, .invokevirtual 132, 3, 0, 0, 0, 0),
  (5, .iload_n 2, 1, 0, 2, 0, 0),
  (6, .invokestatic 220, 3, 0, 1, 0, 0),
  (9, .aload_n 0, 1, 0, 0, 0, 0),
  (10, .invokevirtual 162, 3, 0, 2, 0, 0),
  (13, .iload_n 2, 1, 0, 2, 0, 0),
  (14, .invokevirtual 196, 3, 0, 3, 0, 0),
  (17, .aload_n 0, 1, 0, 0, 0, 0),
  (18, .getfield 56, 3, 0, 9, 9, 367),
  (21, .getfield 223, 3, 0, 7, 6, 243),
  (24, .iload_n 1, 1, 0, 1, 0, 0),
  (25, .iaload, 1, 0, 0, 0, 0),
  (26, .ireturn, 1, 0, 0, 0, 0)],
  [(0, 132, 2, 1, 6, pt_X9_needClock), (1, 220, 1, 1, 6, pt_X9_needDaysOn), (0, 162, 1, 0, 0, pt_X9_asTheyHang), (0, 196, 2, 0, 0, pt_X7_goDays)], [])
set_option maxRecDepth 100000 in
theorem vd_X9_off : md_X9_off.cd.all (cb_vE md_X9_off) = true := by decide +kernel
theorem wd_X9_off : cb_wd yX9_off md_X9_off := ⟨cb_tw (i := 936) (by decide +kernel), cb_tw (i := 1) (by decide +kernel), by decide, by decide⟩
theorem cs_X9_off : ∀ X, cb_Bs md_X9_off X → ∀ g ∈ md_X9_off.ga, cb_CS cb_tb md_X9_off X g := fun X B => List.forall_mem_cons.mpr ⟨cb_csV B ok_X9_needClock wd_X9_needClock (cb_tw (i := 785) (by decide +kernel)) (cb_tw (i := 787) (by decide +kernel)) (cb_tp (i := 22) (by decide +kernel)) rc_X9_needClock ⟨by decide, by decide⟩ (by decide +kernel), List.forall_mem_cons.mpr ⟨cb_csS B ok_X9_needDaysOn wd_X9_needDaysOn (cb_tw (i := 937) (by decide +kernel)) (cb_tw (i := 938) (by decide +kernel)) ⟨by decide, by decide⟩ (by decide +kernel), List.forall_mem_cons.mpr ⟨cb_csV B ok_X9_asTheyHang wd_X9_asTheyHang (cb_tw (i := 420) (by decide +kernel)) (cb_tw (i := 422) (by decide +kernel)) (cb_tp (i := 1) (by decide +kernel)) rc_X9_asTheyHang ⟨by decide, by decide⟩ (by decide +kernel), List.forall_mem_cons.mpr ⟨cb_csV B ok_X7_goDays wd_X7_goDays (cb_tw (i := 891) (by decide +kernel)) (cb_tw (i := 892) (by decide +kernel)) (cb_tw (i := 893) (by decide +kernel)) rc_X7_goDays ⟨by decide, by decide⟩ (by decide +kernel), fun _ h => nomatch h⟩⟩⟩⟩
theorem ok_X9_off : cb_MOK cb_tb yX9_off md_X9_off pt_X9_off := by
  refine cb_okw0 ⟨plainFor_of_name (by decide), rfl⟩ (by decide) cs_X9_off (by decide) (fun X n0 f r M hr h => ?_)
  match r, hr, h with
  | [.inl x, .inl N], hr, h =>
    obtain ⟨P, n, hh, nb, hI, h⟩ := h
    obtain ⟨hP, hS, hH, -⟩ := id hI
    have hn8 := hS.2.2.1
    refine cb_run cb_tb_ok vd_X9_off (cuts := []) 90 ?_
    refine And.intro (cb_on rfl) ⟨P, n, wa_B hI, And.intro h.1 (fun i hi hx => And.intro (h.2 i hi hx).1 (fun k h1 h2 hN => ?_))⟩
    have h := (h.2 i hi hx).2 k h1 h2 hN
    have hx8 : vp_in x 8 := by rw [hx]; exact cb_in8 hi hn8 (by decide)
    have hxc : x.toNatClampNeg = i := by rw [hx]; exact nI_clamp (by omega)
    refine And.intro (cb_on rfl) ⟨P, n, ⟨hP, hS⟩, fun M1 m hK => And.intro (cb_on rfl) ⟨P, n, m, k, ⟨hK.2.1, hK.2.2.1, hN, by omega⟩, fun M2 hF2 hs2 hp2 => And.intro hx8 (And.intro trivial (cb_eqK (h M2 ((hK.1.mono fr_T_Z).trans (hF2.fx fr_t_Z))) ?_))⟩⟩
    rw [hxc, ← show (wt_s M2 n).2.2 i = cb_gI M2 28 0 i from wn_tr_lt hi, hs2, ← vq_on_k hI hK]
    rfl
def sp_X9_hook : cb_Sw := fun r M K => match r with
  | [.inl x, .inl y] => ∃ P n h nb, wa_I M P n h nb ∧ wg_c h x (K (.inr 0) M) fun i => wg_r 0 1 y (K (.inr 1) M) fun k => K (.inl (some (cb_i (if k = 0 then (va M P n h nb).hb i else (va M P n h nb).hp i)))) M
  | _ => False
def pt_X9_hook : cb_PT := cb_wm 2 sp_X9_hook
theorem rc_X9_hook : cb_rc cb_tb RX9 pt_X9_hook := cb_wm_rc
def md_X9_hook : cb_D := (RX9, cX9_hook, 3, (some .int), (2, 12, 7, 122), [
  (0, .aload_n 0, 1, 0, 0, 0, 0),
  (1, .iload_n 1, 1, 0, 1, 0, 0),
  (2, .invokevirtual 224, 3, 0, 0, 0, 0),
  (5, .iload_n 2, 1, 0, 2, 0, 0),
  (6, .iconst 0, 1, 0, 0, 0, 0),
  (7, .iconst 1, 1, 1, 0, 0, 0),
  (8, .invokestatic 101, 3, 0, 1, 0, 0),
  (11, .iload_n 2, 1, 0, 2, 0, 0),
  (12, .ifCond .ne 15, 3, 0, 27, 0, 0),
  (15, .aload_n 0, 1, 0, 0, 0, 0),
  (16, .getfield 40, 3, 0, 9, 6, 364),
  (19, .getfield 230, 3, 0, 3, 4, 186),
  (22, .iload_n 1, 1, 0, 1, 0, 0),
  (23, .iaload, 1, 0, 0, 0, 0),
  (24, .goto 12, 3, 0, 36, 0, 0),
  (27, .aload_n 0, 1, 0, 0, 0, 0),
  (28, .getfield 40, 3, 0, 9, 6, 364),
  (31, .getfield 233, 3, 0, 3, 5, 189),
  (34, .iload_n 1, 1, 0, 1, 0, 0),
  (35, .iaload, 1, 0, 0, 0, 0),
  (36, .ireturn, 1, 0, 0, 0, 0)],
  [(0, 224, 2, 1, 6, pt_X9_needHook), (1, 101, 3, 1, 6, pt_X9_needWithin)], [])
set_option maxRecDepth 100000 in
theorem vd_X9_hook : md_X9_hook.cd.all (cb_vE md_X9_hook) = true := by decide +kernel
theorem wd_X9_hook : cb_wd yX9_hook md_X9_hook := ⟨cb_tw (i := 962) (by decide +kernel), cb_tw (i := 1) (by decide +kernel), by decide, by decide⟩
theorem cs_X9_hook : ∀ X, cb_Bs md_X9_hook X → ∀ g ∈ md_X9_hook.ga, cb_CS cb_tb md_X9_hook X g := fun X B => List.forall_mem_cons.mpr ⟨cb_csV B ok_X9_needHook wd_X9_needHook (cb_tw (i := 947) (by decide +kernel)) (cb_tw (i := 949) (by decide +kernel)) (cb_tp (i := 28) (by decide +kernel)) rc_X9_needHook ⟨by decide, by decide⟩ (by decide +kernel), List.forall_mem_cons.mpr ⟨cb_csS B ok_X9_needWithin wd_X9_needWithin (cb_tw (i := 548) (by decide +kernel)) (cb_tw (i := 549) (by decide +kernel)) ⟨by decide, by decide⟩ (by decide +kernel), fun _ h => nomatch h⟩⟩
theorem ok_X9_hook : cb_MOK cb_tb yX9_hook md_X9_hook pt_X9_hook := by
  refine cb_okw0 ⟨plainFor_of_name (by decide), rfl⟩ (by decide) cs_X9_hook (by decide) (fun X n0 f r M hr h => ?_)
  match r, hr, h with
  | [.inl x, .inl y], hr, h =>
    obtain ⟨P, n, hh, nb, hI, h⟩ := h
    obtain ⟨hP, hS, hH, -⟩ := id hI
    have hh6 := hH.2.1
    refine cb_run cb_tb_ok vd_X9_hook (cuts := []) 90 ?_
    refine And.intro (cb_on rfl) ⟨P, hh, ⟨hP, hS.1, hH.1, hH.2.1⟩, And.intro h.1 (fun i hi hx => ?_)⟩
    have h := h.2 i hi hx
    have hx6 : vp_in x 6 := by rw [hx]; exact cb_in8 hi hh6 (by decide)
    have hxc : x.toNatClampNeg = i := by rw [hx]; exact nI_clamp (by omega)
    refine wg_r_i (lo := 0) (hi := 1) (by decide) (by decide) h (fun k h0 h1 hy hc => ?_)
    refine cb_ifne (fun q => And.intro hx6 (And.intro trivial (cb_eqK hc ?_))) (fun q => And.intro hx6 (And.intro trivial (cb_eqK hc ?_)))
    · rw [if_neg (fun w => q (by rw [hy, w]; rfl)), hxc]
      exact (wn_tr_lt hi).symm
    · have : k = 0 := (nI_eq (by omega) (by omega)).mp (hy.symm.trans q)
      rw [if_pos this, hxc]
      exact (wn_tr_lt hi).symm
def sp_X9_hang : cb_Sw := fun r M K => match r with
  | [.inl x, .inl y] => ∃ P n h nb, wa_I M P n h nb ∧ wg_c n x (K (.inr 0) M) fun i => wg_c h y (K (.inr 0) M) fun l => K (.inl (some (cb_i 1))) (mo_swap M 0 i l)
  | _ => False
def pt_X9_hang : cb_PT := cb_wm 2 sp_X9_hang
theorem rc_X9_hang : cb_rc cb_tb RX9 pt_X9_hang := cb_wm_rc
def md_X9_hang : cb_D := (RX9, cX9_hang, 3, (some .int), (2, 12, 7, 121), [
  (0, .aload_n 0, 1, 0, 0, 0, 0),
  (1, .iload_n 1, 1, 0, 1, 0, 0),
  (2, .invokevirtual 132, 3, 0, 0, 0, 0),
  (5, .aload_n 0, 1, 0, 0, 0, 0),
  (6, .iload_n 2, 1, 0, 2, 0, 0),
  (7, .invokevirtual 224, 3, 0, 1, 0, 0),
  (10, .aload_n 0, 1, 0, 0, 0, 0),
  (11, .getfield 40, 3, 0, 9, 6, 364),
  (14, .iload_n 1, 1, 0, 1, 0, 0),
  (15, .iload_n 2, 1, 0, 2, 0, 0),
  (16, .invokevirtual 227, 3, 0, 2, 0, 0),
  (19, .iconst 1, 1, 1, 0, 0, 0),
  (20, .ireturn, 1, 0, 0, 0, 0)],
  [(0, 132, 2, 1, 6, pt_X9_needClock), (0, 224, 2, 1, 6, pt_X9_needHook), (0, 227, 3, 0, 0, pt_X3_changePlaces)], [])
set_option maxRecDepth 100000 in
theorem vd_X9_hang : md_X9_hang.cd.all (cb_vE md_X9_hang) = true := by decide +kernel
theorem wd_X9_hang : cb_wd yX9_hang md_X9_hang := ⟨cb_tw (i := 946) (by decide +kernel), cb_tw (i := 1) (by decide +kernel), by decide, by decide⟩
theorem cs_X9_hang : ∀ X, cb_Bs md_X9_hang X → ∀ g ∈ md_X9_hang.ga, cb_CS cb_tb md_X9_hang X g := fun X B => List.forall_mem_cons.mpr ⟨cb_csV B ok_X9_needClock wd_X9_needClock (cb_tw (i := 785) (by decide +kernel)) (cb_tw (i := 787) (by decide +kernel)) (cb_tp (i := 22) (by decide +kernel)) rc_X9_needClock ⟨by decide, by decide⟩ (by decide +kernel), List.forall_mem_cons.mpr ⟨cb_csV B ok_X9_needHook wd_X9_needHook (cb_tw (i := 947) (by decide +kernel)) (cb_tw (i := 949) (by decide +kernel)) (cb_tp (i := 28) (by decide +kernel)) rc_X9_needHook ⟨by decide, by decide⟩ (by decide +kernel), List.forall_mem_cons.mpr ⟨cb_csV B ok_X3_changePlaces wd_X3_changePlaces (cb_tw (i := 952) (by decide +kernel)) (cb_tw (i := 953) (by decide +kernel)) (cb_tw (i := 954) (by decide +kernel)) rc_X3_changePlaces ⟨by decide, by decide⟩ (by decide +kernel), fun _ h => nomatch h⟩⟩⟩
theorem ok_X9_hang : cb_MOK cb_tb yX9_hang md_X9_hang pt_X9_hang := by
  refine cb_okw0 ⟨plainFor_of_name (by decide), rfl⟩ (by decide) cs_X9_hang (by decide) (fun X n0 f r M hr h => ?_)
  match r, hr, h with
  | [.inl x, .inl y], hr, h =>
    obtain ⟨P, n, hh, nb, hI, h⟩ := h
    obtain ⟨hP, hS, hH, -⟩ := id hI
    have hn8 := hS.2.2.1
    have hh6 := hH.2.1
    refine cb_run cb_tb_ok vd_X9_hang (cuts := []) 90 ?_
    refine And.intro (cb_on rfl) ⟨P, n, wa_B hI, And.intro h.1 (fun i hi hx => And.intro (cb_on rfl) ⟨P, hh, ⟨hP, hS.1, hH.1, hH.2.1⟩, And.intro (h.2 i hi hx).1 (fun l hl hy => ?_)⟩)⟩
    have h := (h.2 i hi hx).2 l hl hy
    exact And.intro (cb_on rfl) ⟨i, l, ⟨hx, by omega, hy, by omega⟩, And.intro trivial (cb_eqK h rfl)⟩
