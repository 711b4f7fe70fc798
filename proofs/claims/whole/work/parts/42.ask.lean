/-! ===== standing, pushed, beginnings ===== -/
def wm_tzi (i : Int32) : Int32 := if 0 < i then (if i ≤ 16 then (if i ≤ 4 then 1 + cb_ush i 1 else 1 + 2 + cb_ush (cb_ush i 2) 1) else (if cb_ush i 4 ≤ 4 then 1 + 4 + cb_ush (cb_ush i 4) 1 else 1 + 4 + 2 + cb_ush (cb_ush (cb_ush i 4) 2) 1)) else i &&& 32
def wm_tz (x : Int32) : Int32 := wm_tzi ((x ^^^ (-1)) &&& (x - 1))
theorem wm_tz_small : ∀ c, c < 256 → (nI c ^^^ (-1)) &&& (nI c - 1) ≤ 256 ∧ (nI c ^^^ (-1)) &&& (nI c - 1) ≤ 65536 := by decide +kernel
def wm_low (c : Nat) : Option Nat := (List.range 8).find? fun i => cb_bit (nI c) i
theorem wm_tz_val : ∀ c, c < 256 → wm_tz (nI c) = match wm_low c with | some i => nI i | none => 32 := by decide +kernel
def pt_J6_numberOfTrailingZeros_0f7a4 : cb_PT := cb_f1 (fun x => ∃ c, c < 256 ∧ x = nI c) wm_tz
def md_J6_numberOfTrailingZeros_0f7a4 : cb_D := (RJ6, cJ6_numberOfTrailingZeros_0f7a4, 2, (some .int), (0, 0, 0, 0), [
  (0, .iload_n 0, 1, 0, 0, 0, 0),
  (1, .iconst (-1), 1, (-1), 0, 0, 0),
  (2, .ixor, 1, 0, 0, 0, 0),
  (3, .iload_n 0, 1, 0, 0, 0, 0),
  (4, .iconst 1, 1, 1, 0, 0, 0),
  (5, .isub, 1, 0, 0, 0, 0),
  (6, .iand, 1, 0, 0, 0, 0),
  (7, .istore_n 0, 1, 0, 0, 0, 0),
  (8, .iload_n 0, 1, 0, 0, 0, 0),
  (9, .ifCond .gt 8, 3, 0, 17, 0, 0),
  (12, .iload_n 0, 1, 0, 0, 0, 0),
  (13, .bipush 32, 2, 32, 0, 0, 0),
  (15, .iand, 1, 0, 0, 0, 0),
  (16, .ireturn, 1, 0, 0, 0, 0),
  (17, .iconst 1, 1, 1, 0, 0, 0),
  (18, .istore_n 1, 1, 0, 1, 0, 0),
  (19, .iload_n 0, 1, 0, 0, 0, 0),
  (20, .ldc_w 264, 3, 65536, 0, 0, 974),
  (23, .if_icmp .le 11, 3, 0, 34, 0, 0),
  (26, .iinc 1 16, 3, 16, 1, 0, 0),
  (29, .iload_n 0, 1, 0, 0, 0, 0),
  (30, .bipush 16, 2, 16, 0, 0, 0),
  (32, .iushr, 1, 0, 0, 0, 0),
  (33, .istore_n 0, 1, 0, 0, 0, 0),
  (34, .iload_n 0, 1, 0, 0, 0, 0),
  (35, .sipush 256, 3, 256, 0, 0, 0),
  (38, .if_icmp .le 11, 3, 0, 49, 0, 0),
  (41, .iinc 1 8, 3, 8, 1, 0, 0),
  (44, .iload_n 0, 1, 0, 0, 0, 0),
  (45, .bipush 8, 2, 8, 0, 0, 0),
  (47, .iushr, 1, 0, 0, 0, 0),
  (48, .istore_n 0, 1, 0, 0, 0, 0),
  (49, .iload_n 0, 1, 0, 0, 0, 0),
  (50, .bipush 16, 2, 16, 0, 0, 0),
  (52, .if_icmp .le 10, 3, 0, 62, 0, 0),
  (55, .iinc 1 4, 3, 4, 1, 0, 0),
  (58, .iload_n 0, 1, 0, 0, 0, 0),
  (59, .iconst 4, 1, 4, 0, 0, 0),
  (60, .iushr, 1, 0, 0, 0, 0),
  (61, .istore_n 0, 1, 0, 0, 0, 0),
  (62, .iload_n 0, 1, 0, 0, 0, 0),
  (63, .iconst 4, 1, 4, 0, 0, 0),
  (64, .if_icmp .le 10, 3, 0, 74, 0, 0),
  (67, .iinc 1 2, 3, 2, 1, 0, 0),
  (70, .iload_n 0, 1, 0, 0, 0, 0),
  (71, .iconst 2, 1, 2, 0, 0, 0),
  (72, .iushr, 1, 0, 0, 0, 0),
  (73, .istore_n 0, 1, 0, 0, 0, 0),
  (74, .iload_n 1, 1, 0, 1, 0, 0),
  (75, .iload_n 0, 1, 0, 0, 0, 0),
  (76, .iconst 1, 1, 1, 0, 0, 0),
  (77, .iushr, 1, 0, 0, 0, 0),
  (78, .iadd, 1, 0, 0, 0, 0),
  (79, .ireturn, 1, 0, 0, 0, 0)],
  [], [])
set_option maxRecDepth 100000 in
theorem vd_J6_numberOfTrailingZeros_0f7a4 : md_J6_numberOfTrailingZeros_0f7a4.cd.all (cb_vE md_J6_numberOfTrailingZeros_0f7a4) = true := by decide +kernel
theorem wd_J6_numberOfTrailingZeros_0f7a4 : cb_wd yJ6_numberOfTrailingZeros_0f7a4 md_J6_numberOfTrailingZeros_0f7a4 := ⟨cb_tw (i := 973) (by decide +kernel), cb_tw (i := 24) (by decide +kernel), by decide, by decide⟩
theorem cs_J6_numberOfTrailingZeros_0f7a4 : ∀ X, cb_Bs md_J6_numberOfTrailingZeros_0f7a4 X → ∀ g ∈ md_J6_numberOfTrailingZeros_0f7a4.ga, cb_CS cb_tb md_J6_numberOfTrailingZeros_0f7a4 X g := fun X B => fun _ h => nomatch h
theorem ok_J6_numberOfTrailingZeros_0f7a4 : cb_MOK cb_tb yJ6_numberOfTrailingZeros_0f7a4 md_J6_numberOfTrailingZeros_0f7a4 pt_J6_numberOfTrailingZeros_0f7a4 := by
  refine cb_ok1 ⟨by decide +kernel, rfl⟩ (by decide) cs_J6_numberOfTrailingZeros_0f7a4 (by decide) (fun X a M x hp h => cb_run cb_tb_ok vd_J6_numberOfTrailingZeros_0f7a4 (cuts := []) 80 ?_)
  obtain ⟨c, hc, rfl⟩ := hp
  obtain ⟨l1, l2⟩ := wm_tz_small c hc
  unfold wm_tz at h
  generalize hi : (nI c ^^^ (-1)) &&& (nI c - 1) = i at h l1 l2
  refine And.intro (fun q => And.intro (fun _ => And.intro (fun _ => And.intro (fun q1 => And.intro (fun q2 => ?_) (fun q2 => ?_)) (fun q1 => And.intro (fun q2 => ?_) (fun q2 => ?_))) (fun w => absurd (by rw [← hi] at l1; exact l1) w)) (fun w => absurd (by rw [← hi] at l2; exact l2) w)) (fun q => ?_)
  · have q : 0 < (nI c ^^^ (-1)) &&& (nI c - 1) := q
    have q1 : (nI c ^^^ (-1)) &&& (nI c - 1) ≤ 16 := q1
    have q2 : (nI c ^^^ (-1)) &&& (nI c - 1) ≤ 4 := q2
    refine And.intro trivial (cb_eqK (v := 1 + cb_ush ((nI c ^^^ (-1)) &&& (nI c - 1)) 1) h ?_)
    rw [hi] at *
    unfold wm_tzi
    rw [if_pos q, if_pos q1, if_pos q2]
  · have q : 0 < (nI c ^^^ (-1)) &&& (nI c - 1) := q
    have q1 : (nI c ^^^ (-1)) &&& (nI c - 1) ≤ 16 := q1
    have q2 : ¬ (nI c ^^^ (-1)) &&& (nI c - 1) ≤ 4 := q2
    refine And.intro trivial (cb_eqK (v := 1 + 2 + cb_ush (cb_ush ((nI c ^^^ (-1)) &&& (nI c - 1)) 2) 1) h ?_)
    rw [hi] at *
    unfold wm_tzi
    rw [if_pos q, if_pos q1, if_neg q2]
  · have q : 0 < (nI c ^^^ (-1)) &&& (nI c - 1) := q
    have q1 : ¬ (nI c ^^^ (-1)) &&& (nI c - 1) ≤ 16 := q1
    have q2 : cb_ush ((nI c ^^^ (-1)) &&& (nI c - 1)) 4 ≤ 4 := q2
    refine And.intro trivial (cb_eqK (v := 1 + 4 + cb_ush (cb_ush ((nI c ^^^ (-1)) &&& (nI c - 1)) 4) 1) h ?_)
    rw [hi] at *
    unfold wm_tzi
    rw [if_pos q, if_neg q1, if_pos q2]
  · have q : 0 < (nI c ^^^ (-1)) &&& (nI c - 1) := q
    have q1 : ¬ (nI c ^^^ (-1)) &&& (nI c - 1) ≤ 16 := q1
    have q2 : ¬ cb_ush ((nI c ^^^ (-1)) &&& (nI c - 1)) 4 ≤ 4 := q2
    refine And.intro trivial (cb_eqK (v := 1 + 4 + 2 + cb_ush (cb_ush (cb_ush ((nI c ^^^ (-1)) &&& (nI c - 1)) 4) 2) 1) h ?_)
    rw [hi] at *
    unfold wm_tzi
    rw [if_pos q, if_neg q1, if_neg q2]
  · have q : ¬ 0 < (nI c ^^^ (-1)) &&& (nI c - 1) := q
    refine And.intro trivial (cb_eqK (v := ((nI c ^^^ (-1)) &&& (nI c - 1)) &&& 32) h ?_)
    rw [hi] at *
    unfold wm_tzi
    rw [if_neg q]
theorem wm_ap_self (p : Int32) : wm_ap p p = 0 := by
  rw [wm_ap_ad, Int32.sub_self]
  decide
/-- they stand as they do now -/
def vq_std (V : wV) (k : Nat) : Bool := match (List.range V.n).find? (fun i => wn_run (vc V) (wu_all V.n) (vq_on V k).1 i) with
  | none => true
  | some a => (List.range V.n).all fun i => !wn_run (vc V) (wu_all V.n) (vq_on V k).1 i || decide (wm_ap ((vq_on V k).2.1 a) ((vq_on V k).2.1 i) = wm_ap (V.s.2.1 a) (V.s.2.1 i))
def sp_X9_standing : cb_Sw := fun r M K => match r with
  | [.inl N] => ∃ P n h nb, wa_I M P n h nb ∧ wg_r 1 100 N (K (.inr 1) M) fun k => ∀ M', cb_fx fr_Z M M' → K (.inl (some (cb_i (cb_z (vq_std (va M P n h nb) k))))) M'
  | _ => False
theorem wm_mask_nI {p : Nat → Bool} : ∀ {n : Nat}, n ≤ 8 → ∃ c, c < 2 ^ n ∧ wm_mask p n = nI c
  | 0, _ => ⟨0, by decide, rfl⟩
  | n + 1, h => by
    obtain ⟨c, hc, e⟩ := wm_mask_nI (p := p) (n := n) (by omega)
    rw [wm_mask, e]
    by_cases q : p n = true
    · rw [if_pos q]
      have : ∀ n, n < 8 → ∀ c, c < 2 ^ n → nI c ||| (1 : Int32) <<< (nI n &&& 31) = nI (c + 2 ^ n) := by decide +kernel
      refine ⟨c + 2 ^ n, ?_, this n (by omega) c hc⟩
      rw [Nat.pow_succ]
      omega
    · rw [if_neg q]
      refine ⟨c, ?_, by simp⟩
      rw [Nat.pow_succ]
      omega
theorem cb_find_some {p : Nat → Bool} {n a : Nat} (ha : a < n) (h : p a = true) (h2 : ∀ i, i < a → p i = false) : (List.range n).find? p = some a := by
  have e : List.range n = List.range a ++ (a :: (List.range (n - a - 1)).map (fun i => a + 1 + i)) := by
    have : n = a + (1 + (n - a - 1)) := by omega
    conv => lhs; rw [this, List.range_add, List.range_add]
    simp [List.map_map, Function.comp_def, Nat.add_assoc]
  rw [e, List.find?_append, List.find?_eq_none.mpr (fun x hx => by
    have := h2 x (List.mem_range.mp hx)
    simp [this])]
  simp [h]
theorem cb_find_none {p : Nat → Bool} {n : Nat} (h : ∀ i, i < n → p i = false) : (List.range n).find? p = none := List.find?_eq_none.mpr (fun x hx => by
  have := h x (List.mem_range.mp hx)
  simp [this])
theorem wm_low_some {c a : Nat} (h : wm_low c = some a) : a < 8 ∧ cb_bit (nI c) a = true ∧ ∀ i, i < a → cb_bit (nI c) i = false := by
  unfold wm_low at h
  have h1 := List.mem_of_find?_eq_some h
  have h2 := List.find?_some h
  have ha := List.mem_range.mp h1
  refine ⟨ha, h2, fun i hi => ?_⟩
  cases q : cb_bit (nI c) i with
  | false => rfl
  | true =>
    exfalso
    have : ∃ b, b ≤ i ∧ cb_bit (nI c) b = true ∧ ∀ j, j < b → cb_bit (nI c) j = false := by
      have : ∀ m, cb_bit (nI c) m = true → ∃ b, b ≤ m ∧ cb_bit (nI c) b = true ∧ ∀ j, j < b → cb_bit (nI c) j = false := by
        intro m
        induction m using Nat.strongRecOn with
        | ind m ih =>
          intro hm
          by_cases w : ∃ j, j < m ∧ cb_bit (nI c) j = true
          · obtain ⟨j, hj, hj2⟩ := w
            obtain ⟨b, b1, b2⟩ := ih j hj hj2
            exact ⟨b, by omega, b2⟩
          · refine ⟨m, Nat.le_refl _, hm, fun j hj => ?_⟩
            cases z : cb_bit (nI c) j with
            | false => rfl
            | true => exact absurd ⟨j, hj, z⟩ w
      exact this i q
    obtain ⟨b, b1, b2, b3⟩ := this
    have := cb_find_some (p := fun i => cb_bit (nI c) i) (n := 8) (by omega) b2 b3
    rw [this] at h
    have := Option.some.inj h
    omega
theorem wm_low_none {c : Nat} (h : wm_low c = none) : ∀ i, i < 8 → cb_bit (nI c) i = false := fun i hi => by
  have := List.find?_eq_none.mp h i (List.mem_range.mpr hi)
  simpa using this
def pt_X9_standing : cb_PT := cb_wm 1 sp_X9_standing
theorem rc_X9_standing : cb_rc cb_tb RX9 pt_X9_standing := cb_wm_rc
def md_X9_standing : cb_D := (RX9, cX9_standing, 5, (some .boolean), (1, 6, 8, 142), [
  (0, .iload_n 1, 1, 0, 1, 0, 0),
  (1, .invokestatic 220, 3, 0, 0, 0, 0),
  (4, .aload_n 0, 1, 0, 0, 0, 0),
  (5, .invokevirtual 162, 3, 0, 1, 0, 0),
  (8, .iload_n 1, 1, 0, 1, 0, 0),
  (9, .invokevirtual 196, 3, 0, 2, 0, 0),
  (12, .aload_n 0, 1, 0, 0, 0, 0),
  (13, .getfield 56, 3, 0, 9, 9, 367),
  (16, .invokevirtual 236, 3, 0, 3, 0, 0),
  (19, .istore_n 2, 1, 0, 2, 0, 0),
  (20, .iload_n 2, 1, 0, 2, 0, 0),
  (21, .invokestatic 239, 3, 0, 4, 0, 0),
  (24, .istore_n 3, 1, 0, 3, 0, 0),
  (25, .iload_n 3, 1, 0, 3, 0, 0),
  (26, .iconst 1, 1, 1, 0, 0, 0),
  (27, .iadd, 1, 0, 0, 0, 0),
  (28, .istore 4, 2, 0, 4, 0, 0),
  (30, .iload 4, 2, 0, 4, 0, 0),
  (32, .aload_n 0, 1, 0, 0, 0, 0),
  (33, .getfield 30, 3, 0, 9, 4, 362),
  (36, .getfield 114, 3, 0, 4, 1, 72),
  (39, .if_icmp .ge 48, 3, 0, 87, 0, 0),
  (42, .iload_n 2, 1, 0, 2, 0, 0),
  (43, .iload 4, 2, 0, 4, 0, 0),
  (45, .invokestatic 170, 3, 0, 5, 0, 0),
  (48, .iconst 1, 1, 1, 0, 0, 0),
  (49, .if_icmp .ne 32, 3, 0, 81, 0, 0),
  (52, .aload_n 0, 1, 0, 0, 0, 0),
  (53, .getfield 56, 3, 0, 9, 9, 367),
  (56, .iload_n 3, 1, 0, 3, 0, 0),
  (57, .iload 4, 2, 0, 4, 0, 0),
  (59, .invokevirtual 181, 3, 0, 6, 0, 0),
  (62, .aload_n 0, 1, 0, 0, 0, 0),
  (63, .getfield 40, 3, 0, 9, 6, 364),
  (66, .aload_n 0, 1, 0, 0, 0, 0),
  (67, .getfield 30, 3, 0, 9, 4, 362),
  (70, .iload_n 3, 1, 0, 3, 0, 0),
  (71, .iload 4, 2, 0, 4, 0, 0),
  (73, .invokevirtual 244, 3, 0, 7, 0, 0),
  (76, .if_icmp .eq 5, 3, 0, 81, 0, 0),
  (79, .iconst 0, 1, 0, 0, 0, 0),
  (80, .ireturn, 1, 0, 0, 0, 0),
  (81, .iinc 4 1, 3, 1, 4, 0, 0),
  (84, .goto (-54), 3, 0, 30, 0, 0),
  (87, .iconst 1, 1, 1, 0, 0, 0),
  (88, .ireturn, 1, 0, 0, 0, 0)],
  [(1, 220, 1, 1, 6, pt_X9_needDaysOn), (0, 162, 1, 0, 0, pt_X9_asTheyHang), (0, 196, 2, 0, 0, pt_X7_goDays), (0, 236, 1, 0, 0, pt_X7_runningOnes), (1, 239, 1, 0, 0, pt_J6_numberOfTrailingZeros_0f7a4), (1, 170, 2, 0, 0, pt_X9_bitOf), (0, 181, 3, 0, 0, pt_X7_apartFrom), (0, 244, 4, 0, 0, pt_X3_apartFrom)], [])
set_option maxRecDepth 100000 in
theorem vd_X9_standing : md_X9_standing.cd.all (cb_vE md_X9_standing) = true := by decide +kernel
theorem wd_X9_standing : cb_wd yX9_standing md_X9_standing := ⟨cb_tw (i := 969) (by decide +kernel), cb_tw (i := 1) (by decide +kernel), by decide, by decide⟩
theorem cs_X9_standing : ∀ X, cb_Bs md_X9_standing X → ∀ g ∈ md_X9_standing.ga, cb_CS cb_tb md_X9_standing X g := fun X B => List.forall_mem_cons.mpr ⟨cb_csS B ok_X9_needDaysOn wd_X9_needDaysOn (cb_tw (i := 937) (by decide +kernel)) (cb_tw (i := 938) (by decide +kernel)) ⟨by decide, by decide⟩ (by decide +kernel), List.forall_mem_cons.mpr ⟨cb_csV B ok_X9_asTheyHang wd_X9_asTheyHang (cb_tw (i := 420) (by decide +kernel)) (cb_tw (i := 422) (by decide +kernel)) (cb_tp (i := 1) (by decide +kernel)) rc_X9_asTheyHang ⟨by decide, by decide⟩ (by decide +kernel), List.forall_mem_cons.mpr ⟨cb_csV B ok_X7_goDays wd_X7_goDays (cb_tw (i := 891) (by decide +kernel)) (cb_tw (i := 892) (by decide +kernel)) (cb_tw (i := 893) (by decide +kernel)) rc_X7_goDays ⟨by decide, by decide⟩ (by decide +kernel), List.forall_mem_cons.mpr ⟨cb_csV B ok_X7_runningOnes wd_X7_runningOnes (cb_tw (i := 970) (by decide +kernel)) (cb_tw (i := 815) (by decide +kernel)) (cb_tw (i := 816) (by decide +kernel)) rc_X7_runningOnes ⟨by decide, by decide⟩ (by decide +kernel), List.forall_mem_cons.mpr ⟨cb_csS B ok_J6_numberOfTrailingZeros_0f7a4 wd_J6_numberOfTrailingZeros_0f7a4 (cb_tw (i := 971) (by decide +kernel)) (cb_tw (i := 972) (by decide +kernel)) ⟨by decide, by decide⟩ (by decide +kernel), List.forall_mem_cons.mpr ⟨cb_csS B ok_X9_bitOf wd_X9_bitOf (cb_tw (i := 823) (by decide +kernel)) (cb_tw (i := 440) (by decide +kernel)) ⟨by decide, by decide⟩ (by decide +kernel), List.forall_mem_cons.mpr ⟨cb_csV B ok_X7_apartFrom wd_X7_apartFrom (cb_tw (i := 843) (by decide +kernel)) (cb_tw (i := 495) (by decide +kernel)) (cb_tw (i := 496) (by decide +kernel)) rc_X7_apartFrom ⟨by decide, by decide⟩ (by decide +kernel), List.forall_mem_cons.mpr ⟨cb_csV B ok_X3_apartFrom wd_X3_apartFrom (cb_tw (i := 975) (by decide +kernel)) (cb_tw (i := 976) (by decide +kernel)) (cb_tw (i := 977) (by decide +kernel)) rc_X3_apartFrom ⟨by decide, by decide⟩ (by decide +kernel), fun _ h => nomatch h⟩⟩⟩⟩⟩⟩⟩⟩
theorem ok_X9_standing : cb_MOK cb_tb yX9_standing md_X9_standing pt_X9_standing := by
  refine cb_okw0 ⟨plainFor_of_name (by decide), rfl⟩ (by decide) cs_X9_standing (by decide) (fun X n0 f r M hr h => ?_)
  match r, hr, h with
  | [.inl N], hr, h =>
    obtain ⟨P, n, hh, nb, hI, h⟩ := h
    obtain ⟨hP, hS, hH, -⟩ := id hI
    have hn8 := hS.2.2.1
    refine cb_run cb_tb_ok vd_X9_standing (cuts := [30]) 90 ?_
    refine And.intro h.1 (fun k h1 h2 hN => ?_)
    have h := h.2 k h1 h2 hN
    refine And.intro (cb_on rfl) ⟨P, n, ⟨hP, hS⟩, fun M1 m hK => And.intro (cb_on rfl) ⟨P, n, m, k, ⟨hK.2.1, hK.2.2.1, hN, by omega⟩, fun M2 hF2 hs2 hp2 => ?_⟩⟩
    have hF := (hK.1.mono fr_T_Z).trans (hF2.fx fr_t_Z)
    have h := h M2 hF
    have hT2 := wk_T_fr hF2 hK.2.1.1
    have hs2 : wt_s M2 n = vq_on (va M P n hh nb) k := by
      rw [hs2, ← vq_on_k hI hK]
      rfl
    have hup : cb_gI M2 25 0 9 = wm_all (nI n) := (hF2.1 25 0 9 rfl).trans hK.2.2.2.2.2.2.2.1
    have haw : cb_gI M2 25 0 10 = 0 := (hF2.1 25 0 10 rfl).trans hK.2.2.2.2.2.2.2.2
    let run : Nat → Bool := fun i => wn_run (vc (va M P n hh nb)) (wu_all n) (vq_on (va M P n hh nb) k).1 i
    have hrun : ∀ i, i < n → cb_bit (wk_ro M2 P n) i = run i := fun i hi => by
      obtain ⟨ec, eu⟩ := wk_K_c hK
      rw [wk_ro_bit hn8 hi, wt_run hi, wt_c_fr hF2, wt_u_fr hF2, ec, eu, va_c hI]
      show wn_run _ _ (wt_s M2 n).1 i = _
      rw [hs2]
    have hc : ∃ c, c < 256 ∧ wk_ro M2 P n = nI c := by
      unfold wk_ro
      rw [if_pos haw, hup]
      have : wm_mask (wk_kp M2 P) n &&& wm_all (nI n) = wm_mask (wk_kp M2 P) n := by
        refine cb_bit_ext (fun i _ => ?_)
        rw [cb_bit_and, wm_mask_bit _ _ (by omega)]
        by_cases q : i < n
        · rw [wm_all_bit n hn8 i (by omega), decide_eq_true q]
          simp
        · rw [decide_eq_false q]
          rfl
      rw [this]
      obtain ⟨c, c1, c2⟩ := wm_mask_nI (p := wk_kp M2 P) hn8
      exact ⟨c, Nat.lt_of_lt_of_le c1 (Nat.pow_le_pow_right (n := 2) (by omega) hn8), c2⟩
    obtain ⟨c, hc1, hc2⟩ := hc
    have hge : ∀ i, n ≤ i → i < 8 → cb_bit (nI c) i = false := fun i h1 h2 => by
      rw [← hc2]
      unfold wk_ro
      rw [if_pos haw, cb_bit_and, wm_mask_bit _ _ (by omega), decide_eq_false (by omega)]
      rfl
    have hgR : cb_gR M2 0 0 4 = some P := (hF.2.1 0 0 4 (by decide)).trans hP
    have hcl : cb_gI M2 3 P 1 = nI n := (hF.1 3 P 1 rfl).trans hS.2.1
    refine And.intro (cb_on rfl) ⟨P, n, hT2, And.intro ⟨c, hc1, hc2⟩ ?_⟩
    have etz : wm_tz (wk_ro M2 P n) = match wm_low c with | some i => nI i | none => 32 := by rw [hc2]; exact wm_tz_val c hc1
    cases hlow : wm_low c with
    | none =>
      rw [hlow] at etz
      have etz : wm_tz (wk_ro M2 P n) = 32 := etz
      show cb_Gd cb_tb md_X9_standing X 30 [some (cb_r 0 0), some (cb_i (N)), some (cb_i (wk_ro M2 P n)), some (cb_i (wm_tz (wk_ro M2 P n))), some (cb_i (wm_tz (wk_ro M2 P n) + 1))] [] (cb_aS n0, f) M2 1 6
      rw [etz]
      refine cb_run cb_tb_ok vd_X9_standing (cuts := [30]) 90 ?_
      refine Exists.intro (some P) (And.intro hgR (cb_av.of (cb_aPP hS.1 rfl) (And.intro (fun _ => And.intro cb_rt1 ?_) (fun q => ?_))))
      · have : vq_std (va M P n hh nb) k = true := by
          unfold vq_std
          rw [cb_find_none (fun i hi => ?_)]
          rw [show wn_run (vc (va M P n hh nb)) (wu_all (va M P n hh nb).n) (vq_on (va M P n hh nb) k).1 i = run i from rfl, ← hrun i hi, hc2]
          exact wm_low_none hlow i (Nat.lt_of_lt_of_le hi hn8)
        rw [this] at h
        exact h
      · have q : ¬ cb_gI M2 3 P 1 ≤ 32 + 1 := q
        rw [hcl] at q
        exact absurd (nI_le (a := n) (b := 33) (by omega) (by decide)) q
    | some a =>
      rw [hlow] at etz
      have etz : wm_tz (wk_ro M2 P n) = nI a := etz
      obtain ⟨a8, ab, alo⟩ := wm_low_some hlow
      have han : a < n := Nat.not_le.mp (fun w => by rw [hge a w a8] at ab; cases ab)
      have hra : run a = true := by rw [← hrun a han, hc2]; exact ab
      have hrl : ∀ i, i < a → run i = false := fun i hi => by rw [← hrun i (by omega), hc2]; exact alo i hi
      let g : Nat → Bool := fun i => !run i || decide (wm_ap ((vq_on (va M P n hh nb) k).2.1 a) ((vq_on (va M P n hh nb) k).2.1 i) = wm_ap ((va M P n hh nb).s.2.1 a) ((va M P n hh nb).s.2.1 i))
      have estd : vq_std (va M P n hh nb) k = (List.range n).all g := by
        have e9 : (List.range (va M P n hh nb).n).find? (fun i => wn_run (vc (va M P n hh nb)) (wu_all (va M P n hh nb).n) (vq_on (va M P n hh nb) k).1 i) = some a := cb_find_some (p := run) han hra hrl
        unfold vq_std
        rw [e9]
        rfl
      have hx8 : vp_in (nI a) 8 := vp_in_nI a8 (by decide)
      have hxc : (nI a).toNatClampNeg = a := nI_clamp (by omega)
      have hp2' : ∀ i, i < n → cb_gI M2 27 0 i = (vq_on (va M P n hh nb) k).2.1 i := fun i hi => by
        rw [← hs2]
        exact (wn_tr_lt hi).symm
      have hpo : ∀ i, i < n → wm_pof (cb_gI M2 10 P) (cb_gI M2 17 0) i = (va M P n hh nb).s.2.1 i := fun i hi => by
        rw [hF.fn 10 P (fun _ => rfl), hF.fn 17 0 (fun _ => rfl)]
        exact (wn_tr_lt hi).symm
      have loop : ∀ j, j ≤ n → ∀ y : Int32, a < j → y = nI j → (List.range j).all g = true → cb_Gd cb_tb md_X9_standing X 30 [some (cb_r 0 0), some (cb_i (N)), some (cb_i (wk_ro M2 P n)), some (cb_i (nI a)), some (cb_i (y))] [] (cb_aS n0, f) M2 1 6 := by
        refine cb_up (fun j => ∀ y : Int32, a < j → y = nI j → (List.range j).all g = true → cb_Gd cb_tb md_X9_standing X 30 [some (cb_r 0 0), some (cb_i (N)), some (cb_i (wk_ro M2 P n)), some (cb_i (nI a)), some (cb_i (y))] [] (cb_aS n0, f) M2 1 6) ?_ ?_
        · intro y _ hy hz
          refine cb_run cb_tb_ok vd_X9_standing (cuts := [30]) 90 ?_
          refine Exists.intro (some P) (And.intro hgR (cb_av.of (cb_aPP hS.1 rfl) (cb_lout hy hcl (And.intro cb_rt1 ?_))))
          rw [estd, hz] at h
          exact h
        · intro j hj ih y haj hy hz
          have hy8 : vp_in y 8 := by rw [hy]; exact cb_in8 hj hn8 (by decide)
          have hyc : y.toNatClampNeg = j := by rw [hy]; exact nI_clamp (by omega)
          have nx : g j = true → cb_Gd cb_tb md_X9_standing X 30 [some (cb_r 0 0), some (cb_i (N)), some (cb_i (wk_ro M2 P n)), some (cb_i (nI a)), some (cb_i ((y + 1)))] [] (cb_aS n0, f) M2 1 6 := fun q => ih _ (by omega) (by rw [hy, nI_1]) (by rw [cb_all_succ, hz, q]; rfl)
          refine cb_run cb_tb_ok vd_X9_standing (cuts := [30]) 90 ?_
          refine Exists.intro (some P) (And.intro hgR (cb_av.of (cb_aPP hS.1 rfl) (cb_lin hy hcl hj (by omega) (And.intro (by rw [hy]; exact cb_in8 hj (by omega) (by decide)) (cb_ifn1 (fun q => ?_) (fun q => And.intro (cb_on rfl) (And.intro ⟨hx8, hy8⟩ (Exists.intro (some P) (And.intro hgR (And.intro (cb_on rfl) (And.intro ⟨hS.1, hx8, hy8⟩ (And.intro (fun q2 => ?_) (fun q2 => ?_)))))))))))))
          · rw [hyc, hrun j hj] at q
            exact nx (show (!run j || _) = true by rw [q]; rfl)
          · have q2 : wm_ap (cb_gI M2 27 0 (nI a).toNatClampNeg) (cb_gI M2 27 0 y.toNatClampNeg) = wm_ap (wm_pof (cb_gI M2 10 P) (cb_gI M2 17 0) (nI a).toNatClampNeg) (wm_pof (cb_gI M2 10 P) (cb_gI M2 17 0) y.toNatClampNeg) := q2
            rw [hxc, hyc, hp2' a han, hp2' j hj, hpo a han, hpo j hj] at q2
            exact nx (show (!run j || decide _) = true by rw [decide_eq_true q2]; simp)
          · have q2 : ¬ wm_ap (cb_gI M2 27 0 (nI a).toNatClampNeg) (cb_gI M2 27 0 y.toNatClampNeg) = wm_ap (wm_pof (cb_gI M2 10 P) (cb_gI M2 17 0) (nI a).toNatClampNeg) (wm_pof (cb_gI M2 10 P) (cb_gI M2 17 0) y.toNatClampNeg) := q2
            rw [hxc, hyc, hp2' a han, hp2' j hj, hpo a han, hpo j hj] at q2
            rw [hyc, hrun j hj] at q
            refine And.intro cb_rt0 ?_
            have : (List.range n).all g = false := cb_all_miss hj (show (!run j || decide _) = false by rw [q, decide_eq_false q2]; rfl)
            rw [estd, this] at h
            exact h
      show cb_Gd cb_tb md_X9_standing X 30 [some (cb_r 0 0), some (cb_i (N)), some (cb_i (wk_ro M2 P n)), some (cb_i (wm_tz (wk_ro M2 P n))), some (cb_i (wm_tz (wk_ro M2 P n) + 1))] [] (cb_aS n0, f) M2 1 6
      rw [etz]
      refine loop (a + 1) han _ (by omega) (nI_1 a) ?_
      refine List.all_eq_true.mpr (fun i hi => ?_)
      have hi := List.mem_range.mp hi
      by_cases q : i = a
      · subst q
        show (!run i || decide _) = true
        rw [decide_eq_true ((wm_ap_self _).trans (wm_ap_self _).symm)]
        simp
      · show (!run i || decide _) = true
        rw [hrl i (by omega)]
        rfl
/-! pairs in step as a long -/
def cb_lbit (x : Int64) (i : Nat) : Bool := x.toBitVec.getLsbD i
theorem cb_lbit_or (x y : Int64) (i : Nat) : cb_lbit (x ||| y) i = (cb_lbit x i || cb_lbit y i) := by
  unfold cb_lbit
  rw [Int64.toBitVec_or, BitVec.getLsbD_or]
theorem cb_lbit_one : ∀ k, k < 64 → ∀ j, j < 64 → cb_lbit (wm_lb k) j = decide (j = k) := by decide +kernel
theorem wm_sp1_bit {ph : wm_F} {a : Nat} {x : Int64} {q : Nat} (ha : a < 8) (hq : q < 64) : ∀ m, m ≤ 8 → cb_lbit (wm_sp1 ph a m x) q = (cb_lbit x q || (List.range m).any fun b => decide (a < b ∧ q = a * 8 + b) && wn_in ph a b)
  | 0, _ => by rw [wm_sp1]; simp
  | m + 1, h => by
    rw [wm_sp1, cb_any_succ, ← Bool.or_assoc, ← wm_sp1_bit ha hq m (by omega)]
    by_cases c : a < m ∧ wn_in ph a m = true
    · rw [if_pos c, cb_lbit_or, cb_lbit_one _ (by omega) _ hq, c.2, Bool.and_true]
      congr 1
      exact decide_eq_decide.mpr ⟨fun w => ⟨c.1, w⟩, fun w => w.2⟩
    · rw [if_neg c]
      have : (decide (a < m ∧ q = a * 8 + m) && wn_in ph a m) = false := by
        cases z : wn_in ph a m with
        | false => simp
        | true => rw [decide_eq_false (fun w => c ⟨w.1, z⟩)]; rfl
      rw [this, Bool.or_false]
theorem wm_sp_bit {ph : wm_F} {n : Nat} (hn : n ≤ 8) {a b : Nat} (hab : a < b) (hb : b < n) : ∀ m, m ≤ 8 → cb_lbit (wm_sp ph n m) (a * 8 + b) = (decide (a < m) && wn_in ph a b)
  | 0, _ => by
    rw [wm_sp]
    simp [cb_lbit]
  | m + 1, h => by
    rw [wm_sp, wm_sp1_bit (by omega) (by omega) n hn, wm_sp_bit hn hab hb m (by omega)]
    by_cases e : a = m
    · subst e
      have h1 : (List.range n).any (fun b' => decide (a < b' ∧ a * 8 + b = a * 8 + b') && wn_in ph a b') = wn_in ph a b := by
        cases z : wn_in ph a b with
        | true => exact cb_any_hit hb (by rw [z, decide_eq_true ⟨hab, rfl⟩]; rfl)
        | false =>
          refine List.any_eq_false.mpr (fun b' hb' => ?_)
          by_cases w : a < b' ∧ a * 8 + b = a * 8 + b'
          · have : b' = b := by omega
            rw [this, z]
            simp
          · rw [decide_eq_false w]
            simp
      rw [h1, decide_eq_false (by omega), decide_eq_true (by omega)]
      rfl
    · have h1 : (List.range n).any (fun b' => decide (m < b' ∧ a * 8 + b = m * 8 + b') && wn_in ph m b') = false := by
        refine List.any_eq_false.mpr (fun b' hb' => ?_)
        have := List.mem_range.mp hb'
        rw [decide_eq_false (by omega)]
        simp
      rw [h1, Bool.or_false]
      congr 1
      exact decide_eq_decide.mpr ⟨fun w => by omega, fun w => by omega⟩
theorem wm_sp1_cong {ph ph' : wm_F} {a : Nat} {x : Int64} : ∀ {m : Nat}, (∀ b, a < b → b < m → wn_in ph a b = wn_in ph' a b) → wm_sp1 ph a m x = wm_sp1 ph' a m x
  | 0, _ => rfl
  | m + 1, h => by
    rw [wm_sp1, wm_sp1, wm_sp1_cong (fun b h1 h2 => h b h1 (by omega))]
    by_cases c : a < m
    · rw [h m c (by omega)]
    · rw [if_neg (fun w => c w.1), if_neg (fun w => c w.1)]
theorem wm_sp_cong {ph ph' : wm_F} {n : Nat} (h : ∀ a b, a < b → b < n → wn_in ph a b = wn_in ph' a b) : ∀ m, wm_sp ph n m = wm_sp ph' n m
  | 0 => rfl
  | m + 1 => by rw [wm_sp, wm_sp, wm_sp_cong h m, wm_sp1_cong (fun b h1 h2 => h m b h1 h2)]
/-- the same are in step -/
def wn_same (ph ph' : wm_F) (n : Nat) : Bool := (List.range n).all fun b => (List.range b).all fun a => wn_in ph a b == wn_in ph' a b
theorem wn_same_iff {ph ph' : wm_F} {n : Nat} : wn_same ph ph' n = true ↔ ∀ a b, a < b → b < n → wn_in ph a b = wn_in ph' a b := by
  unfold wn_same
  constructor
  · intro h a b hab hb
    have := List.all_eq_true.mp (List.all_eq_true.mp h b (List.mem_range.mpr hb)) a (List.mem_range.mpr hab)
    simpa using this
  · intro h
    refine List.all_eq_true.mpr (fun b hb => List.all_eq_true.mpr (fun a ha => ?_))
    rw [h a b (List.mem_range.mp ha) (List.mem_range.mp hb)]
    simp
theorem wm_sp_same {ph ph' : wm_F} {n : Nat} (hn : n ≤ 8) : wm_sp ph n n = wm_sp ph' n n ↔ wn_same ph ph' n = true := by
  rw [wn_same_iff]
  constructor
  · intro h a b hab hb
    have h1 := wm_sp_bit (ph := ph) hn hab hb n hn
    have h2 := wm_sp_bit (ph := ph') hn hab hb n hn
    rw [h, h2, decide_eq_true (show a < n by omega), Bool.true_and, Bool.true_and] at h1
    exact h1.symm
  · exact fun h => wm_sp_cong h n
theorem lg_cmp_0 {x y : Int64} : lg_cmp x y = 0 ↔ x = y := by
  unfold lg_cmp
  constructor
  · intro h
    split at h
    · cases h
    · split at h
      · assumption
      · cases h
  · intro h
    subst h
    simp
/-- one begins pushed -/
def wt_set (s : wm_S) (i : Nat) (p : Int32) : wm_S := (s.1, fun a => if a = i then p else s.2.1 a, s.2.2)
def vq_pon (V : wV) (i : Nat) (p : Int32) (k : Nat) : wm_S := wn_days (vc V) (wu_all V.n) V.dp (wt_set V.s i p) k
def vq_p1 (V : wV) (m : Int32) (k i : Nat) (sg : Int32) : Int32 := cb_z (wn_same (vq_pon V i (wm_fmod (V.s.2.1 i + sg * m) 1000) k).2.1 V.s.2.1 V.n)
def vq_push (V : wV) (m : Int32) (k : Nat) : Int32 := wm_sum (fun i => vq_p1 V m k i (-1) + vq_p1 V m k i 1) V.n
