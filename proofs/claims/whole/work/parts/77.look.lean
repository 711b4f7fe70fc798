/-! ===== the reference: look ===== -/
def mu_f (f : wm_F) (r : Nat) : Bool := (List.range r).all fun q => decide (¬ f q = f r)
def mu_n (f : wm_F) : Nat → Nat
  | 0 => 0
  | r + 1 => mu_n f r + (if mu_f f r = true then 1 else 0)
theorem mu_n_le (f : wm_F) : ∀ r, mu_n f r ≤ r
  | 0 => Nat.le_refl _
  | r + 1 => by
    have := mu_n_le f r
    rw [mu_n]
    split <;> omega
theorem mu_n_cong {f g : wm_F} : ∀ {r}, (∀ a, a < r → f a = g a) → mu_n f r = mu_n g r
  | 0, _ => rfl
  | r + 1, h => by
    have e : mu_f f r = mu_f g r := by
      unfold mu_f
      refine cb_all_cong (fun q hq => ?_)
      rw [h q (by have := List.mem_range.mp hq; omega), h r (by omega)]
    rw [mu_n, mu_n, mu_n_cong (fun a ha => h a (by omega)), e]
theorem mu_n_same {f : wm_F} : ∀ {r}, (∀ a, a < r + 1 → f a = f 0) → mu_n f (r + 1) = 1
  | 0, _ => rfl
  | r + 1, h => by
    have e : mu_f f (r + 1) = false := by
      unfold mu_f
      cases z : (List.range (r + 1)).all fun q => decide (¬ f q = f (r + 1)) with
      | false => rfl
      | true =>
        have := of_decide_eq_true (List.all_eq_true.mp z 0 (List.mem_range.mpr (by omega)))
        exact absurd (h (r + 1) (by omega)).symm this
    rw [mu_n, mu_n_same (fun a ha => h a (by omega)), e]
    rfl
theorem mu_n_diff {f : wm_F} : ∀ {r}, (∀ a b, a < r → b < r → f a = f b → a = b) → mu_n f r = r
  | 0, _ => rfl
  | r + 1, h => by
    have e : mu_f f r = true := by
      unfold mu_f
      refine List.all_eq_true.mpr (fun q hq => decide_eq_true (fun w => ?_))
      have hq := List.mem_range.mp hq
      have := h q r (by omega) (by omega) w
      omega
    rw [mu_n, mu_n_diff (fun a b ha hb => h a b (by omega) (by omega)), if_pos e]
def pt_X10_unlike : cb_PT := fun As a M K => match As with
  | [.inr (.inr (some (t, i)))] => cb_ck (Nat.beq t 88) (cb_av (a.1 88 i) (K (.inl (some (cb_i (nI (mu_n (cb_gI M 88 i) 201))))) a M))
  | _ => False
theorem pt_unlike_to {As : List cb_V} {a : cb_A} {M : cb_M} {K : cb_Out → cb_A → cb_M → Prop} (h : pt_X10_unlike As a M K) : ∃ i, As = [cb_r 88 i] ∧ a.1 88 i = true ∧ K (.inl (some (cb_i (nI (mu_n (cb_gI M 88 i) 201))))) a M := by
  unfold pt_X10_unlike at h
  split at h
  · obtain ⟨g1, h1⟩ := h.to
    obtain ⟨g2, h2⟩ := h1.to
    have := Nat.eq_of_beq_eq_true g1
    subst this
    exact ⟨_, rfl, g2, h2⟩
  · exact h.elim
def md_X10_unlike : cb_D := (RX10, cX10_unlike, 5, (some .int), (0, 0, 0, 0), [
  (0, .iconst 0, 1, 0, 0, 0, 0),
  (1, .istore_n 1, 1, 0, 1, 0, 0),
  (2, .iconst 0, 1, 0, 0, 0, 0),
  (3, .istore_n 2, 1, 0, 2, 0, 0),
  (4, .iload_n 2, 1, 0, 2, 0, 0),
  (5, .sipush 201, 3, 201, 0, 0, 0),
  (8, .if_icmp .ge 58, 3, 0, 66, 0, 0),
  (11, .iconst 1, 1, 1, 0, 0, 0),
  (12, .istore_n 3, 1, 0, 3, 0, 0),
  (13, .iconst 0, 1, 0, 0, 0, 0),
  (14, .istore 4, 2, 0, 4, 0, 0),
  (16, .iload 4, 2, 0, 4, 0, 0),
  (18, .iload_n 2, 1, 0, 2, 0, 0),
  (19, .if_icmp .ge 29, 3, 0, 48, 0, 0),
  (22, .iload_n 3, 1, 0, 3, 0, 0),
  (23, .ifCond .eq 25, 3, 0, 48, 0, 0),
  (26, .aload_n 0, 1, 0, 0, 0, 0),
  (27, .iload 4, 2, 0, 4, 0, 0),
  (29, .iaload, 1, 0, 0, 0, 0),
  (30, .aload_n 0, 1, 0, 0, 0, 0),
  (31, .iload_n 2, 1, 0, 2, 0, 0),
  (32, .iaload, 1, 0, 0, 0, 0),
  (33, .if_icmp .eq 7, 3, 0, 40, 0, 0),
  (36, .iconst 1, 1, 1, 0, 0, 0),
  (37, .goto 4, 3, 0, 41, 0, 0),
  (40, .iconst 0, 1, 0, 0, 0, 0),
  (41, .istore_n 3, 1, 0, 3, 0, 0),
  (42, .iinc 4 1, 3, 1, 4, 0, 0),
  (45, .goto (-29), 3, 0, 16, 0, 0),
  (48, .iload_n 1, 1, 0, 1, 0, 0),
  (49, .iload_n 3, 1, 0, 3, 0, 0),
  (50, .ifCond .eq 7, 3, 0, 57, 0, 0),
  (53, .iconst 1, 1, 1, 0, 0, 0),
  (54, .goto 4, 3, 0, 58, 0, 0),
  (57, .iconst 0, 1, 0, 0, 0, 0),
  (58, .iadd, 1, 0, 0, 0, 0),
  (59, .istore_n 1, 1, 0, 1, 0, 0),
  (60, .iinc 2 1, 3, 1, 2, 0, 0),
  (63, .goto (-59), 3, 0, 4, 0, 0),
  (66, .iload_n 1, 1, 0, 1, 0, 0),
  (67, .ireturn, 1, 0, 0, 0, 0)],
  [], [])
set_option maxRecDepth 100000 in
theorem vd_X10_unlike : md_X10_unlike.cd.all (cb_vE md_X10_unlike) = true := by decide +kernel
theorem wd_X10_unlike : cb_wd yX10_unlike md_X10_unlike := ⟨cb_tw (i := 1791) (by decide +kernel), cb_tw (i := 11) (by decide +kernel), by decide, by decide⟩
theorem cs_X10_unlike : ∀ X, cb_Bs md_X10_unlike X → ∀ g ∈ md_X10_unlike.ga, cb_CS cb_tb md_X10_unlike X g := fun X B => fun _ h => nomatch h
theorem ok_X10_unlike : cb_MOK cb_tb yX10_unlike md_X10_unlike pt_X10_unlike := by
  refine cb_of ⟨plainFor_of_name (by decide), rfl⟩ (fun As a M K h => ?_) cs_X10_unlike (fun _ _ _ _ _ => cb_Ts0 (by decide)) (fun X As a M h => ?_)
  · obtain ⟨i, rfl, -⟩ := pt_unlike_to h
    exact (by decide : 1 ≤ 5)
  · obtain ⟨i, rfl, ha, h⟩ := pt_unlike_to h
    obtain ⟨F, hF⟩ : ∃ F, F = cb_gI M 88 i := ⟨_, rfl⟩
    rw [← hF] at h
    have loop : ∀ r, r ≤ 201 → ∀ (v3 v4 : Option cb_V), cb_Gd cb_tb md_X10_unlike X 4 [some (cb_r 88 i), some (cb_i (nI (mu_n F r))), some (cb_i (nI r)), v3, v4] [] a M 0 0 := by
      refine cb_up (fun r => ∀ (v3 v4 : Option cb_V), cb_Gd cb_tb md_X10_unlike X 4 [some (cb_r 88 i), some (cb_i (nI (mu_n F r))), some (cb_i (nI r)), v3, v4] [] a M 0 0) ?_ ?_
      · intro v3 v4
        refine cb_run cb_tb_ok vd_X10_unlike (cuts := [4]) 90 ?_
        exact cb_lout (n := 201) (N := 201) rfl rfl (And.intro trivial h)
      · intro r hr ih v3 v4
        have vr : vp_in (nI r) 201 := vp_in_nI hr (by decide)
        have cr : (nI r).toNatClampNeg = r := nI_clamp (by omega)
        have at48 : ∀ (b : Bool) (v4 : Option cb_V), b = mu_f F r → cb_Gd cb_tb md_X10_unlike X 48 [some (cb_r 88 i), some (cb_i (nI (mu_n F r))), some (cb_i (nI r)), some (cb_i (cb_z b)), v4] [] a M 0 0 := by
          intro b v4 hb
          have e : mu_n F (r + 1) = mu_n F r + (if b = true then 1 else 0) := by rw [mu_n, hb]
          have z := ih (some (cb_i (cb_z b))) v4
          rw [e] at z
          refine cb_run cb_tb_ok vd_X10_unlike (cuts := [4]) 90 ?_
          refine cb_ifz (fun q => ?_) (fun q => ?_)
          · subst q
            rw [if_neg (by decide)] at z
            show cb_Gd cb_tb md_X10_unlike X 4 [some (cb_r 88 i), some (cb_i (nI (mu_n F r) + 0)), some (cb_i (nI r + 1)), _, v4] [] a M 0 0
            rw [nI_1, Int32.add_zero]
            exact z
          · subst q
            rw [if_pos rfl] at z
            show cb_Gd cb_tb md_X10_unlike X 4 [some (cb_r 88 i), some (cb_i (nI (mu_n F r) + 1)), some (cb_i (nI r + 1)), _, v4] [] a M 0 0
            rw [nI_1, nI_1]
            exact z
        have inn : ∀ q, q ≤ r → ∀ b : Bool, b = ((List.range q).all fun p => decide (¬ F p = F r)) → cb_Gd cb_tb md_X10_unlike X 16 [some (cb_r 88 i), some (cb_i (nI (mu_n F r))), some (cb_i (nI r)), some (cb_i (cb_z b)), some (cb_i (nI q))] [] a M 0 0 := by
          refine cb_up (fun q => ∀ b : Bool, b = ((List.range q).all fun p => decide (¬ F p = F r)) → cb_Gd cb_tb md_X10_unlike X 16 [some (cb_r 88 i), some (cb_i (nI (mu_n F r))), some (cb_i (nI r)), some (cb_i (cb_z b)), some (cb_i (nI q))] [] a M 0 0) ?_ ?_
          · intro b hb
            refine cb_run cb_tb_ok vd_X10_unlike (cuts := [16, 48]) 90 ?_
            exact cb_lout (n := r) rfl rfl (at48 b _ hb)
          · intro q hq ih2 b hb
            have vq : vp_in (nI q) 201 := vp_in_nI (by omega) (by decide)
            have cq : (nI q).toNatClampNeg = q := nI_clamp (by omega)
            refine cb_run cb_tb_ok vd_X10_unlike (cuts := [16, 48]) 90 ?_
            refine cb_lin (n := r) rfl rfl hq (by omega) (cb_ifz (fun qb => at48 b _ ?_) (fun qb => cb_av.of ha (And.intro vq (cb_av.of ha (And.intro vr ?_)))))
            · rw [qb] at hb ⊢
              unfold mu_f
              cases z : (List.range r).all fun q => decide (¬ F q = F r) with
              | false => rfl
              | true =>
                rw [hb]
                refine (List.all_eq_true.mpr (fun p hp => ?_))
                exact List.all_eq_true.mp z p (List.mem_range.mpr (by have := List.mem_range.mp hp; omega))
            · have step : ∀ b' : Bool, b' = decide (¬ F q = F r) → cb_Gd cb_tb md_X10_unlike X 16 [some (cb_r 88 i), some (cb_i (nI (mu_n F r))), some (cb_i (nI r)), some (cb_i (cb_z b')), some (cb_i (nI q + 1))] [] a M 0 0 := by
                intro b' hb'
                rw [nI_1]
                refine ih2 b' ?_
                rw [cb_all_succ, ← hb, qb, hb']
                rfl
              refine And.intro (fun q2 => ?_) (fun q2 => ?_)
              · have q2 : cb_gI M 88 i (nI q).toNatClampNeg = cb_gI M 88 i (nI r).toNatClampNeg := q2
                rw [cq, cr, ← hF] at q2
                exact step false (decide_eq_false (fun w => w q2)).symm
              · have q2 : ¬ cb_gI M 88 i (nI q).toNatClampNeg = cb_gI M 88 i (nI r).toNatClampNeg := q2
                rw [cq, cr, ← hF] at q2
                exact step true (decide_eq_true q2).symm
        refine cb_run cb_tb_ok vd_X10_unlike (cuts := [4, 16]) 90 ?_
        exact cb_lin (n := 201) (N := 201) rfl rfl hr (by decide) (inn 0 (Nat.zero_le _) true rfl)
    refine cb_run cb_tb_ok vd_X10_unlike (cuts := [4]) 90 ?_
    exact loop 0 (Nat.zero_le _) none none
/-! until it goes, its rate is nothing -/
theorem wn_day_rt {c : wn_C} {u : wm_U} {dm : Int32} {s : wm_S} {i : Nat} {r : Int32} (h : wn_go c u s.1 s.2.1 i = false) : wn_day (wn_rt c i r) u dm s = wn_day c u dm s := by
  have e : ∀ a, ¬ a = i → wn_by (wn_rt c i r) u dm s.1 s.2.1 a = wn_by c u dm s.1 s.2.1 a := fun a ha => by
    show (if a = i then r else c.rt a) - dm + wn_pul c u s.1 s.2.1 a = _
    rw [if_neg ha]
    rfl
  refine Prod.ext rfl (Prod.ext (funext fun a => ?_) (funext fun a => ?_))
  · show (if a < c.n ∧ wn_go c u s.1 s.2.1 a = true then wm_fmod (s.2.1 a + wn_by (wn_rt c i r) u dm s.1 s.2.1 a) 1000 else s.2.1 a) = if a < c.n ∧ wn_go c u s.1 s.2.1 a = true then wm_fmod (s.2.1 a + wn_by c u dm s.1 s.2.1 a) 1000 else s.2.1 a
    by_cases q : a = i
    · subst q
      rw [if_neg (by rw [h]; simp), if_neg (by rw [h]; simp)]
    · rw [e a q]
  · show (if a < c.n ∧ wn_go c u s.1 s.2.1 a = true then s.2.2 a + wn_by (wn_rt c i r) u dm s.1 s.2.1 a else s.2.2 a) = if a < c.n ∧ wn_go c u s.1 s.2.1 a = true then s.2.2 a + wn_by c u dm s.1 s.2.1 a else s.2.2 a
    by_cases q : a = i
    · subst q
      rw [if_neg (by rw [h]; simp), if_neg (by rw [h]; simp)]
    · rw [e a q]
theorem vq_rt_on {V : wV} {i : Nat} {r : Int32} : ∀ {d : Nat}, (∀ g, g < d → vq_tel V i g = false) → vq_rt V i r d = vq_on V d
  | 0, _ => rfl
  | d + 1, h => by
    have e := vq_rt_on (r := r) (d := d) (fun g hg => h g (by omega))
    have hd := h d (by omega)
    unfold vq_rt vq_on at *
    rw [wn_days, wn_days, e]
    exact wn_day_rt hd
theorem vq_rt_1 {V : wV} {i : Nat} (hi : i < V.n) {r : Int32} {d : Nat} (h : ∀ g, g < d → vq_tel V i g = false) (hd : vq_tel V i d = true) : (vq_rt V i r (d + 1)).2.2 i = (vq_on V d).2.2 i + (r - wm_dmp V.dp (vq_on V d).1 + wn_pul (vc V) (wu_all V.n) (vq_on V d).1 (vq_on V d).2.1 i) := by
  have e := vq_rt_on (r := r) h
  show (wn_day (wn_rt (vc V) i r) (wu_all V.n) (wm_dmp V.dp (vq_rt V i r d).1) (vq_rt V i r d)).2.2 i = _
  rw [e]
  show (if i < V.n ∧ wn_go (vc V) (wu_all V.n) (vq_on V d).1 (vq_on V d).2.1 i = true then (vq_on V d).2.2 i + wn_by (wn_rt (vc V) i r) (wu_all V.n) (wm_dmp V.dp (vq_on V d).1) (vq_on V d).1 (vq_on V d).2.1 i else _) = _
  rw [if_pos ⟨hi, hd⟩]
  show _ + ((if i = i then r else _) - _ + _) = _
  rw [if_pos rfl]
  rfl
theorem vq_rt_0 {V : wV} {i : Nat} {r : Int32} {d : Nat} (h : ∀ g, g < d + 1 → vq_tel V i g = false) : (vq_rt V i r (d + 1)).2.2 i = (vq_on V (d + 1)).2.2 i := by rw [vq_rt_on h]
def vq_un (V : wV) (i d : Nat) : Nat := mu_n (fun a => (vq_rt V i (nI a - 100) (d + 1)).2.2 i) 201
theorem vq_un_0 {V : wV} {i d : Nat} (h : ∀ g, g < d + 1 → vq_tel V i g = false) : vq_un V i d = 1 := mu_n_same (r := 200) (fun a _ => (vq_rt_0 h).trans (vq_rt_0 h).symm)
theorem vq_un_1 {V : wV} {i d : Nat} (hi : i < V.n) (h : ∀ g, g < d → vq_tel V i g = false) (hd : vq_tel V i d = true) : vq_un V i d = 201 := by
  refine mu_n_diff (fun a b ha hb w => ?_)
  have w : (vq_rt V i (nI a - 100) (d + 1)).2.2 i = (vq_rt V i (nI b - 100) (d + 1)).2.2 i := w
  rw [vq_rt_1 hi h hd, vq_rt_1 hi h hd, Int32.add_right_inj, Int32.add_left_inj, Int32.sub_left_inj, Int32.sub_left_inj] at w
  exact (nI_eq (by omega) (by omega)).mp w
def ml_st (u : Nat → Nat) : Nat → Nat × Nat
  | 0 => (0, 0)
  | d + 1 => if (ml_st u d).2 < u d then (d + 1, u d) else ml_st u d
theorem ml_none {u : Nat → Nat} {p : Nat → Bool} (h1 : ∀ d, (∀ g, g < d + 1 → p g = false) → u d = 1) : ∀ {d}, (∀ g, g < d + 1 → p g = false) → ml_st u (d + 1) = (1, 1)
  | 0, h => by
    rw [ml_st, h1 0 h]
    rfl
  | d + 1, h => by
    rw [ml_st, ml_none h1 (fun g hg => h g (by omega)), h1 (d + 1) h]
    rfl
theorem ml_stay {u : Nat → Nat} (h3 : ∀ d, u d ≤ 201) {b d : Nat} (h : ml_st u d = (b, 201)) : ∀ e, ml_st u (d + e) = (b, 201)
  | 0 => h
  | e + 1 => by
    rw [← Nat.add_assoc, ml_st, ml_stay h3 h e, if_neg (by have := h3 (d + e); show ¬ 201 < _; omega)]
theorem ml_tell {u : Nat → Nat} {p : Nat → Bool} (h1 : ∀ d, (∀ g, g < d + 1 → p g = false) → u d = 1) (h2 : ∀ d, (∀ g, g < d → p g = false) → p d = true → u d = 201) (h3 : ∀ d, u d ≤ 201) {k : Nat} (hk : 1 ≤ k) (what : Int32) : wq_tell what p k = if what = 0 then nI (ml_st u k).1 else nI (ml_st u k).2 := by
  unfold wq_tell
  cases e : (List.range k).find? p with
  | none =>
    have hn : ∀ g, g < k → p g = false := fun g hg => by
      have := List.find?_eq_none.mp e g (List.mem_range.mpr hg)
      simpa using this
    obtain ⟨d, rfl⟩ : ∃ d, k = d + 1 := ⟨k - 1, by omega⟩
    rw [ml_none h1 hn]
    show (1 : Int32) = if what = 0 then nI 1 else nI 1
    split <;> rfl
  | some j =>
    obtain ⟨hp, hm, hb⟩ := List.find?_range_eq_some.mp e
    have hb : ∀ g, g < j → p g = false := fun g hg => by simpa using hb g hg
    have hjk := List.mem_range.mp hm
    have hj : ml_st u (j + 1) = (j + 1, 201) := by
      have : (ml_st u j).2 < 201 := by
        match j, hb with
        | 0, _ => exact (by decide : (0 : Nat) < 201)
        | d + 1, hb =>
          rw [ml_none h1 hb]
          decide
      rw [ml_st, h2 j hb hp, if_pos this]
    have := ml_stay h3 hj (k - (j + 1))
    rw [show j + 1 + (k - (j + 1)) = k by omega] at this
    rw [this]
    rfl
theorem ml_bd {u : Nat → Nat} (h3 : ∀ d, u d ≤ 201) : ∀ d, (ml_st u d).1 ≤ d ∧ (ml_st u d).2 ≤ 201
  | 0 => ⟨Nat.le_refl _, Nat.zero_le _⟩
  | d + 1 => by
    have := ml_bd h3 d
    have := h3 d
    rw [ml_st]
    split
    · exact ⟨Nat.le_refl _, this⟩
    · omega
theorem mk_c_rt {M M0 : cb_M} {n h nb i : Nat} {r : Int32} (hI : mi_I M n h nb) (hF0 : cb_fr fr_X (cb_sI M 66 0 i r) M0) (hi : i < n) : mk_c M0 n = wn_rt (vc (mv M n h nb)) i r := by
  rw [mk_c_X hF0, ← mv_c hI]
  unfold mk_c wn_rt
  refine Prod.ext rfl (Prod.ext rfl (Prod.ext rfl (Prod.ext rfl (Prod.ext rfl (Prod.ext (funext fun a => ?_) ?_)))))
  · show wn_tr n (cb_gI (cb_sI M 66 0 i r) 66 0) a = if a = i then r else wn_tr n (cb_gI M 66 0) a
    unfold wn_tr
    by_cases e : a = i
    · subst e
      rw [if_pos hi, cb_gs_eq, if_pos rfl]
    · rw [cb_gs_ne (fun w => e w.2.2), if_neg e]
  · funext a b
    rfl
def sp_X10_look : cb_Sp := fun _ r M K => match r with
  | [.inl x, .inl N, .inl what] => ∃ n h nb, mi_I M n h nb ∧ wg_c n x (mT 1 M K) fun i => wg_r 1 100 N (mT 2 M K) fun k => wg_i 0 1 what (mT 2 M K) (mR (wq_tell what (vq_tel (mv M n h nb) i) k) M K)
  | _ => False
def pt_X10_look : cb_PT := cb_m 46 3 sp_X10_look
theorem rc_X10_look : cb_rc cb_tb RX10 pt_X10_look := cb_m_rc rfl rfl
def md_X10_look : cb_D := (RX10, cX10_look, 9, (some .int), (0, 0, 5, 112), [
  (0, .aload_n 0, 1, 0, 0, 0, 0),
  (1, .iconst 0, 1, 0, 0, 0, 0),
  (2, .putfield 126, 3, 0, 10, 0, 1328),
  (5, .aload_n 0, 1, 0, 0, 0, 0),
  (6, .aload_n 0, 1, 0, 0, 0, 0),
  (7, .iload_n 1, 1, 0, 1, 0, 0),
  (8, .invokevirtual 267, 3, 0, 0, 0, 0),
  (11, .ifCond .ne 7, 3, 0, 18, 0, 0),
  (14, .iconst 1, 1, 1, 0, 0, 0),
  (15, .goto 4, 3, 0, 19, 0, 0),
  (18, .iconst 0, 1, 0, 0, 0, 0),
  (19, .iconst 1, 1, 1, 0, 0, 0),
  (20, .invokevirtual 200, 3, 0, 1, 0, 0),
  (23, .ifCond .ne 32, 3, 0, 55, 0, 0),
  (26, .aload_n 0, 1, 0, 0, 0, 0),
  (27, .iload_n 2, 1, 0, 2, 0, 0),
  (28, .invokestatic 295, 3, 0, 2, 0, 0),
  (31, .ifCond .eq 12, 3, 0, 43, 0, 0),
  (34, .iload_n 3, 1, 0, 3, 0, 0),
  (35, .iconst 0, 1, 0, 0, 0, 0),
  (36, .iconst 1, 1, 1, 0, 0, 0),
  (37, .invokestatic 160, 3, 0, 3, 0, 0),
  (40, .ifCond .ne 7, 3, 0, 47, 0, 0),
  (43, .iconst 1, 1, 1, 0, 0, 0),
  (44, .goto 4, 3, 0, 48, 0, 0),
  (47, .iconst 0, 1, 0, 0, 0, 0),
  (48, .iconst 2, 1, 2, 0, 0, 0),
  (49, .invokevirtual 200, 3, 0, 1, 0, 0),
  (52, .ifCond .eq 5, 3, 0, 57, 0, 0),
  (55, .iconst 0, 1, 0, 0, 0, 0),
  (56, .ireturn, 1, 0, 0, 0, 0),
  (57, .aload_n 0, 1, 0, 0, 0, 0),
  (58, .getfield 61, 3, 0, 10, 23, 1351),
  (61, .iload_n 1, 1, 0, 1, 0, 0),
  (62, .iaload, 1, 0, 0, 0, 0),
  (63, .istore 4, 2, 0, 4, 0, 0),
  (65, .iconst 0, 1, 0, 0, 0, 0),
  (66, .istore 5, 2, 0, 5, 0, 0),
  (68, .iconst 0, 1, 0, 0, 0, 0),
  (69, .istore 6, 2, 0, 6, 0, 0),
  (71, .iconst 0, 1, 0, 0, 0, 0),
  (72, .istore 7, 2, 0, 7, 0, 0),
  (74, .iload 7, 2, 0, 7, 0, 0),
  (76, .sipush 201, 3, 201, 0, 0, 0),
  (79, .if_icmp .ge 59, 3, 0, 138, 0, 0),
  (82, .aload_n 0, 1, 0, 0, 0, 0),
  (83, .getfield 61, 3, 0, 10, 23, 1351),
  (86, .iload_n 1, 1, 0, 1, 0, 0),
  (87, .iload 7, 2, 0, 7, 0, 0),
  (89, .bipush 100, 2, 100, 0, 0, 0),
  (91, .isub, 1, 0, 0, 0, 0),
  (92, .iastore, 1, 0, 0, 0, 0),
  (93, .aload_n 0, 1, 0, 0, 0, 0),
  (94, .invokevirtual 261, 3, 0, 4, 0, 0),
  (97, .iconst 0, 1, 0, 0, 0, 0),
  (98, .istore 8, 2, 0, 8, 0, 0),
  (100, .iload 8, 2, 0, 8, 0, 0),
  (102, .iload_n 2, 1, 0, 2, 0, 0),
  (103, .if_icmp .ge 29, 3, 0, 132, 0, 0),
  (106, .aload_n 0, 1, 0, 0, 0, 0),
  (107, .invokevirtual 264, 3, 0, 5, 0, 0),
  (110, .aload_n 0, 1, 0, 0, 0, 0),
  (111, .getfield 119, 3, 0, 10, 52, 1380),
  (114, .iload 8, 2, 0, 8, 0, 0),
  (116, .aaload, 1, 0, 0, 0, 0),
  (117, .iload 7, 2, 0, 7, 0, 0),
  (119, .aload_n 0, 1, 0, 0, 0, 0),
  (120, .getfield 97, 3, 0, 10, 38, 1366),
  (123, .iload_n 1, 1, 0, 1, 0, 0),
  (124, .iaload, 1, 0, 0, 0, 0),
  (125, .iastore, 1, 0, 0, 0, 0),
  (126, .iinc 8 1, 3, 1, 8, 0, 0),
  (129, .goto (-29), 3, 0, 100, 0, 0),
  (132, .iinc 7 1, 3, 1, 7, 0, 0),
  (135, .goto (-61), 3, 0, 74, 0, 0),
  (138, .aload_n 0, 1, 0, 0, 0, 0),
  (139, .getfield 61, 3, 0, 10, 23, 1351),
  (142, .iload_n 1, 1, 0, 1, 0, 0),
  (143, .iload 4, 2, 0, 4, 0, 0),
  (145, .iastore, 1, 0, 0, 0, 0),
  (146, .iconst 0, 1, 0, 0, 0, 0),
  (147, .istore 7, 2, 0, 7, 0, 0),
  (149, .iload 7, 2, 0, 7, 0, 0),
  (151, .iload_n 2, 1, 0, 2, 0, 0),
  (152, .if_icmp .ge 41, 3, 0, 193, 0, 0),
  (155, .aload_n 0, 1, 0, 0, 0, 0),
  (156, .getfield 119, 3, 0, 10, 52, 1380),
  (159, .iload 7, 2, 0, 7, 0, 0),
  (161, .aaload, 1, 0, 0, 0, 0),
  (162, .invokestatic 344, 3, 0, 6, 0, 0),
  (165, .istore 8, 2, 0, 8, 0, 0),
  (167, .iload 8, 2, 0, 8, 0, 0),
  (169, .iload 6, 2, 0, 6, 0, 0),
  (171, .if_icmp .gt 6, 3, 0, 177, 0, 0),
  (174, .goto 13, 3, 0, 187, 0, 0),
  (177, .iload 8, 2, 0, 8, 0, 0),
  (179, .istore 6, 2, 0, 6, 0, 0),
  (181, .iload 7, 2, 0, 7, 0, 0),
  (183, .iconst 1, 1, 1, 0, 0, 0),
  (184, .iadd, 1, 0, 0, 0, 0),
  (185, .istore 5, 2, 0, 5, 0, 0),
  (187, .iinc 7 1, 3, 1, 7, 0, 0),
  (190, .goto (-41), 3, 0, 149, 0, 0),
  (193, .iload_n 3, 1, 0, 3, 0, 0),
  (194, .ifCond .ne 8, 3, 0, 202, 0, 0),
  (197, .iload 5, 2, 0, 5, 0, 0),
  (199, .goto 5, 3, 0, 204, 0, 0),
  (202, .iload 6, 2, 0, 6, 0, 0),
  (204, .ireturn, 1, 0, 0, 0, 0)],
  [(0, 267, 2, 0, 0, pt_X10_isClock), (0, 200, 3, 0, 0, pt_X10_bad), (1, 295, 1, 0, 0, pt_X10_areDays), (1, 160, 3, 0, 0, pt_X10_in), (0, 261, 1, 0, 0, pt_X10_begins), (0, 264, 1, 0, 0, pt_X10_dayGoes), (1, 344, 1, 0, 0, pt_X10_unlike)], [])
set_option maxRecDepth 100000 in
theorem vd_X10_look : md_X10_look.cd.all (cb_vE md_X10_look) = true := by decide +kernel
theorem wd_X10_look : cb_wd yX10_look md_X10_look := ⟨cb_tw (i := 1788) (by decide +kernel), cb_tw (i := 11) (by decide +kernel), by decide, by decide⟩
theorem cs_X10_look : ∀ X, cb_Bs md_X10_look X → ∀ g ∈ md_X10_look.ga, cb_CS cb_tb md_X10_look X g := fun X B => List.forall_mem_cons.mpr ⟨cb_csV B ok_X10_isClock wd_X10_isClock (cb_tw (i := 1581) (by decide +kernel)) (cb_tw (i := 1583) (by decide +kernel)) (cb_tp (i := 58) (by decide +kernel)) rc_X10_isClock ⟨by decide, by decide⟩ (by decide +kernel), List.forall_mem_cons.mpr ⟨cb_csV B ok_X10_bad wd_X10_bad (cb_tw (i := 1507) (by decide +kernel)) (cb_tw (i := 1509) (by decide +kernel)) (cb_tp (i := 45) (by decide +kernel)) rc_X10_bad ⟨by decide, by decide⟩ (by decide +kernel), List.forall_mem_cons.mpr ⟨cb_csS B ok_X10_areDays wd_X10_areDays (cb_tw (i := 1702) (by decide +kernel)) (cb_tw (i := 1703) (by decide +kernel)) ⟨by decide, by decide⟩ (by decide +kernel), List.forall_mem_cons.mpr ⟨cb_csS B ok_X10_in wd_X10_in (cb_tw (i := 1504) (by decide +kernel)) (cb_tw (i := 1505) (by decide +kernel)) ⟨by decide, by decide⟩ (by decide +kernel), List.forall_mem_cons.mpr ⟨cb_csV B ok_X10_begins wd_X10_begins (cb_tw (i := 1585) (by decide +kernel)) (cb_tw (i := 1587) (by decide +kernel)) (cb_tp (i := 59) (by decide +kernel)) rc_X10_begins ⟨by decide, by decide⟩ (by decide +kernel), List.forall_mem_cons.mpr ⟨cb_csV B ok_X10_dayGoes wd_X10_dayGoes (cb_tw (i := 1650) (by decide +kernel)) (cb_tw (i := 1652) (by decide +kernel)) (cb_tp (i := 69) (by decide +kernel)) rc_X10_dayGoes ⟨by decide, by decide⟩ (by decide +kernel), List.forall_mem_cons.mpr ⟨cb_csS B ok_X10_unlike wd_X10_unlike (cb_tw (i := 1789) (by decide +kernel)) (cb_tw (i := 1790) (by decide +kernel)) ⟨by decide, by decide⟩ (by decide +kernel), fun _ h => nomatch h⟩⟩⟩⟩⟩⟩⟩
theorem ok_X10_look : cb_MOK cb_tb yX10_look md_X10_look pt_X10_look := by
  refine cb_okm ⟨plainFor_of_name (by decide), rfl⟩ (by decide) cs_X10_look (by decide) (fun X n0 f i r M hr ha h => ?_)
  have h0 := cb_a1 (T := 46) rfl ha
  subst h0
  match r, hr, h with
  | [.inl x, .inl N, .inl what], hr, h =>
    obtain ⟨n, hh, nb, hI, h⟩ := h
    obtain ⟨hG, -, hp, -, -, ⟨dy, hdy, hday⟩, hu, hw, hpr⟩ := id hI
    obtain ⟨hn1, hn8, -⟩ := id hG
    refine cb_run cb_tb_ok vd_X10_look (cuts := [74]) 90 ?_
    refine And.intro (cb_on rfl) ⟨n, ⟨hn1, hn8⟩, cb_ifnz (fun q => And.intro (cb_on rfl) (bad_f rfl (by decide) (nz_f ?_))) (fun q => And.intro (cb_on rfl) (bad_t rfl (by decide) (nz_t (And.intro trivial (h.1 (mi_c_f (by omega) q) _ (mx2 M 1) rfl)))))⟩
    obtain ⟨i, hi, hx⟩ := wg_yes (by omega) ((mi_c_iff (by omega)).mp q)
    have h := h.2 i hi hx
    refine And.intro trivial (cb_ifz (fun q => And.intro (cb_on rfl) (bad_t rfl (by decide) (ez_t (And.intro trivial (h.1 (mi_in_f q) _ (mx2 M 2) rfl))))) (fun q => ?_))
    obtain ⟨k, k1, k2, ke⟩ := mi_in_yes (lo := 1) (hi := 100) (by decide) (by decide) q
    have h := h.2 k k1 k2 ke
    refine cb_ifnz (fun q => And.intro (cb_on rfl) (bad_f rfl (by decide) (ez_f ?_))) (fun q => And.intro (cb_on rfl) (bad_t rfl (by decide) (ez_t (And.intro trivial (h.1 (mi_in_f q) _ (mx2 M 2) rfl)))))
    have h := h.2 (mi_in_t q)
    obtain ⟨V, hV⟩ : ∃ V, V = mv M n hh nb := ⟨_, rfl⟩
    have hVn : V.n = n := by rw [hV]; rfl
    rw [← hV] at h
    have hx8 : vp_in x 8 := by rw [hx]; exact cb_in8 hi hn8 (by decide)
    have hxc : x.toNatClampNeg = i := by rw [hx]; exact nI_clamp (by omega)
    have hres := ml_tell (u := vq_un V i) (p := vq_tel V i) (fun d hd => vq_un_0 hd) (fun d h1 h2 => vq_un_1 (by rw [hVn]; exact hi) h1 h2) (fun d => mu_n_le _ 201) (show 1 ≤ k by omega) what
    rw [hres] at h
    have last : ∀ M6, cb_fr fr_X M M6 → cb_gI M6 46 0 0 = 0 → (∀ d, d < k → mu_n (cb_gI M6 88 d) 201 = vq_un V i d) → ∀ v8 : Option cb_V, cb_Gd cb_tb md_X10_look X 149 [some (cb_r 46 0), some (cb_i (x)), some (cb_i (N)), some (cb_i (what)), some (cb_i (cb_gI M 66 0 i)), some (cb_i (0)), some (cb_i (0)), some (cb_i (0)), v8] [] (cb_aS n0, f) M6 0 0 := by
      intro M6 hF6 h06 hu6 v8
      have bd := ml_bd (u := vq_un V i) (fun d => mu_n_le _ 201)
      have loop : ∀ d, d ≤ k → ∀ (b m y : Int32) (v8 : Option cb_V), y = nI d → b = nI (ml_st (vq_un V i) d).1 → m = nI (ml_st (vq_un V i) d).2 → cb_Gd cb_tb md_X10_look X 149 [some (cb_r 46 0), some (cb_i (x)), some (cb_i (N)), some (cb_i (what)), some (cb_i (cb_gI M 66 0 i)), some (cb_i (b)), some (cb_i (m)), some (cb_i (y)), v8] [] (cb_aS n0, f) M6 0 0 := by
        refine cb_up (fun d => ∀ (b m y : Int32) (v8 : Option cb_V), y = nI d → b = nI (ml_st (vq_un V i) d).1 → m = nI (ml_st (vq_un V i) d).2 → cb_Gd cb_tb md_X10_look X 149 [some (cb_r 46 0), some (cb_i (x)), some (cb_i (N)), some (cb_i (what)), some (cb_i (cb_gI M 66 0 i)), some (cb_i (b)), some (cb_i (m)), some (cb_i (y)), v8] [] (cb_aS n0, f) M6 0 0) ?_ ?_
        · intro b m y v8 hy hb hm
          have h := h M6 hF6 h06
          refine cb_run cb_tb_ok vd_X10_look (cuts := [149]) 90 ?_
          refine cb_lout hy ke (cb_ifne (fun q => And.intro trivial ?_) (fun q => And.intro trivial ?_))
          · rw [if_neg q, ← hm] at h
            exact h
          · rw [if_pos q, ← hb] at h
            exact h
        · intro d hd ih b m y v8 hy hb hm
          have hy8 : vp_in y 100 := by rw [hy]; exact vp_in_nI (by omega) (by decide)
          have hyc : y.toNatClampNeg = d := by rw [hy]; exact nI_clamp (by omega)
          have ad : cb_aS n0 88 y.toNatClampNeg = true := by
            rw [hyc]
            show Nat.blt d 100 = true
            exact Nat.blt_eq.mpr (by omega)
          have eu : nI (mu_n (cb_gI M6 88 y.toNatClampNeg) 201) = nI (vq_un V i d) := by rw [hyc, hu6 d hd]
          have hus : vq_un V i d ≤ 201 := mu_n_le _ 201
          have hb1 := bd d
          have es : ml_st (vq_un V i) (d + 1) = if (ml_st (vq_un V i) d).2 < vq_un V i d then (d + 1, vq_un V i d) else ml_st (vq_un V i) d := rfl
          refine cb_run cb_tb_ok vd_X10_look (cuts := [149]) 90 ?_
          refine cb_lin hy ke hd (by omega) (And.intro hy8 (cb_av.of ad (And.intro (fun q => ?_) (fun q => ?_))))
          · have q : m < nI (mu_n (cb_gI M6 88 y.toNatClampNeg) 201) := q
            rw [eu, hm] at q
            have q := (nI_ltI (by omega) (by omega)).mp q
            rw [if_pos q] at es
            exact ih _ _ _ _ (by rw [hy]; exact nI_1 d) (by rw [es, hy]; exact nI_1 d) (by rw [es]; exact eu)
          · have q : ¬ m < nI (mu_n (cb_gI M6 88 y.toNatClampNeg) 201) := q
            rw [eu, hm] at q
            rw [if_neg (fun w => q (nI_lt w (by omega)))] at es
            exact ih _ _ _ _ (by rw [hy]; exact nI_1 d) (by rw [es]; exact hb) (by rw [es]; exact hm)
      exact loop 0 (Nat.zero_le _) _ _ _ _ rfl rfl rfl
    have out : ∀ j, j ≤ 201 → ∀ (y : Int32) (v8 : Option cb_V) (M2 : cb_M) (v : Int32), y = nI j → cb_fr fr_X (cb_sI M 66 0 i v) M2 → cb_gI M2 46 0 0 = 0 → (∀ d, d < k → ∀ a, a < j → cb_gI M2 88 d a = (vq_rt V i (nI a - 100) (d + 1)).2.2 i) → cb_Gd cb_tb md_X10_look X 74 [some (cb_r 46 0), some (cb_i (x)), some (cb_i (N)), some (cb_i (what)), some (cb_i (cb_gI M 66 0 i)), some (cb_i (0)), some (cb_i (0)), some (cb_i (y)), v8] [] (cb_aS n0, f) M2 0 0 := by
      refine cb_up (fun j => ∀ (y : Int32) (v8 : Option cb_V) (M2 : cb_M) (v : Int32), y = nI j → cb_fr fr_X (cb_sI M 66 0 i v) M2 → cb_gI M2 46 0 0 = 0 → (∀ d, d < k → ∀ a, a < j → cb_gI M2 88 d a = (vq_rt V i (nI a - 100) (d + 1)).2.2 i) → cb_Gd cb_tb md_X10_look X 74 [some (cb_r 46 0), some (cb_i (x)), some (cb_i (N)), some (cb_i (what)), some (cb_i (cb_gI M 66 0 i)), some (cb_i (0)), some (cb_i (0)), some (cb_i (y)), v8] [] (cb_aS n0, f) M2 0 0) ?_ ?_
      · intro y v8 M2 v hy hF h0 hz
        refine cb_run cb_tb_ok vd_X10_look (cuts := [74, 149]) 90 ?_
        refine cb_lout (N := 201) hy rfl (And.intro hx8 ?_)
        show cb_Gd cb_tb md_X10_look X 149 [some (cb_r 46 0), some (cb_i (x)), some (cb_i (N)), some (cb_i (what)), some (cb_i (cb_gI M 66 0 i)), some (cb_i (0)), some (cb_i (0)), some (cb_i (0)), v8] [] (cb_aS n0, f) (cb_sI M2 66 0 x.toNatClampNeg (cb_gI M 66 0 i)) 0 0
        rw [hxc]
        exact last _ (cb_fr.tmp hF rfl) h0 (fun d hd => mu_n_cong (fun a ha' => hz d hd a ha')) _
      · intro j hj ih y v8 M2 v hy hF h0 hz
        subst hy
        have hjc : (nI j).toNatClampNeg = j := nI_clamp (by omega)
        have hj8 : vp_in (nI j) 201 := vp_in_nI hj (by decide)
        obtain ⟨r0, hr0⟩ : ∃ r0, r0 = nI j - 100 := ⟨_, rfl⟩
        have inn : ∀ d, d ≤ k → ∀ (z : Int32) (M3 : cb_M), z = nI d → cb_fr fr_X (cb_sI M 66 0 i r0) M3 → cb_gI M3 46 0 0 = 0 → mk_P M3 n → mk_s M3 n = vq_rt V i r0 d → cb_gI M3 46 0 42 = nI (dy + d) → (∀ d, d < k → ∀ a, a < j → cb_gI M3 88 d a = (vq_rt V i (nI a - 100) (d + 1)).2.2 i) → (∀ e, e < d → cb_gI M3 88 e j = (vq_rt V i r0 (e + 1)).2.2 i) → cb_Gd cb_tb md_X10_look X 100 [some (cb_r 46 0), some (cb_i (x)), some (cb_i (N)), some (cb_i (what)), some (cb_i (cb_gI M 66 0 i)), some (cb_i (0)), some (cb_i (0)), some (cb_i (nI j)), some (cb_i (z))] [] (cb_aS n0, f) M3 0 0 := by
          refine cb_up (fun d => ∀ (z : Int32) (M3 : cb_M), z = nI d → cb_fr fr_X (cb_sI M 66 0 i r0) M3 → cb_gI M3 46 0 0 = 0 → mk_P M3 n → mk_s M3 n = vq_rt V i r0 d → cb_gI M3 46 0 42 = nI (dy + d) → (∀ d, d < k → ∀ a, a < j → cb_gI M3 88 d a = (vq_rt V i (nI a - 100) (d + 1)).2.2 i) → (∀ e, e < d → cb_gI M3 88 e j = (vq_rt V i r0 (e + 1)).2.2 i) → cb_Gd cb_tb md_X10_look X 100 [some (cb_r 46 0), some (cb_i (x)), some (cb_i (N)), some (cb_i (what)), some (cb_i (cb_gI M 66 0 i)), some (cb_i (0)), some (cb_i (0)), some (cb_i (nI j)), some (cb_i (z))] [] (cb_aS n0, f) M3 0 0) ?_ ?_
          · intro z M3 hz3 hF3 h03 hP3 hs3 h42 g1 g2
            refine cb_run cb_tb_ok vd_X10_look (cuts := [74, 100]) 90 ?_
            refine cb_lout hz3 ke ?_
            refine ih _ _ M3 r0 (nI_1 j) hF3 h03 (fun d hd a ha' => ?_)
            by_cases e : a = j
            · subst e
              rw [← hr0]
              exact g2 d hd
            · exact g1 d hd a (by omega)
          · intro d hd ih2 z M3 hz3 hF3 h03 hP3 hs3 h42 g1 g2
            have hz8 : vp_in z 100 := by rw [hz3]; exact vp_in_nI (by omega) (by decide)
            have hzc : z.toNatClampNeg = d := by rw [hz3]; exact nI_clamp (by omega)
            have ad : cb_aS n0 88 z.toNatClampNeg = true := by
              rw [hzc]
              show Nat.blt d 100 = true
              exact Nat.blt_eq.mpr (by omega)
            have hu3 : mk_u M3 n = wu_all n := mu_all hn8 ((hF3.1 46 0 41 rfl).trans hu) ((hF3.1 46 0 45 rfl).trans hpr)
            have hc3 : mk_c M3 n = wn_rt (vc V) i r0 := by rw [hV]; exact mk_c_rt hI hF3 hi
            have hD3 : mk_D M3 = wm_dmp V.dp (mk_s M3 n).1 := by
              unfold mk_D
              rw [if_pos ((hF3.1 46 0 45 rfl).trans hpr), if_pos ((hF3.1 46 0 44 rfl).trans hw), Int32.add_zero, hF3.fn 53 0 (fun _ => rfl), hV]
              exact (wm_dmp_tr _ _).symm
            refine cb_run cb_tb_ok vd_X10_look (cuts := [74, 100]) 90 ?_
            refine cb_lin hz3 ke hd (by omega) (And.intro (cb_on rfl) ⟨n, dy + d, ⟨mk_G_X hF3 hG, hP3, h42, by omega⟩, fun M4 hF4 hP4 hs4 _ => And.intro hz8 (And.intro hx8 (cb_av.of ad (And.intro hj8 ?_)))⟩)
            have hs5 : mk_s M4 n = vq_rt V i r0 (d + 1) := by
              rw [hs4, hc3, hu3, hD3, hs3, ← hVn]
              rfl
            show cb_Gd cb_tb md_X10_look X 100 [some (cb_r 46 0), some (cb_i (x)), some (cb_i (N)), some (cb_i (what)), some (cb_i (cb_gI M 66 0 i)), some (cb_i (0)), some (cb_i (0)), some (cb_i (nI j)), some (cb_i (z + 1))] [] (cb_aS n0, f) (cb_sI M4 88 z.toNatClampNeg (nI j).toNatClampNeg (cb_gI M4 81 0 x.toNatClampNeg)) 0 0
            rw [hzc, hjc, hxc]
            refine ih2 _ _ (by rw [hz3]; exact nI_1 d) ((hF3.trans (hF4.mono fr_n_X)).set _ rfl) ((hF4.1 46 0 0 rfl).trans h03) hP4 hs5 ?_ (fun e he a ha' => ?_) (fun e he => ?_)
            · have : (mk_s M4 n).1 = (mk_s M3 n).1 + 1 := by rw [hs4]; rfl
              have : cb_gI M4 46 0 42 = cb_gI M3 46 0 42 + 1 := this
              show cb_gI M4 46 0 42 = _
              rw [this, h42, nI_1]
              rfl
            · rw [cb_gs_ne (by omega), hF4.1 88 e a rfl]
              exact g1 e he a ha'
            · by_cases q : e = d
              · subst q
                rw [cb_gs_eq, ← hs5]
                exact (wn_tr_lt hi).symm
              · rw [cb_gs_ne (by omega), hF4.1 88 e j rfl]
                exact g2 e (by omega)
        refine cb_run cb_tb_ok vd_X10_look (cuts := [74, 100]) 90 ?_
        refine cb_lin (N := 201) (n := 201) rfl rfl hj (by decide) (And.intro hx8 (And.intro (cb_on rfl) ?_))
        show sp_X10_begins 0 [] (cb_sI M2 66 0 x.toNatClampNeg (nI j - 100)) _
        rw [hxc, ← hr0]
        have hF3 := hF.re r0
        refine ⟨n, ⟨(hF3.1 49 0 1 rfl).trans hn1, hn8⟩, fun M3 hF3' hs3 _ => ?_⟩
        have hs3' : mk_s M3 n = V.s := by
          rw [hs3, mk_b_X hF3, hV]
          rfl
        refine inn 0 (Nat.zero_le _) _ M3 rfl (hF3.trans (hF3'.mono fr_n_X)) ((hF3'.1 46 0 0 rfl).trans h0) ?_ hs3' ?_ (fun d hd a ha' => ?_) (fun e he => absurd he (by omega))
        · rw [mk_P_s, hs3', hV]
          intro a ha'
          show wm_ph (wn_tr n (cb_gI M 69 0) a)
          rw [wn_tr_lt ha']
          exact (hp a ha').2
        · have : (mk_s M3 n).1 = V.s.1 := by rw [hs3']
          refine this.trans ?_
          rw [hV]
          exact hday
        · rw [hF3'.1 88 d a rfl]
          exact hz d hd a ha'
    refine And.intro hx8 ?_
    show cb_Gd cb_tb md_X10_look X 74 [some (cb_r 46 0), some (cb_i (x)), some (cb_i (N)), some (cb_i (what)), some (cb_i (cb_gI M 66 0 x.toNatClampNeg)), some (cb_i (0)), some (cb_i (0)), some (cb_i (0)), none] [] (cb_aS n0, f) (cb_sI M 46 0 0 0) 0 0
    rw [hxc]
    refine out 0 (Nat.zero_le _) _ _ _ (cb_gI M 66 0 i) rfl ?_ rfl (fun d hd a ha' => absurd ha' (by omega))
    rw [cb_sI_self]
    exact mx1 M
