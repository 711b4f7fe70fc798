/-! ===== the law's cases: clock, hearing, apart, step, off, hook ===== -/
def lr_clock : List cb_O := [(418, .aload_n 1, 1, 0, 1, 0, 0),
  (431, .aload_n 3, 1, 0, 3, 0, 0),
  (435, .istore 5, 2, 0, 5, 0, 0),
  (437, .aload_n 2, 1, 0, 2, 0, 0),
  (453, .istore 6, 2, 0, 6, 0, 0),
  (455, .aload_n 2, 1, 0, 2, 0, 0),
  (459, .iload 5, 2, 0, 5, 0, 0),
  (461, .if_icmp .eq 5, 3, 0, 466, 0, 0),
  (464, .iconst 0, 1, 0, 0, 0, 0),
  (465, .ireturn, 1, 0, 0, 0, 0),
  (466, .iload 5, 2, 0, 5, 0, 0),
  (468, .ifCond .ne 15, 3, 0, 483, 0, 0),
  (471, .aload_n 3, 1, 0, 3, 0, 0),
  (472, .iconst 0, 1, 0, 0, 0, 0),
  (473, .laload, 1, 0, 0, 0, 0),
  (474, .iload 6, 2, 0, 6, 0, 0),
  (476, .i2l, 1, 0, 0, 0, 0),
  (477, .lcmp, 1, 0, 0, 0, 0),
  (478, .ifCond .eq 5, 3, 0, 483, 0, 0),
  (481, .iconst 0, 1, 0, 0, 0, 0),
  (482, .ireturn, 1, 0, 0, 0, 0),
  (483, .goto 2255, 3, 0, 2738, 0, 0)]
set_option maxRecDepth 100000 in
theorem vr_clock : (lw_D lr_clock []).cd.all (cb_vE (lw_D lr_clock [])) = true := by decide +kernel
theorem lc_clock {L : Nat} {xs : Nat → Int32} {X : cb_X} {iv : Int32} {m k n : Nat} {f : Option Nat} {M : cb_M} (E : lw_E L xs X) (hv : lw_iv iv L) (hR : re_R M m) (hk : k + 8 ≤ room_1.cells) (hn : n + 3252 ≤ room_1.slots) (h : ∀ f' M', re_R M' m → cb_Gd cb_tb lw_0 X 2738 (lw_l iv) [] (cb_aS m, f') M' (k + 8) (n + 3252)) : cb_Gd cb_tb lw_0 X 418 (lw_l iv) [] (cb_aS m, f) M k n := by
  refine cb_Gd.same (cd := lr_clock) (sw := []) (by decide) ?_
  have B := E.bs lr_clock []
  refine cb_run cb_tb_ok vr_clock (cuts := [419]) 20 ?_
  refine cl_arg E (ic := 1) (c := 1) rfl hv.2.1 (by decide +kernel) rfl rfl ?_
  refine cl_arg E (ic := 2) (c := 2) rfl hv.2.2.1 (by decide +kernel) rfl rfl ?_
  refine cb_run cb_tb_ok vr_clock (cuts := [432]) 20 ?_
  refine cl_help (K := lw_KH false sp_X10_clock [cb_i (xs (iv + 1).toNatClampNeg), cb_i (xs (iv + 2).toNatClampNeg)] m) (As := cb_r 0 0 :: ([cb_i (xs (iv + 1).toNatClampNeg), cb_i (xs (iv + 2).toNatClampNeg)] ++ [cb_r 90 0])) (st := []) ok_L_clock E.2.1 E.2.2.1 (cb_tw (i := 779) (by decide +kernel)) (by decide +kernel) (cb_tw (i := 0) (by decide +kernel)) ⟨by decide, by decide⟩ (cb_tw (i := 777) (by decide +kernel)) (cb_tw (i := 778) (by decide +kernel)) ⟨by decide, by decide⟩ (idx := 144) (na := 4) (by decide +kernel) rfl (by decide) (by show k + 2 ≤ room_1.cells; omega) (by show n + 12 ≤ room_1.slots; omega) (by decide +kernel) lw_KHx (hl_ref (re_clock hR _ _) re_c2_0 rfl rfl) (fun v a1 M1 hK => ?_)
  match v, hK with
  | some (.inl c), hK =>
    obtain ⟨f1, rfl, K2, h2, hT⟩ := hK
    refine cb_run cb_tb_ok vr_clock (cuts := [438]) 20 ?_
    refine cl_arg E (ic := 1) (c := 1) rfl hv.2.1 (by decide +kernel) rfl rfl ?_
    refine cl_arg E (ic := 2) (c := 2) rfl hv.2.2.1 (by decide +kernel) rfl rfl ?_
    refine cl_call (As := cb_r 46 0 :: [cb_i (xs (iv + 1).toNatClampNeg), cb_i (xs (iv + 2).toNatClampNeg)]) (st := []) (cb_csV (idx := 147) (na := 3) B ok_X10_clock wd_X10_clock (cb_tw (i := 1577) (by decide +kernel)) (cb_tw (i := 1578) (by decide +kernel)) (cb_tw (i := 1579) (by decide +kernel)) rc_X10_clock ⟨by decide, by decide⟩ (by decide +kernel)) rfl (by decide) (by show k + 2 + 0 ≤ room_1.cells; omega) (by show n + 12 + 0 ≤ room_1.slots; omega) (by decide +kernel) (hl_m rfl rfl h2) (fun v a2 M2 hK => ?_) (fun _ _ _ h => h)
    obtain ⟨rfl, h3⟩ := hK
    obtain ⟨u, rfl, e0, hR2, hL⟩ := hT _ _ h3
    refine cb_run cb_tb_ok vr_clock (cuts := [456]) 20 ?_
    refine cl_call (As := [cb_r 46 0]) (st := []) (lw_thr B) rfl (by decide) (by show k + 2 + 0 + 0 ≤ room_1.cells; omega) (by show n + 12 + 0 + 0 ≤ room_1.slots; omega) (by decide +kernel) (hl_m (K2 := fun w M3 => w = some (cb_i (cb_gI M2 46 0 0)) ∧ M3 = M2) rfl rfl ⟨rfl, rfl⟩) (fun v a3 M3 hK => ?_) (fun _ _ _ h => h)
    obtain ⟨rfl, rfl, rfl⟩ := hK
    refine cb_run cb_tb_ok vr_clock (cuts := [2738]) 40 ?_
    have h9 := h f1 _ hR2
    have w1 : k + 2 + 0 + 0 ≤ k + 8 := by omega
    have w2 : n + 12 + 0 + 0 ≤ n + 3252 := by omega
    refine And.intro (fun q1 => And.intro (fun q2 => lw_back w1 w2 h9) (fun q2 => And.intro vp01 ?_)) (fun q1 => absurd e0 q1)
    have q2 : ¬ ¬ c = 0 := q2
    have hc : c = 0 := Classical.byContradiction q2
    have hL := hL hc
    exact And.intro (fun q4 => lw_back w1 w2 h9) (fun q4 => absurd (lw_lc hL) q4)
def lr_hearing : List cb_O := [(486, .aload_n 1, 1, 0, 1, 0, 0),
  (499, .aload_n 3, 1, 0, 3, 0, 0),
  (503, .istore 5, 2, 0, 5, 0, 0),
  (505, .aload_n 2, 1, 0, 2, 0, 0),
  (521, .istore 6, 2, 0, 6, 0, 0),
  (523, .aload_n 2, 1, 0, 2, 0, 0),
  (527, .iload 5, 2, 0, 5, 0, 0),
  (529, .if_icmp .eq 5, 3, 0, 534, 0, 0),
  (532, .iconst 0, 1, 0, 0, 0, 0),
  (533, .ireturn, 1, 0, 0, 0, 0),
  (534, .iload 5, 2, 0, 5, 0, 0),
  (536, .ifCond .ne 15, 3, 0, 551, 0, 0),
  (539, .aload_n 3, 1, 0, 3, 0, 0),
  (540, .iconst 0, 1, 0, 0, 0, 0),
  (541, .laload, 1, 0, 0, 0, 0),
  (542, .iload 6, 2, 0, 6, 0, 0),
  (544, .i2l, 1, 0, 0, 0, 0),
  (545, .lcmp, 1, 0, 0, 0, 0),
  (546, .ifCond .eq 5, 3, 0, 551, 0, 0),
  (549, .iconst 0, 1, 0, 0, 0, 0),
  (550, .ireturn, 1, 0, 0, 0, 0),
  (551, .goto 2187, 3, 0, 2738, 0, 0)]
set_option maxRecDepth 100000 in
theorem vr_hearing : (lw_D lr_hearing []).cd.all (cb_vE (lw_D lr_hearing [])) = true := by decide +kernel
theorem lc_hearing {L : Nat} {xs : Nat → Int32} {X : cb_X} {iv : Int32} {m k n : Nat} {f : Option Nat} {M : cb_M} (E : lw_E L xs X) (hv : lw_iv iv L) (hR : re_R M m) (hk : k + 8 ≤ room_1.cells) (hn : n + 3252 ≤ room_1.slots) (h : ∀ f' M', re_R M' m → cb_Gd cb_tb lw_0 X 2738 (lw_l iv) [] (cb_aS m, f') M' (k + 8) (n + 3252)) : cb_Gd cb_tb lw_0 X 486 (lw_l iv) [] (cb_aS m, f) M k n := by
  refine cb_Gd.same (cd := lr_hearing) (sw := []) (by decide) ?_
  have B := E.bs lr_hearing []
  refine cb_run cb_tb_ok vr_hearing (cuts := [487]) 20 ?_
  refine cl_arg E (ic := 1) (c := 1) rfl hv.2.1 (by decide +kernel) rfl rfl ?_
  refine cl_arg E (ic := 2) (c := 2) rfl hv.2.2.1 (by decide +kernel) rfl rfl ?_
  refine cb_run cb_tb_ok vr_hearing (cuts := [500]) 20 ?_
  refine cl_help (K := lw_KH false sp_X10_hearing [cb_i (xs (iv + 1).toNatClampNeg), cb_i (xs (iv + 2).toNatClampNeg)] m) (As := cb_r 0 0 :: ([cb_i (xs (iv + 1).toNatClampNeg), cb_i (xs (iv + 2).toNatClampNeg)] ++ [cb_r 90 0])) (st := []) ok_L_hearing E.2.1 E.2.2.1 (cb_tw (i := 826) (by decide +kernel)) (by decide +kernel) (cb_tw (i := 0) (by decide +kernel)) ⟨by decide, by decide⟩ (cb_tw (i := 824) (by decide +kernel)) (cb_tw (i := 825) (by decide +kernel)) ⟨by decide, by decide⟩ (idx := 148) (na := 4) (by decide +kernel) rfl (by decide) (by show k + 3 ≤ room_1.cells; omega) (by show n + 18 ≤ room_1.slots; omega) (by decide +kernel) lw_KHx (hl_ref (re_hearing hR _ _) re_c2_0 rfl rfl) (fun v a1 M1 hK => ?_)
  match v, hK with
  | some (.inl c), hK =>
    obtain ⟨f1, rfl, K2, h2, hT⟩ := hK
    refine cb_run cb_tb_ok vr_hearing (cuts := [506]) 20 ?_
    refine cl_arg E (ic := 1) (c := 1) rfl hv.2.1 (by decide +kernel) rfl rfl ?_
    refine cl_arg E (ic := 2) (c := 2) rfl hv.2.2.1 (by decide +kernel) rfl rfl ?_
    refine cl_call (As := cb_r 46 0 :: [cb_i (xs (iv + 1).toNatClampNeg), cb_i (xs (iv + 2).toNatClampNeg)]) (st := []) (cb_csV (idx := 150) (na := 3) B ok_X10_hearing wd_X10_hearing (cb_tw (i := 1601) (by decide +kernel)) (cb_tw (i := 1602) (by decide +kernel)) (cb_tw (i := 1603) (by decide +kernel)) rc_X10_hearing ⟨by decide, by decide⟩ (by decide +kernel)) rfl (by decide) (by show k + 3 + 0 ≤ room_1.cells; omega) (by show n + 18 + 0 ≤ room_1.slots; omega) (by decide +kernel) (hl_m rfl rfl h2) (fun v a2 M2 hK => ?_) (fun _ _ _ h => h)
    obtain ⟨rfl, h3⟩ := hK
    obtain ⟨u, rfl, e0, hR2, hL⟩ := hT _ _ h3
    refine cb_run cb_tb_ok vr_hearing (cuts := [524]) 20 ?_
    refine cl_call (As := [cb_r 46 0]) (st := []) (lw_thr B) rfl (by decide) (by show k + 3 + 0 + 0 ≤ room_1.cells; omega) (by show n + 18 + 0 + 0 ≤ room_1.slots; omega) (by decide +kernel) (hl_m (K2 := fun w M3 => w = some (cb_i (cb_gI M2 46 0 0)) ∧ M3 = M2) rfl rfl ⟨rfl, rfl⟩) (fun v a3 M3 hK => ?_) (fun _ _ _ h => h)
    obtain ⟨rfl, rfl, rfl⟩ := hK
    refine cb_run cb_tb_ok vr_hearing (cuts := [2738]) 40 ?_
    have h9 := h f1 _ hR2
    have w1 : k + 3 + 0 + 0 ≤ k + 8 := by omega
    have w2 : n + 18 + 0 + 0 ≤ n + 3252 := by omega
    refine And.intro (fun q1 => And.intro (fun q2 => lw_back w1 w2 h9) (fun q2 => And.intro vp01 ?_)) (fun q1 => absurd e0 q1)
    have q2 : ¬ ¬ c = 0 := q2
    have hc : c = 0 := Classical.byContradiction q2
    have hL := hL hc
    exact And.intro (fun q4 => lw_back w1 w2 h9) (fun q4 => absurd (lw_lc hL) q4)
def lr_apart : List cb_O := [(554, .aload_n 1, 1, 0, 1, 0, 0),
  (567, .aload_n 3, 1, 0, 3, 0, 0),
  (571, .istore 5, 2, 0, 5, 0, 0),
  (573, .aload_n 2, 1, 0, 2, 0, 0),
  (589, .istore 6, 2, 0, 6, 0, 0),
  (591, .aload_n 2, 1, 0, 2, 0, 0),
  (595, .iload 5, 2, 0, 5, 0, 0),
  (597, .if_icmp .eq 5, 3, 0, 602, 0, 0),
  (600, .iconst 0, 1, 0, 0, 0, 0),
  (601, .ireturn, 1, 0, 0, 0, 0),
  (602, .iload 5, 2, 0, 5, 0, 0),
  (604, .ifCond .ne 15, 3, 0, 619, 0, 0),
  (607, .aload_n 3, 1, 0, 3, 0, 0),
  (608, .iconst 0, 1, 0, 0, 0, 0),
  (609, .laload, 1, 0, 0, 0, 0),
  (610, .iload 6, 2, 0, 6, 0, 0),
  (612, .i2l, 1, 0, 0, 0, 0),
  (613, .lcmp, 1, 0, 0, 0, 0),
  (614, .ifCond .eq 5, 3, 0, 619, 0, 0),
  (617, .iconst 0, 1, 0, 0, 0, 0),
  (618, .ireturn, 1, 0, 0, 0, 0),
  (619, .goto 2119, 3, 0, 2738, 0, 0)]
set_option maxRecDepth 100000 in
theorem vr_apart : (lw_D lr_apart []).cd.all (cb_vE (lw_D lr_apart [])) = true := by decide +kernel
theorem lc_apart {L : Nat} {xs : Nat → Int32} {X : cb_X} {iv : Int32} {m k n : Nat} {f : Option Nat} {M : cb_M} (E : lw_E L xs X) (hv : lw_iv iv L) (hR : re_R M m) (hk : k + 8 ≤ room_1.cells) (hn : n + 3252 ≤ room_1.slots) (h : ∀ f' M', re_R M' m → cb_Gd cb_tb lw_0 X 2738 (lw_l iv) [] (cb_aS m, f') M' (k + 8) (n + 3252)) : cb_Gd cb_tb lw_0 X 554 (lw_l iv) [] (cb_aS m, f) M k n := by
  refine cb_Gd.same (cd := lr_apart) (sw := []) (by decide) ?_
  have B := E.bs lr_apart []
  refine cb_run cb_tb_ok vr_apart (cuts := [555]) 20 ?_
  refine cl_arg E (ic := 1) (c := 1) rfl hv.2.1 (by decide +kernel) rfl rfl ?_
  refine cl_arg E (ic := 2) (c := 2) rfl hv.2.2.1 (by decide +kernel) rfl rfl ?_
  refine cb_run cb_tb_ok vr_apart (cuts := [568]) 20 ?_
  refine cl_help (K := lw_KH false sp_X10_apart [cb_i (xs (iv + 1).toNatClampNeg), cb_i (xs (iv + 2).toNatClampNeg)] m) (As := cb_r 0 0 :: ([cb_i (xs (iv + 1).toNatClampNeg), cb_i (xs (iv + 2).toNatClampNeg)] ++ [cb_r 90 0])) (st := []) ok_L_apart E.2.1 E.2.2.1 (cb_tw (i := 838) (by decide +kernel)) (by decide +kernel) (cb_tw (i := 0) (by decide +kernel)) ⟨by decide, by decide⟩ (cb_tw (i := 836) (by decide +kernel)) (cb_tw (i := 837) (by decide +kernel)) ⟨by decide, by decide⟩ (idx := 151) (na := 4) (by decide +kernel) rfl (by decide) (by show k + 3 ≤ room_1.cells; omega) (by show n + 18 ≤ room_1.slots; omega) (by decide +kernel) lw_KHx (hl_ref (re_apart hR _ _) re_c2_0 rfl rfl) (fun v a1 M1 hK => ?_)
  match v, hK with
  | some (.inl c), hK =>
    obtain ⟨f1, rfl, K2, h2, hT⟩ := hK
    refine cb_run cb_tb_ok vr_apart (cuts := [574]) 20 ?_
    refine cl_arg E (ic := 1) (c := 1) rfl hv.2.1 (by decide +kernel) rfl rfl ?_
    refine cl_arg E (ic := 2) (c := 2) rfl hv.2.2.1 (by decide +kernel) rfl rfl ?_
    refine cl_call (As := cb_r 46 0 :: [cb_i (xs (iv + 1).toNatClampNeg), cb_i (xs (iv + 2).toNatClampNeg)]) (st := []) (cb_csV (idx := 153) (na := 3) B ok_X10_apart wd_X10_apart (cb_tw (i := 1616) (by decide +kernel)) (cb_tw (i := 1617) (by decide +kernel)) (cb_tw (i := 1618) (by decide +kernel)) rc_X10_apart ⟨by decide, by decide⟩ (by decide +kernel)) rfl (by decide) (by show k + 3 + 0 ≤ room_1.cells; omega) (by show n + 18 + 0 ≤ room_1.slots; omega) (by decide +kernel) (hl_m rfl rfl h2) (fun v a2 M2 hK => ?_) (fun _ _ _ h => h)
    obtain ⟨rfl, h3⟩ := hK
    obtain ⟨u, rfl, e0, hR2, hL⟩ := hT _ _ h3
    refine cb_run cb_tb_ok vr_apart (cuts := [592]) 20 ?_
    refine cl_call (As := [cb_r 46 0]) (st := []) (lw_thr B) rfl (by decide) (by show k + 3 + 0 + 0 ≤ room_1.cells; omega) (by show n + 18 + 0 + 0 ≤ room_1.slots; omega) (by decide +kernel) (hl_m (K2 := fun w M3 => w = some (cb_i (cb_gI M2 46 0 0)) ∧ M3 = M2) rfl rfl ⟨rfl, rfl⟩) (fun v a3 M3 hK => ?_) (fun _ _ _ h => h)
    obtain ⟨rfl, rfl, rfl⟩ := hK
    refine cb_run cb_tb_ok vr_apart (cuts := [2738]) 40 ?_
    have h9 := h f1 _ hR2
    have w1 : k + 3 + 0 + 0 ≤ k + 8 := by omega
    have w2 : n + 18 + 0 + 0 ≤ n + 3252 := by omega
    refine And.intro (fun q1 => And.intro (fun q2 => lw_back w1 w2 h9) (fun q2 => And.intro vp01 ?_)) (fun q1 => absurd e0 q1)
    have q2 : ¬ ¬ c = 0 := q2
    have hc : c = 0 := Classical.byContradiction q2
    have hL := hL hc
    exact And.intro (fun q4 => lw_back w1 w2 h9) (fun q4 => absurd (lw_lc hL) q4)
def lr_step : List cb_O := [(790, .aload_n 1, 1, 0, 1, 0, 0),
  (803, .aload_n 3, 1, 0, 3, 0, 0),
  (807, .istore 5, 2, 0, 5, 0, 0),
  (809, .aload_n 2, 1, 0, 2, 0, 0),
  (825, .istore 6, 2, 0, 6, 0, 0),
  (827, .aload_n 2, 1, 0, 2, 0, 0),
  (831, .iload 5, 2, 0, 5, 0, 0),
  (833, .if_icmp .eq 5, 3, 0, 838, 0, 0),
  (836, .iconst 0, 1, 0, 0, 0, 0),
  (837, .ireturn, 1, 0, 0, 0, 0),
  (838, .iload 5, 2, 0, 5, 0, 0),
  (840, .ifCond .ne 15, 3, 0, 855, 0, 0),
  (843, .aload_n 3, 1, 0, 3, 0, 0),
  (844, .iconst 0, 1, 0, 0, 0, 0),
  (845, .laload, 1, 0, 0, 0, 0),
  (846, .iload 6, 2, 0, 6, 0, 0),
  (848, .i2l, 1, 0, 0, 0, 0),
  (849, .lcmp, 1, 0, 0, 0, 0),
  (850, .ifCond .eq 5, 3, 0, 855, 0, 0),
  (853, .iconst 0, 1, 0, 0, 0, 0),
  (854, .ireturn, 1, 0, 0, 0, 0),
  (855, .goto 1883, 3, 0, 2738, 0, 0)]
set_option maxRecDepth 100000 in
theorem vr_step : (lw_D lr_step []).cd.all (cb_vE (lw_D lr_step [])) = true := by decide +kernel
theorem lc_step {L : Nat} {xs : Nat → Int32} {X : cb_X} {iv : Int32} {m k n : Nat} {f : Option Nat} {M : cb_M} (E : lw_E L xs X) (hv : lw_iv iv L) (hR : re_R M m) (hk : k + 8 ≤ room_1.cells) (hn : n + 3252 ≤ room_1.slots) (h : ∀ f' M', re_R M' m → cb_Gd cb_tb lw_0 X 2738 (lw_l iv) [] (cb_aS m, f') M' (k + 8) (n + 3252)) : cb_Gd cb_tb lw_0 X 790 (lw_l iv) [] (cb_aS m, f) M k n := by
  refine cb_Gd.same (cd := lr_step) (sw := []) (by decide) ?_
  have B := E.bs lr_step []
  refine cb_run cb_tb_ok vr_step (cuts := [791]) 20 ?_
  refine cl_arg E (ic := 1) (c := 1) rfl hv.2.1 (by decide +kernel) rfl rfl ?_
  refine cl_arg E (ic := 2) (c := 2) rfl hv.2.2.1 (by decide +kernel) rfl rfl ?_
  refine cb_run cb_tb_ok vr_step (cuts := [804]) 20 ?_
  refine cl_help (K := lw_KH false sp_X10_step [cb_i (xs (iv + 1).toNatClampNeg), cb_i (xs (iv + 2).toNatClampNeg)] m) (As := cb_r 0 0 :: ([cb_i (xs (iv + 1).toNatClampNeg), cb_i (xs (iv + 2).toNatClampNeg)] ++ [cb_r 90 0])) (st := []) ok_L_step E.2.1 E.2.2.1 (cb_tw (i := 925) (by decide +kernel)) (by decide +kernel) (cb_tw (i := 0) (by decide +kernel)) ⟨by decide, by decide⟩ (cb_tw (i := 923) (by decide +kernel)) (cb_tw (i := 924) (by decide +kernel)) ⟨by decide, by decide⟩ (idx := 163) (na := 4) (by decide +kernel) rfl (by decide) (by show k + 3 ≤ room_1.cells; omega) (by show n + 18 ≤ room_1.slots; omega) (by decide +kernel) lw_KHx (hl_ref (re_step hR _ _) re_c2_0 rfl rfl) (fun v a1 M1 hK => ?_)
  match v, hK with
  | some (.inl c), hK =>
    obtain ⟨f1, rfl, K2, h2, hT⟩ := hK
    refine cb_run cb_tb_ok vr_step (cuts := [810]) 20 ?_
    refine cl_arg E (ic := 1) (c := 1) rfl hv.2.1 (by decide +kernel) rfl rfl ?_
    refine cl_arg E (ic := 2) (c := 2) rfl hv.2.2.1 (by decide +kernel) rfl rfl ?_
    refine cl_call (As := cb_r 46 0 :: [cb_i (xs (iv + 1).toNatClampNeg), cb_i (xs (iv + 2).toNatClampNeg)]) (st := []) (cb_csV (idx := 165) (na := 3) B ok_X10_step wd_X10_step (cb_tw (i := 1663) (by decide +kernel)) (cb_tw (i := 1664) (by decide +kernel)) (cb_tw (i := 1665) (by decide +kernel)) rc_X10_step ⟨by decide, by decide⟩ (by decide +kernel)) rfl (by decide) (by show k + 3 + 0 ≤ room_1.cells; omega) (by show n + 18 + 0 ≤ room_1.slots; omega) (by decide +kernel) (hl_m rfl rfl h2) (fun v a2 M2 hK => ?_) (fun _ _ _ h => h)
    obtain ⟨rfl, h3⟩ := hK
    obtain ⟨u, rfl, e0, hR2, hL⟩ := hT _ _ h3
    refine cb_run cb_tb_ok vr_step (cuts := [828]) 20 ?_
    refine cl_call (As := [cb_r 46 0]) (st := []) (lw_thr B) rfl (by decide) (by show k + 3 + 0 + 0 ≤ room_1.cells; omega) (by show n + 18 + 0 + 0 ≤ room_1.slots; omega) (by decide +kernel) (hl_m (K2 := fun w M3 => w = some (cb_i (cb_gI M2 46 0 0)) ∧ M3 = M2) rfl rfl ⟨rfl, rfl⟩) (fun v a3 M3 hK => ?_) (fun _ _ _ h => h)
    obtain ⟨rfl, rfl, rfl⟩ := hK
    refine cb_run cb_tb_ok vr_step (cuts := [2738]) 40 ?_
    have h9 := h f1 _ hR2
    have w1 : k + 3 + 0 + 0 ≤ k + 8 := by omega
    have w2 : n + 18 + 0 + 0 ≤ n + 3252 := by omega
    refine And.intro (fun q1 => And.intro (fun q2 => lw_back w1 w2 h9) (fun q2 => And.intro vp01 ?_)) (fun q1 => absurd e0 q1)
    have q2 : ¬ ¬ c = 0 := q2
    have hc : c = 0 := Classical.byContradiction q2
    have hL := hL hc
    exact And.intro (fun q4 => lw_back w1 w2 h9) (fun q4 => absurd (lw_lc hL) q4)
def lr_off : List cb_O := [(884, .aload_n 1, 1, 0, 1, 0, 0),
  (897, .aload_n 3, 1, 0, 3, 0, 0),
  (901, .istore 5, 2, 0, 5, 0, 0),
  (903, .aload_n 2, 1, 0, 2, 0, 0),
  (919, .istore 6, 2, 0, 6, 0, 0),
  (921, .aload_n 2, 1, 0, 2, 0, 0),
  (925, .iload 5, 2, 0, 5, 0, 0),
  (927, .if_icmp .eq 5, 3, 0, 932, 0, 0),
  (930, .iconst 0, 1, 0, 0, 0, 0),
  (931, .ireturn, 1, 0, 0, 0, 0),
  (932, .iload 5, 2, 0, 5, 0, 0),
  (934, .ifCond .ne 15, 3, 0, 949, 0, 0),
  (937, .aload_n 3, 1, 0, 3, 0, 0),
  (938, .iconst 0, 1, 0, 0, 0, 0),
  (939, .laload, 1, 0, 0, 0, 0),
  (940, .iload 6, 2, 0, 6, 0, 0),
  (942, .i2l, 1, 0, 0, 0, 0),
  (943, .lcmp, 1, 0, 0, 0, 0),
  (944, .ifCond .eq 5, 3, 0, 949, 0, 0),
  (947, .iconst 0, 1, 0, 0, 0, 0),
  (948, .ireturn, 1, 0, 0, 0, 0),
  (949, .goto 1789, 3, 0, 2738, 0, 0)]
set_option maxRecDepth 100000 in
theorem vr_off : (lw_D lr_off []).cd.all (cb_vE (lw_D lr_off [])) = true := by decide +kernel
theorem lc_off {L : Nat} {xs : Nat → Int32} {X : cb_X} {iv : Int32} {m k n : Nat} {f : Option Nat} {M : cb_M} (E : lw_E L xs X) (hv : lw_iv iv L) (hR : re_R M m) (hk : k + 8 ≤ room_1.cells) (hn : n + 3252 ≤ room_1.slots) (h : ∀ f' M', re_R M' m → cb_Gd cb_tb lw_0 X 2738 (lw_l iv) [] (cb_aS m, f') M' (k + 8) (n + 3252)) : cb_Gd cb_tb lw_0 X 884 (lw_l iv) [] (cb_aS m, f) M k n := by
  refine cb_Gd.same (cd := lr_off) (sw := []) (by decide) ?_
  have B := E.bs lr_off []
  refine cb_run cb_tb_ok vr_off (cuts := [885]) 20 ?_
  refine cl_arg E (ic := 1) (c := 1) rfl hv.2.1 (by decide +kernel) rfl rfl ?_
  refine cl_arg E (ic := 2) (c := 2) rfl hv.2.2.1 (by decide +kernel) rfl rfl ?_
  refine cb_run cb_tb_ok vr_off (cuts := [898]) 20 ?_
  refine cl_help (K := lw_KH false sp_X10_off [cb_i (xs (iv + 1).toNatClampNeg), cb_i (xs (iv + 2).toNatClampNeg)] m) (As := cb_r 0 0 :: ([cb_i (xs (iv + 1).toNatClampNeg), cb_i (xs (iv + 2).toNatClampNeg)] ++ [cb_r 90 0])) (st := []) ok_L_off E.2.1 E.2.2.1 (cb_tw (i := 932) (by decide +kernel)) (by decide +kernel) (cb_tw (i := 0) (by decide +kernel)) ⟨by decide, by decide⟩ (cb_tw (i := 930) (by decide +kernel)) (cb_tw (i := 931) (by decide +kernel)) ⟨by decide, by decide⟩ (idx := 174) (na := 4) (by decide +kernel) rfl (by decide) (by show k + 2 ≤ room_1.cells; omega) (by show n + 12 ≤ room_1.slots; omega) (by decide +kernel) lw_KHx (hl_ref (re_off hR _ _) re_c2_0 rfl rfl) (fun v a1 M1 hK => ?_)
  match v, hK with
  | some (.inl c), hK =>
    obtain ⟨f1, rfl, K2, h2, hT⟩ := hK
    refine cb_run cb_tb_ok vr_off (cuts := [904]) 20 ?_
    refine cl_arg E (ic := 1) (c := 1) rfl hv.2.1 (by decide +kernel) rfl rfl ?_
    refine cl_arg E (ic := 2) (c := 2) rfl hv.2.2.1 (by decide +kernel) rfl rfl ?_
    refine cl_call (As := cb_r 46 0 :: [cb_i (xs (iv + 1).toNatClampNeg), cb_i (xs (iv + 2).toNatClampNeg)]) (st := []) (cb_csV (idx := 176) (na := 3) B ok_X10_off wd_X10_off (cb_tw (i := 1698) (by decide +kernel)) (cb_tw (i := 1699) (by decide +kernel)) (cb_tw (i := 1700) (by decide +kernel)) rc_X10_off ⟨by decide, by decide⟩ (by decide +kernel)) rfl (by decide) (by show k + 2 + 0 ≤ room_1.cells; omega) (by show n + 12 + 0 ≤ room_1.slots; omega) (by decide +kernel) (hl_m rfl rfl h2) (fun v a2 M2 hK => ?_) (fun _ _ _ h => h)
    obtain ⟨rfl, h3⟩ := hK
    obtain ⟨u, rfl, e0, hR2, hL⟩ := hT _ _ h3
    refine cb_run cb_tb_ok vr_off (cuts := [922]) 20 ?_
    refine cl_call (As := [cb_r 46 0]) (st := []) (lw_thr B) rfl (by decide) (by show k + 2 + 0 + 0 ≤ room_1.cells; omega) (by show n + 12 + 0 + 0 ≤ room_1.slots; omega) (by decide +kernel) (hl_m (K2 := fun w M3 => w = some (cb_i (cb_gI M2 46 0 0)) ∧ M3 = M2) rfl rfl ⟨rfl, rfl⟩) (fun v a3 M3 hK => ?_) (fun _ _ _ h => h)
    obtain ⟨rfl, rfl, rfl⟩ := hK
    refine cb_run cb_tb_ok vr_off (cuts := [2738]) 40 ?_
    have h9 := h f1 _ hR2
    have w1 : k + 2 + 0 + 0 ≤ k + 8 := by omega
    have w2 : n + 12 + 0 + 0 ≤ n + 3252 := by omega
    refine And.intro (fun q1 => And.intro (fun q2 => lw_back w1 w2 h9) (fun q2 => And.intro vp01 ?_)) (fun q1 => absurd e0 q1)
    have q2 : ¬ ¬ c = 0 := q2
    have hc : c = 0 := Classical.byContradiction q2
    have hL := hL hc
    exact And.intro (fun q4 => lw_back w1 w2 h9) (fun q4 => absurd (lw_lc hL) q4)
def lr_hook : List cb_O := [(1020, .aload_n 1, 1, 0, 1, 0, 0),
  (1033, .aload_n 3, 1, 0, 3, 0, 0),
  (1037, .istore 5, 2, 0, 5, 0, 0),
  (1039, .aload_n 2, 1, 0, 2, 0, 0),
  (1055, .istore 6, 2, 0, 6, 0, 0),
  (1057, .aload_n 2, 1, 0, 2, 0, 0),
  (1061, .iload 5, 2, 0, 5, 0, 0),
  (1063, .if_icmp .eq 5, 3, 0, 1068, 0, 0),
  (1066, .iconst 0, 1, 0, 0, 0, 0),
  (1067, .ireturn, 1, 0, 0, 0, 0),
  (1068, .iload 5, 2, 0, 5, 0, 0),
  (1070, .ifCond .ne 15, 3, 0, 1085, 0, 0),
  (1073, .aload_n 3, 1, 0, 3, 0, 0),
  (1074, .iconst 0, 1, 0, 0, 0, 0),
  (1075, .laload, 1, 0, 0, 0, 0),
  (1076, .iload 6, 2, 0, 6, 0, 0),
  (1078, .i2l, 1, 0, 0, 0, 0),
  (1079, .lcmp, 1, 0, 0, 0, 0),
  (1080, .ifCond .eq 5, 3, 0, 1085, 0, 0),
  (1083, .iconst 0, 1, 0, 0, 0, 0),
  (1084, .ireturn, 1, 0, 0, 0, 0),
  (1085, .goto 1653, 3, 0, 2738, 0, 0)]
set_option maxRecDepth 100000 in
theorem vr_hook : (lw_D lr_hook []).cd.all (cb_vE (lw_D lr_hook [])) = true := by decide +kernel
theorem lc_hook {L : Nat} {xs : Nat → Int32} {X : cb_X} {iv : Int32} {m k n : Nat} {f : Option Nat} {M : cb_M} (E : lw_E L xs X) (hv : lw_iv iv L) (hR : re_R M m) (hk : k + 8 ≤ room_1.cells) (hn : n + 3252 ≤ room_1.slots) (h : ∀ f' M', re_R M' m → cb_Gd cb_tb lw_0 X 2738 (lw_l iv) [] (cb_aS m, f') M' (k + 8) (n + 3252)) : cb_Gd cb_tb lw_0 X 1020 (lw_l iv) [] (cb_aS m, f) M k n := by
  refine cb_Gd.same (cd := lr_hook) (sw := []) (by decide) ?_
  have B := E.bs lr_hook []
  refine cb_run cb_tb_ok vr_hook (cuts := [1021]) 20 ?_
  refine cl_arg E (ic := 1) (c := 1) rfl hv.2.1 (by decide +kernel) rfl rfl ?_
  refine cl_arg E (ic := 2) (c := 2) rfl hv.2.2.1 (by decide +kernel) rfl rfl ?_
  refine cb_run cb_tb_ok vr_hook (cuts := [1034]) 20 ?_
  refine cl_help (K := lw_KH false sp_X10_hook [cb_i (xs (iv + 1).toNatClampNeg), cb_i (xs (iv + 2).toNatClampNeg)] m) (As := cb_r 0 0 :: ([cb_i (xs (iv + 1).toNatClampNeg), cb_i (xs (iv + 2).toNatClampNeg)] ++ [cb_r 90 0])) (st := []) ok_L_hook E.2.1 E.2.2.1 (cb_tw (i := 958) (by decide +kernel)) (by decide +kernel) (cb_tw (i := 0) (by decide +kernel)) ⟨by decide, by decide⟩ (cb_tw (i := 956) (by decide +kernel)) (cb_tw (i := 957) (by decide +kernel)) ⟨by decide, by decide⟩ (idx := 180) (na := 4) (by decide +kernel) rfl (by decide) (by show k + 2 ≤ room_1.cells; omega) (by show n + 12 ≤ room_1.slots; omega) (by decide +kernel) lw_KHx (hl_ref (re_hook hR _ _) re_c2_0 rfl rfl) (fun v a1 M1 hK => ?_)
  match v, hK with
  | some (.inl c), hK =>
    obtain ⟨f1, rfl, K2, h2, hT⟩ := hK
    refine cb_run cb_tb_ok vr_hook (cuts := [1040]) 20 ?_
    refine cl_arg E (ic := 1) (c := 1) rfl hv.2.1 (by decide +kernel) rfl rfl ?_
    refine cl_arg E (ic := 2) (c := 2) rfl hv.2.2.1 (by decide +kernel) rfl rfl ?_
    refine cl_call (As := cb_r 46 0 :: [cb_i (xs (iv + 1).toNatClampNeg), cb_i (xs (iv + 2).toNatClampNeg)]) (st := []) (cb_csV (idx := 182) (na := 3) B ok_X10_hook wd_X10_hook (cb_tw (i := 1717) (by decide +kernel)) (cb_tw (i := 1718) (by decide +kernel)) (cb_tw (i := 1719) (by decide +kernel)) rc_X10_hook ⟨by decide, by decide⟩ (by decide +kernel)) rfl (by decide) (by show k + 2 + 0 ≤ room_1.cells; omega) (by show n + 12 + 0 ≤ room_1.slots; omega) (by decide +kernel) (hl_m rfl rfl h2) (fun v a2 M2 hK => ?_) (fun _ _ _ h => h)
    obtain ⟨rfl, h3⟩ := hK
    obtain ⟨u, rfl, e0, hR2, hL⟩ := hT _ _ h3
    refine cb_run cb_tb_ok vr_hook (cuts := [1058]) 20 ?_
    refine cl_call (As := [cb_r 46 0]) (st := []) (lw_thr B) rfl (by decide) (by show k + 2 + 0 + 0 ≤ room_1.cells; omega) (by show n + 12 + 0 + 0 ≤ room_1.slots; omega) (by decide +kernel) (hl_m (K2 := fun w M3 => w = some (cb_i (cb_gI M2 46 0 0)) ∧ M3 = M2) rfl rfl ⟨rfl, rfl⟩) (fun v a3 M3 hK => ?_) (fun _ _ _ h => h)
    obtain ⟨rfl, rfl, rfl⟩ := hK
    refine cb_run cb_tb_ok vr_hook (cuts := [2738]) 40 ?_
    have h9 := h f1 _ hR2
    have w1 : k + 2 + 0 + 0 ≤ k + 8 := by omega
    have w2 : n + 12 + 0 + 0 ≤ n + 3252 := by omega
    refine And.intro (fun q1 => And.intro (fun q2 => lw_back w1 w2 h9) (fun q2 => And.intro vp01 ?_)) (fun q1 => absurd e0 q1)
    have q2 : ¬ ¬ c = 0 := q2
    have hc : c = 0 := Classical.byContradiction q2
    have hL := hL hc
    exact And.intro (fun q4 => lw_back w1 w2 h9) (fun q4 => absurd (lw_lc hL) q4)
