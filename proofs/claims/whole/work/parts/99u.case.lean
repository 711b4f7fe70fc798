/-! ===== the law's cases: pushed, hold, hung, infected, leader, better, honest ===== -/
def lr_pushed : List cb_O := [(1151, .aload_n 1, 1, 0, 1, 0, 0),
  (1164, .aload_n 3, 1, 0, 3, 0, 0),
  (1168, .istore 5, 2, 0, 5, 0, 0),
  (1170, .aload_n 2, 1, 0, 2, 0, 0),
  (1186, .istore 6, 2, 0, 6, 0, 0),
  (1188, .aload_n 2, 1, 0, 2, 0, 0),
  (1192, .iload 5, 2, 0, 5, 0, 0),
  (1194, .if_icmp .eq 5, 3, 0, 1199, 0, 0),
  (1197, .iconst 0, 1, 0, 0, 0, 0),
  (1198, .ireturn, 1, 0, 0, 0, 0),
  (1199, .iload 5, 2, 0, 5, 0, 0),
  (1201, .ifCond .ne 15, 3, 0, 1216, 0, 0),
  (1204, .aload_n 3, 1, 0, 3, 0, 0),
  (1205, .iconst 0, 1, 0, 0, 0, 0),
  (1206, .laload, 1, 0, 0, 0, 0),
  (1207, .iload 6, 2, 0, 6, 0, 0),
  (1209, .i2l, 1, 0, 0, 0, 0),
  (1210, .lcmp, 1, 0, 0, 0, 0),
  (1211, .ifCond .eq 5, 3, 0, 1216, 0, 0),
  (1214, .iconst 0, 1, 0, 0, 0, 0),
  (1215, .ireturn, 1, 0, 0, 0, 0),
  (1216, .goto 1522, 3, 0, 2738, 0, 0)]
set_option maxRecDepth 100000 in
theorem vr_pushed : (lw_D lr_pushed []).cd.all (cb_vE (lw_D lr_pushed [])) = true := by decide +kernel
theorem lc_pushed {L : Nat} {xs : Nat → Int32} {X : cb_X} {iv : Int32} {m k n : Nat} {f : Option Nat} {M : cb_M} (E : lw_E L xs X) (hv : lw_iv iv L) (hR : re_R M m) (hk : k + 8 ≤ room_1.cells) (hn : n + 3252 ≤ room_1.slots) (h : ∀ f' M', re_R M' m → cb_Gd cb_tb lw_0 X 2738 (lw_l iv) [] (cb_aS m, f') M' (k + 8) (n + 3252)) : cb_Gd cb_tb lw_0 X 1151 (lw_l iv) [] (cb_aS m, f) M k n := by
  refine cb_Gd.same (cd := lr_pushed) (sw := []) (by decide) ?_
  have B := E.bs lr_pushed []
  refine cb_run cb_tb_ok vr_pushed (cuts := [1152]) 20 ?_
  refine cl_arg E (ic := 1) (c := 1) rfl hv.2.1 (by decide +kernel) rfl rfl ?_
  refine cl_arg E (ic := 2) (c := 2) rfl hv.2.2.1 (by decide +kernel) rfl rfl ?_
  refine cb_run cb_tb_ok vr_pushed (cuts := [1165]) 20 ?_
  refine cl_help (K := lw_KH false sp_X10_pushed [cb_i (xs (iv + 1).toNatClampNeg), cb_i (xs (iv + 2).toNatClampNeg)] m) (As := cb_r 0 0 :: ([cb_i (xs (iv + 1).toNatClampNeg), cb_i (xs (iv + 2).toNatClampNeg)] ++ [cb_r 90 0])) (st := []) ok_L_pushed E.2.1 E.2.2.1 (cb_tw (i := 983) (by decide +kernel)) (by decide +kernel) (cb_tw (i := 0) (by decide +kernel)) ⟨by decide, by decide⟩ (cb_tw (i := 981) (by decide +kernel)) (cb_tw (i := 982) (by decide +kernel)) ⟨by decide, by decide⟩ (idx := 186) (na := 4) (by decide +kernel) rfl (by decide) (by show k + 2 ≤ room_1.cells; omega) (by show n + 12 ≤ room_1.slots; omega) (by decide +kernel) lw_KHx (hl_ref (re_pushed hR _ _) re_cI_0 rfl rfl) (fun v a1 M1 hK => ?_)
  match v, hK with
  | some (.inl c), hK =>
    obtain ⟨f1, rfl, K2, h2, hT⟩ := hK
    refine cb_run cb_tb_ok vr_pushed (cuts := [1171]) 20 ?_
    refine cl_arg E (ic := 1) (c := 1) rfl hv.2.1 (by decide +kernel) rfl rfl ?_
    refine cl_arg E (ic := 2) (c := 2) rfl hv.2.2.1 (by decide +kernel) rfl rfl ?_
    refine cl_call (As := cb_r 46 0 :: [cb_i (xs (iv + 1).toNatClampNeg), cb_i (xs (iv + 2).toNatClampNeg)]) (st := []) (cb_csV (idx := 188) (na := 3) B ok_X10_pushed wd_X10_pushed (cb_tw (i := 1725) (by decide +kernel)) (cb_tw (i := 1726) (by decide +kernel)) (cb_tw (i := 1727) (by decide +kernel)) rc_X10_pushed ⟨by decide, by decide⟩ (by decide +kernel)) rfl (by decide) (by show k + 2 + 0 ≤ room_1.cells; omega) (by show n + 12 + 0 ≤ room_1.slots; omega) (by decide +kernel) (hl_m rfl rfl h2) (fun v a2 M2 hK => ?_) (fun _ _ _ h => h)
    obtain ⟨rfl, h3⟩ := hK
    obtain ⟨u, rfl, e0, hR2, hL⟩ := hT _ _ h3
    refine cb_run cb_tb_ok vr_pushed (cuts := [1189]) 20 ?_
    refine cl_call (As := [cb_r 46 0]) (st := []) (lw_thr B) rfl (by decide) (by show k + 2 + 0 + 0 ≤ room_1.cells; omega) (by show n + 12 + 0 + 0 ≤ room_1.slots; omega) (by decide +kernel) (hl_m (K2 := fun w M3 => w = some (cb_i (cb_gI M2 46 0 0)) ∧ M3 = M2) rfl rfl ⟨rfl, rfl⟩) (fun v a3 M3 hK => ?_) (fun _ _ _ h => h)
    obtain ⟨rfl, rfl, rfl⟩ := hK
    refine cb_run cb_tb_ok vr_pushed (cuts := [2738]) 40 ?_
    have h9 := h f1 _ hR2
    have w1 : k + 2 + 0 + 0 ≤ k + 8 := by omega
    have w2 : n + 12 + 0 + 0 ≤ n + 3252 := by omega
    refine And.intro (fun q1 => And.intro (fun q2 => lw_back w1 w2 h9) (fun q2 => And.intro vp01 ?_)) (fun q1 => absurd e0 q1)
    have q2 : ¬ ¬ c = 0 := q2
    have hc : c = 0 := Classical.byContradiction q2
    have hL := hL hc
    exact And.intro (fun q4 => lw_back w1 w2 h9) (fun q4 => absurd (lw_lc hL) q4)
def lr_hold : List cb_O := [(1379, .aload_n 1, 1, 0, 1, 0, 0),
  (1386, .aload_n 3, 1, 0, 3, 0, 0),
  (1390, .istore 5, 2, 0, 5, 0, 0),
  (1392, .aload_n 2, 1, 0, 2, 0, 0),
  (1402, .istore 6, 2, 0, 6, 0, 0),
  (1404, .aload_n 2, 1, 0, 2, 0, 0),
  (1408, .iload 5, 2, 0, 5, 0, 0),
  (1410, .if_icmp .eq 5, 3, 0, 1415, 0, 0),
  (1413, .iconst 0, 1, 0, 0, 0, 0),
  (1414, .ireturn, 1, 0, 0, 0, 0),
  (1415, .iload 5, 2, 0, 5, 0, 0),
  (1417, .ifCond .ne 15, 3, 0, 1432, 0, 0),
  (1420, .aload_n 3, 1, 0, 3, 0, 0),
  (1421, .iconst 0, 1, 0, 0, 0, 0),
  (1422, .laload, 1, 0, 0, 0, 0),
  (1423, .iload 6, 2, 0, 6, 0, 0),
  (1425, .i2l, 1, 0, 0, 0, 0),
  (1426, .lcmp, 1, 0, 0, 0, 0),
  (1427, .ifCond .eq 5, 3, 0, 1432, 0, 0),
  (1430, .iconst 0, 1, 0, 0, 0, 0),
  (1431, .ireturn, 1, 0, 0, 0, 0),
  (1432, .goto 1306, 3, 0, 2738, 0, 0)]
set_option maxRecDepth 100000 in
theorem vr_hold : (lw_D lr_hold []).cd.all (cb_vE (lw_D lr_hold [])) = true := by decide +kernel
theorem lc_hold {L : Nat} {xs : Nat → Int32} {X : cb_X} {iv : Int32} {m k n : Nat} {f : Option Nat} {M : cb_M} (E : lw_E L xs X) (hv : lw_iv iv L) (hR : re_R M m) (hk : k + 8 ≤ room_1.cells) (hn : n + 3252 ≤ room_1.slots) (h : ∀ f' M', re_R M' m → cb_Gd cb_tb lw_0 X 2738 (lw_l iv) [] (cb_aS m, f') M' (k + 8) (n + 3252)) : cb_Gd cb_tb lw_0 X 1379 (lw_l iv) [] (cb_aS m, f) M k n := by
  refine cb_Gd.same (cd := lr_hold) (sw := []) (by decide) ?_
  have B := E.bs lr_hold []
  refine cb_run cb_tb_ok vr_hold (cuts := [1380]) 20 ?_
  refine cl_arg E (ic := 1) (c := 1) rfl hv.2.1 (by decide +kernel) rfl rfl ?_
  refine cb_run cb_tb_ok vr_hold (cuts := [1387]) 20 ?_
  refine cl_help (K := lw_KH false sp_X10_hold [cb_i (xs (iv + 1).toNatClampNeg)] m) (As := cb_r 0 0 :: ([cb_i (xs (iv + 1).toNatClampNeg)] ++ [cb_r 90 0])) (st := []) ok_L_hold E.2.1 E.2.2.1 (cb_tw (i := 1027) (by decide +kernel)) (by decide +kernel) (cb_tw (i := 0) (by decide +kernel)) ⟨by decide, by decide⟩ (cb_tw (i := 1025) (by decide +kernel)) (cb_tw (i := 1026) (by decide +kernel)) ⟨by decide, by decide⟩ (idx := 196) (na := 3) (by decide +kernel) rfl (by decide) (by show k + 1 ≤ room_1.cells; omega) (by show n + 6 ≤ room_1.slots; omega) (by decide +kernel) lw_KHx (hl_ref (re_hold hR _) re_cI_0 rfl rfl) (fun v a1 M1 hK => ?_)
  match v, hK with
  | some (.inl c), hK =>
    obtain ⟨f1, rfl, K2, h2, hT⟩ := hK
    refine cb_run cb_tb_ok vr_hold (cuts := [1393]) 20 ?_
    refine cl_arg E (ic := 1) (c := 1) rfl hv.2.1 (by decide +kernel) rfl rfl ?_
    refine cl_call (As := cb_r 46 0 :: [cb_i (xs (iv + 1).toNatClampNeg)]) (st := []) (cb_csV (idx := 198) (na := 2) B ok_X10_hold wd_X10_hold (cb_tw (i := 1749) (by decide +kernel)) (cb_tw (i := 1750) (by decide +kernel)) (cb_tw (i := 1751) (by decide +kernel)) rc_X10_hold ⟨by decide, by decide⟩ (by decide +kernel)) rfl (by decide) (by show k + 1 + 0 ≤ room_1.cells; omega) (by show n + 6 + 0 ≤ room_1.slots; omega) (by decide +kernel) (hl_m rfl rfl h2) (fun v a2 M2 hK => ?_) (fun _ _ _ h => h)
    obtain ⟨rfl, h3⟩ := hK
    obtain ⟨u, rfl, e0, hR2, hL⟩ := hT _ _ h3
    refine cb_run cb_tb_ok vr_hold (cuts := [1405]) 20 ?_
    refine cl_call (As := [cb_r 46 0]) (st := []) (lw_thr B) rfl (by decide) (by show k + 1 + 0 + 0 ≤ room_1.cells; omega) (by show n + 6 + 0 + 0 ≤ room_1.slots; omega) (by decide +kernel) (hl_m (K2 := fun w M3 => w = some (cb_i (cb_gI M2 46 0 0)) ∧ M3 = M2) rfl rfl ⟨rfl, rfl⟩) (fun v a3 M3 hK => ?_) (fun _ _ _ h => h)
    obtain ⟨rfl, rfl, rfl⟩ := hK
    refine cb_run cb_tb_ok vr_hold (cuts := [2738]) 40 ?_
    have h9 := h f1 _ hR2
    have w1 : k + 1 + 0 + 0 ≤ k + 8 := by omega
    have w2 : n + 6 + 0 + 0 ≤ n + 3252 := by omega
    refine And.intro (fun q1 => And.intro (fun q2 => lw_back w1 w2 h9) (fun q2 => And.intro vp01 ?_)) (fun q1 => absurd e0 q1)
    have q2 : ¬ ¬ c = 0 := q2
    have hc : c = 0 := Classical.byContradiction q2
    have hL := hL hc
    exact And.intro (fun q4 => lw_back w1 w2 h9) (fun q4 => absurd (lw_lc hL) q4)
def lr_hung : List cb_O := [(1435, .aload_n 1, 1, 0, 1, 0, 0),
  (1454, .aload_n 3, 1, 0, 3, 0, 0),
  (1458, .istore 5, 2, 0, 5, 0, 0),
  (1460, .aload_n 2, 1, 0, 2, 0, 0),
  (1482, .istore 6, 2, 0, 6, 0, 0),
  (1484, .aload_n 2, 1, 0, 2, 0, 0),
  (1488, .iload 5, 2, 0, 5, 0, 0),
  (1490, .if_icmp .eq 5, 3, 0, 1495, 0, 0),
  (1493, .iconst 0, 1, 0, 0, 0, 0),
  (1494, .ireturn, 1, 0, 0, 0, 0),
  (1495, .iload 5, 2, 0, 5, 0, 0),
  (1497, .ifCond .ne 15, 3, 0, 1512, 0, 0),
  (1500, .aload_n 3, 1, 0, 3, 0, 0),
  (1501, .iconst 0, 1, 0, 0, 0, 0),
  (1502, .laload, 1, 0, 0, 0, 0),
  (1503, .iload 6, 2, 0, 6, 0, 0),
  (1505, .i2l, 1, 0, 0, 0, 0),
  (1506, .lcmp, 1, 0, 0, 0, 0),
  (1507, .ifCond .eq 5, 3, 0, 1512, 0, 0),
  (1510, .iconst 0, 1, 0, 0, 0, 0),
  (1511, .ireturn, 1, 0, 0, 0, 0),
  (1512, .goto 1226, 3, 0, 2738, 0, 0)]
set_option maxRecDepth 100000 in
theorem vr_hung : (lw_D lr_hung []).cd.all (cb_vE (lw_D lr_hung [])) = true := by decide +kernel
theorem lc_hung {L : Nat} {xs : Nat → Int32} {X : cb_X} {iv : Int32} {m k n : Nat} {f : Option Nat} {M : cb_M} (E : lw_E L xs X) (hv : lw_iv iv L) (hR : re_R M m) (hk : k + 8 ≤ room_1.cells) (hn : n + 3252 ≤ room_1.slots) (h : ∀ f' M', re_R M' m → cb_Gd cb_tb lw_0 X 2738 (lw_l iv) [] (cb_aS m, f') M' (k + 8) (n + 3252)) : cb_Gd cb_tb lw_0 X 1435 (lw_l iv) [] (cb_aS m, f) M k n := by
  refine cb_Gd.same (cd := lr_hung) (sw := []) (by decide) ?_
  have B := E.bs lr_hung []
  refine cb_run cb_tb_ok vr_hung (cuts := [1436]) 20 ?_
  refine cl_arg E (ic := 1) (c := 1) rfl hv.2.1 (by decide +kernel) rfl rfl ?_
  refine cl_arg E (ic := 2) (c := 2) rfl hv.2.2.1 (by decide +kernel) rfl rfl ?_
  refine cl_arg E (ic := 3) (c := 3) rfl hv.2.2.2.1 (by decide +kernel) rfl rfl ?_
  refine cb_run cb_tb_ok vr_hung (cuts := [1455]) 20 ?_
  refine cl_help (K := lw_KH false sp_X10_hung [cb_i (xs (iv + 1).toNatClampNeg), cb_i (xs (iv + 2).toNatClampNeg), cb_i (xs (iv + 3).toNatClampNeg)] m) (As := cb_r 0 0 :: ([cb_i (xs (iv + 1).toNatClampNeg), cb_i (xs (iv + 2).toNatClampNeg), cb_i (xs (iv + 3).toNatClampNeg)] ++ [cb_r 90 0])) (st := []) ok_L_hung E.2.1 E.2.2.1 (cb_tw (i := 1054) (by decide +kernel)) (by decide +kernel) (cb_tw (i := 0) (by decide +kernel)) ⟨by decide, by decide⟩ (cb_tw (i := 1052) (by decide +kernel)) (cb_tw (i := 1053) (by decide +kernel)) ⟨by decide, by decide⟩ (idx := 199) (na := 5) (by decide +kernel) rfl (by decide) (by show k + 4 ≤ room_1.cells; omega) (by show n + 24 ≤ room_1.slots; omega) (by decide +kernel) lw_KHx (hl_ref (re_hung hR _ _ _) re_cI_0 rfl rfl) (fun v a1 M1 hK => ?_)
  match v, hK with
  | some (.inl c), hK =>
    obtain ⟨f1, rfl, K2, h2, hT⟩ := hK
    refine cb_run cb_tb_ok vr_hung (cuts := [1461]) 20 ?_
    refine cl_arg E (ic := 1) (c := 1) rfl hv.2.1 (by decide +kernel) rfl rfl ?_
    refine cl_arg E (ic := 2) (c := 2) rfl hv.2.2.1 (by decide +kernel) rfl rfl ?_
    refine cl_arg E (ic := 3) (c := 3) rfl hv.2.2.2.1 (by decide +kernel) rfl rfl ?_
    refine cl_call (As := cb_r 46 0 :: [cb_i (xs (iv + 1).toNatClampNeg), cb_i (xs (iv + 2).toNatClampNeg), cb_i (xs (iv + 3).toNatClampNeg)]) (st := []) (cb_csV (idx := 202) (na := 4) B ok_X10_hung wd_X10_hung (cb_tw (i := 1760) (by decide +kernel)) (cb_tw (i := 1761) (by decide +kernel)) (cb_tw (i := 1762) (by decide +kernel)) rc_X10_hung ⟨by decide, by decide⟩ (by decide +kernel)) rfl (by decide) (by show k + 4 + 0 ≤ room_1.cells; omega) (by show n + 24 + 0 ≤ room_1.slots; omega) (by decide +kernel) (hl_m rfl rfl h2) (fun v a2 M2 hK => ?_) (fun _ _ _ h => h)
    obtain ⟨rfl, h3⟩ := hK
    obtain ⟨u, rfl, e0, hR2, hL⟩ := hT _ _ h3
    refine cb_run cb_tb_ok vr_hung (cuts := [1485]) 20 ?_
    refine cl_call (As := [cb_r 46 0]) (st := []) (lw_thr B) rfl (by decide) (by show k + 4 + 0 + 0 ≤ room_1.cells; omega) (by show n + 24 + 0 + 0 ≤ room_1.slots; omega) (by decide +kernel) (hl_m (K2 := fun w M3 => w = some (cb_i (cb_gI M2 46 0 0)) ∧ M3 = M2) rfl rfl ⟨rfl, rfl⟩) (fun v a3 M3 hK => ?_) (fun _ _ _ h => h)
    obtain ⟨rfl, rfl, rfl⟩ := hK
    refine cb_run cb_tb_ok vr_hung (cuts := [2738]) 40 ?_
    have h9 := h f1 _ hR2
    have w1 : k + 4 + 0 + 0 ≤ k + 8 := by omega
    have w2 : n + 24 + 0 + 0 ≤ n + 3252 := by omega
    refine And.intro (fun q1 => And.intro (fun q2 => lw_back w1 w2 h9) (fun q2 => And.intro vp01 ?_)) (fun q1 => absurd e0 q1)
    have q2 : ¬ ¬ c = 0 := q2
    have hc : c = 0 := Classical.byContradiction q2
    have hL := hL hc
    exact And.intro (fun q4 => lw_back w1 w2 h9) (fun q4 => absurd (lw_lc hL) q4)
def lr_infected : List cb_O := [(1767, .aload_n 1, 1, 0, 1, 0, 0),
  (1774, .aload_n 3, 1, 0, 3, 0, 0),
  (1778, .istore 5, 2, 0, 5, 0, 0),
  (1780, .aload_n 2, 1, 0, 2, 0, 0),
  (1790, .istore 6, 2, 0, 6, 0, 0),
  (1792, .aload_n 2, 1, 0, 2, 0, 0),
  (1796, .iload 5, 2, 0, 5, 0, 0),
  (1798, .if_icmp .eq 5, 3, 0, 1803, 0, 0),
  (1801, .iconst 0, 1, 0, 0, 0, 0),
  (1802, .ireturn, 1, 0, 0, 0, 0),
  (1803, .iload 5, 2, 0, 5, 0, 0),
  (1805, .ifCond .ne 15, 3, 0, 1820, 0, 0),
  (1808, .aload_n 3, 1, 0, 3, 0, 0),
  (1809, .iconst 0, 1, 0, 0, 0, 0),
  (1810, .laload, 1, 0, 0, 0, 0),
  (1811, .iload 6, 2, 0, 6, 0, 0),
  (1813, .i2l, 1, 0, 0, 0, 0),
  (1814, .lcmp, 1, 0, 0, 0, 0),
  (1815, .ifCond .eq 5, 3, 0, 1820, 0, 0),
  (1818, .iconst 0, 1, 0, 0, 0, 0),
  (1819, .ireturn, 1, 0, 0, 0, 0),
  (1820, .goto 918, 3, 0, 2738, 0, 0)]
set_option maxRecDepth 100000 in
theorem vr_infected : (lw_D lr_infected []).cd.all (cb_vE (lw_D lr_infected [])) = true := by decide +kernel
theorem lc_infected {L : Nat} {xs : Nat → Int32} {X : cb_X} {iv : Int32} {m k n : Nat} {f : Option Nat} {M : cb_M} (E : lw_E L xs X) (hv : lw_iv iv L) (hR : re_R M m) (hk : k + 8 ≤ room_1.cells) (hn : n + 3252 ≤ room_1.slots) (h : ∀ f' M', re_R M' m → cb_Gd cb_tb lw_0 X 2738 (lw_l iv) [] (cb_aS m, f') M' (k + 8) (n + 3252)) : cb_Gd cb_tb lw_0 X 1767 (lw_l iv) [] (cb_aS m, f) M k n := by
  refine cb_Gd.same (cd := lr_infected) (sw := []) (by decide) ?_
  have B := E.bs lr_infected []
  refine cb_run cb_tb_ok vr_infected (cuts := [1768]) 20 ?_
  refine cl_arg E (ic := 1) (c := 1) rfl hv.2.1 (by decide +kernel) rfl rfl ?_
  refine cb_run cb_tb_ok vr_infected (cuts := [1775]) 20 ?_
  refine cl_help (K := lw_KH false sp_X10_infected [cb_i (xs (iv + 1).toNatClampNeg)] m) (As := cb_r 0 0 :: ([cb_i (xs (iv + 1).toNatClampNeg)] ++ [cb_r 90 0])) (st := []) ok_L_infected E.2.1 E.2.2.1 (cb_tw (i := 1148) (by decide +kernel)) (by decide +kernel) (cb_tw (i := 0) (by decide +kernel)) ⟨by decide, by decide⟩ (cb_tw (i := 1146) (by decide +kernel)) (cb_tw (i := 1147) (by decide +kernel)) ⟨by decide, by decide⟩ (idx := 213) (na := 3) (by decide +kernel) rfl (by decide) (by show k + 1 ≤ room_1.cells; omega) (by show n + 6 ≤ room_1.slots; omega) (by decide +kernel) lw_KHx (hl_ref (re_infected hR _) re_cI_0 rfl rfl) (fun v a1 M1 hK => ?_)
  match v, hK with
  | some (.inl c), hK =>
    obtain ⟨f1, rfl, K2, h2, hT⟩ := hK
    refine cb_run cb_tb_ok vr_infected (cuts := [1781]) 20 ?_
    refine cl_arg E (ic := 1) (c := 1) rfl hv.2.1 (by decide +kernel) rfl rfl ?_
    refine cl_call (As := cb_r 46 0 :: [cb_i (xs (iv + 1).toNatClampNeg)]) (st := []) (cb_csV (idx := 215) (na := 2) B ok_X10_infected wd_X10_infected (cb_tw (i := 1796) (by decide +kernel)) (cb_tw (i := 1797) (by decide +kernel)) (cb_tw (i := 1798) (by decide +kernel)) rc_X10_infected ⟨by decide, by decide⟩ (by decide +kernel)) rfl (by decide) (by show k + 1 + 0 ≤ room_1.cells; omega) (by show n + 6 + 0 ≤ room_1.slots; omega) (by decide +kernel) (hl_m rfl rfl h2) (fun v a2 M2 hK => ?_) (fun _ _ _ h => h)
    obtain ⟨rfl, h3⟩ := hK
    obtain ⟨u, rfl, e0, hR2, hL⟩ := hT _ _ h3
    refine cb_run cb_tb_ok vr_infected (cuts := [1793]) 20 ?_
    refine cl_call (As := [cb_r 46 0]) (st := []) (lw_thr B) rfl (by decide) (by show k + 1 + 0 + 0 ≤ room_1.cells; omega) (by show n + 6 + 0 + 0 ≤ room_1.slots; omega) (by decide +kernel) (hl_m (K2 := fun w M3 => w = some (cb_i (cb_gI M2 46 0 0)) ∧ M3 = M2) rfl rfl ⟨rfl, rfl⟩) (fun v a3 M3 hK => ?_) (fun _ _ _ h => h)
    obtain ⟨rfl, rfl, rfl⟩ := hK
    refine cb_run cb_tb_ok vr_infected (cuts := [2738]) 40 ?_
    have h9 := h f1 _ hR2
    have w1 : k + 1 + 0 + 0 ≤ k + 8 := by omega
    have w2 : n + 6 + 0 + 0 ≤ n + 3252 := by omega
    refine And.intro (fun q1 => And.intro (fun q2 => lw_back w1 w2 h9) (fun q2 => And.intro vp01 ?_)) (fun q1 => absurd e0 q1)
    have q2 : ¬ ¬ c = 0 := q2
    have hc : c = 0 := Classical.byContradiction q2
    have hL := hL hc
    exact And.intro (fun q4 => lw_back w1 w2 h9) (fun q4 => absurd (lw_lc hL) q4)
def lr_leader : List cb_O := [(2162, .aload_n 1, 1, 0, 1, 0, 0),
  (2169, .aload_n 3, 1, 0, 3, 0, 0),
  (2173, .istore 5, 2, 0, 5, 0, 0),
  (2175, .aload_n 2, 1, 0, 2, 0, 0),
  (2185, .istore 6, 2, 0, 6, 0, 0),
  (2187, .aload_n 2, 1, 0, 2, 0, 0),
  (2191, .iload 5, 2, 0, 5, 0, 0),
  (2193, .if_icmp .eq 5, 3, 0, 2198, 0, 0),
  (2196, .iconst 0, 1, 0, 0, 0, 0),
  (2197, .ireturn, 1, 0, 0, 0, 0),
  (2198, .iload 5, 2, 0, 5, 0, 0),
  (2200, .ifCond .ne 15, 3, 0, 2215, 0, 0),
  (2203, .aload_n 3, 1, 0, 3, 0, 0),
  (2204, .iconst 0, 1, 0, 0, 0, 0),
  (2205, .laload, 1, 0, 0, 0, 0),
  (2206, .iload 6, 2, 0, 6, 0, 0),
  (2208, .i2l, 1, 0, 0, 0, 0),
  (2209, .lcmp, 1, 0, 0, 0, 0),
  (2210, .ifCond .eq 5, 3, 0, 2215, 0, 0),
  (2213, .iconst 0, 1, 0, 0, 0, 0),
  (2214, .ireturn, 1, 0, 0, 0, 0),
  (2215, .goto 523, 3, 0, 2738, 0, 0)]
set_option maxRecDepth 100000 in
theorem vr_leader : (lw_D lr_leader []).cd.all (cb_vE (lw_D lr_leader [])) = true := by decide +kernel
theorem lc_leader {L : Nat} {xs : Nat → Int32} {X : cb_X} {iv : Int32} {m k n : Nat} {f : Option Nat} {M : cb_M} (E : lw_E L xs X) (hv : lw_iv iv L) (hR : re_R M m) (hk : k + 8 ≤ room_1.cells) (hn : n + 3252 ≤ room_1.slots) (h : ∀ f' M', re_R M' m → cb_Gd cb_tb lw_0 X 2738 (lw_l iv) [] (cb_aS m, f') M' (k + 8) (n + 3252)) : cb_Gd cb_tb lw_0 X 2162 (lw_l iv) [] (cb_aS m, f) M k n := by
  refine cb_Gd.same (cd := lr_leader) (sw := []) (by decide) ?_
  have B := E.bs lr_leader []
  refine cb_run cb_tb_ok vr_leader (cuts := [2163]) 20 ?_
  refine cl_arg E (ic := 1) (c := 1) rfl hv.2.1 (by decide +kernel) rfl rfl ?_
  refine cb_run cb_tb_ok vr_leader (cuts := [2170]) 20 ?_
  refine cl_help (K := lw_KH false sp_X10_leader [cb_i (xs (iv + 1).toNatClampNeg)] m) (As := cb_r 0 0 :: ([cb_i (xs (iv + 1).toNatClampNeg)] ++ [cb_r 90 0])) (st := []) ok_L_leader E.2.1 E.2.2.1 (cb_tw (i := 1234) (by decide +kernel)) (by decide +kernel) (cb_tw (i := 0) (by decide +kernel)) ⟨by decide, by decide⟩ (cb_tw (i := 1232) (by decide +kernel)) (cb_tw (i := 1233) (by decide +kernel)) ⟨by decide, by decide⟩ (idx := 228) (na := 3) (by decide +kernel) rfl (by decide) (by show k + 1 ≤ room_1.cells; omega) (by show n + 6 ≤ room_1.slots; omega) (by decide +kernel) lw_KHx (hl_ref (re_leader hR _) re_cI_0 rfl rfl) (fun v a1 M1 hK => ?_)
  match v, hK with
  | some (.inl c), hK =>
    obtain ⟨f1, rfl, K2, h2, hT⟩ := hK
    refine cb_run cb_tb_ok vr_leader (cuts := [2176]) 20 ?_
    refine cl_arg E (ic := 1) (c := 1) rfl hv.2.1 (by decide +kernel) rfl rfl ?_
    refine cl_call (As := cb_r 46 0 :: [cb_i (xs (iv + 1).toNatClampNeg)]) (st := []) (cb_csV (idx := 230) (na := 2) B ok_X10_leader wd_X10_leader (cb_tw (i := 1820) (by decide +kernel)) (cb_tw (i := 1821) (by decide +kernel)) (cb_tw (i := 1822) (by decide +kernel)) rc_X10_leader ⟨by decide, by decide⟩ (by decide +kernel)) rfl (by decide) (by show k + 1 + 0 ≤ room_1.cells; omega) (by show n + 6 + 0 ≤ room_1.slots; omega) (by decide +kernel) (hl_m rfl rfl h2) (fun v a2 M2 hK => ?_) (fun _ _ _ h => h)
    obtain ⟨rfl, h3⟩ := hK
    obtain ⟨u, rfl, e0, hR2, hL⟩ := hT _ _ h3
    refine cb_run cb_tb_ok vr_leader (cuts := [2188]) 20 ?_
    refine cl_call (As := [cb_r 46 0]) (st := []) (lw_thr B) rfl (by decide) (by show k + 1 + 0 + 0 ≤ room_1.cells; omega) (by show n + 6 + 0 + 0 ≤ room_1.slots; omega) (by decide +kernel) (hl_m (K2 := fun w M3 => w = some (cb_i (cb_gI M2 46 0 0)) ∧ M3 = M2) rfl rfl ⟨rfl, rfl⟩) (fun v a3 M3 hK => ?_) (fun _ _ _ h => h)
    obtain ⟨rfl, rfl, rfl⟩ := hK
    refine cb_run cb_tb_ok vr_leader (cuts := [2738]) 40 ?_
    have h9 := h f1 _ hR2
    have w1 : k + 1 + 0 + 0 ≤ k + 8 := by omega
    have w2 : n + 6 + 0 + 0 ≤ n + 3252 := by omega
    refine And.intro (fun q1 => And.intro (fun q2 => lw_back w1 w2 h9) (fun q2 => And.intro vp01 ?_)) (fun q1 => absurd e0 q1)
    have q2 : ¬ ¬ c = 0 := q2
    have hc : c = 0 := Classical.byContradiction q2
    have hL := hL hc
    exact And.intro (fun q4 => lw_back w1 w2 h9) (fun q4 => absurd (lw_lc hL) q4)
def lr_better : List cb_O := [(2218, .aload_n 1, 1, 0, 1, 0, 0),
  (2231, .aload_n 3, 1, 0, 3, 0, 0),
  (2235, .istore 5, 2, 0, 5, 0, 0),
  (2237, .aload_n 2, 1, 0, 2, 0, 0),
  (2253, .istore 6, 2, 0, 6, 0, 0),
  (2255, .aload_n 2, 1, 0, 2, 0, 0),
  (2259, .iload 5, 2, 0, 5, 0, 0),
  (2261, .if_icmp .eq 5, 3, 0, 2266, 0, 0),
  (2264, .iconst 0, 1, 0, 0, 0, 0),
  (2265, .ireturn, 1, 0, 0, 0, 0),
  (2266, .iload 5, 2, 0, 5, 0, 0),
  (2268, .ifCond .ne 15, 3, 0, 2283, 0, 0),
  (2271, .aload_n 3, 1, 0, 3, 0, 0),
  (2272, .iconst 0, 1, 0, 0, 0, 0),
  (2273, .laload, 1, 0, 0, 0, 0),
  (2274, .iload 6, 2, 0, 6, 0, 0),
  (2276, .i2l, 1, 0, 0, 0, 0),
  (2277, .lcmp, 1, 0, 0, 0, 0),
  (2278, .ifCond .eq 5, 3, 0, 2283, 0, 0),
  (2281, .iconst 0, 1, 0, 0, 0, 0),
  (2282, .ireturn, 1, 0, 0, 0, 0),
  (2283, .goto 455, 3, 0, 2738, 0, 0)]
set_option maxRecDepth 100000 in
theorem vr_better : (lw_D lr_better []).cd.all (cb_vE (lw_D lr_better [])) = true := by decide +kernel
theorem lc_better {L : Nat} {xs : Nat → Int32} {X : cb_X} {iv : Int32} {m k n : Nat} {f : Option Nat} {M : cb_M} (E : lw_E L xs X) (hv : lw_iv iv L) (hR : re_R M m) (hk : k + 8 ≤ room_1.cells) (hn : n + 3252 ≤ room_1.slots) (h : ∀ f' M', re_R M' m → cb_Gd cb_tb lw_0 X 2738 (lw_l iv) [] (cb_aS m, f') M' (k + 8) (n + 3252)) : cb_Gd cb_tb lw_0 X 2218 (lw_l iv) [] (cb_aS m, f) M k n := by
  refine cb_Gd.same (cd := lr_better) (sw := []) (by decide) ?_
  have B := E.bs lr_better []
  refine cb_run cb_tb_ok vr_better (cuts := [2219]) 20 ?_
  refine cl_arg E (ic := 1) (c := 1) rfl hv.2.1 (by decide +kernel) rfl rfl ?_
  refine cl_arg E (ic := 2) (c := 2) rfl hv.2.2.1 (by decide +kernel) rfl rfl ?_
  refine cb_run cb_tb_ok vr_better (cuts := [2232]) 20 ?_
  refine cl_help (K := lw_KH false sp_X10_better [cb_i (xs (iv + 1).toNatClampNeg), cb_i (xs (iv + 2).toNatClampNeg)] m) (As := cb_r 0 0 :: ([cb_i (xs (iv + 1).toNatClampNeg), cb_i (xs (iv + 2).toNatClampNeg)] ++ [cb_r 90 0])) (st := []) ok_L_better E.2.1 E.2.2.1 (cb_tw (i := 1251) (by decide +kernel)) (by decide +kernel) (cb_tw (i := 0) (by decide +kernel)) ⟨by decide, by decide⟩ (cb_tw (i := 1249) (by decide +kernel)) (cb_tw (i := 1250) (by decide +kernel)) ⟨by decide, by decide⟩ (idx := 231) (na := 4) (by decide +kernel) rfl (by decide) (by show k + 2 ≤ room_1.cells; omega) (by show n + 12 ≤ room_1.slots; omega) (by decide +kernel) lw_KHx (hl_ref (re_better hR _ _) re_cI_0 rfl rfl) (fun v a1 M1 hK => ?_)
  match v, hK with
  | some (.inl c), hK =>
    obtain ⟨f1, rfl, K2, h2, hT⟩ := hK
    refine cb_run cb_tb_ok vr_better (cuts := [2238]) 20 ?_
    refine cl_arg E (ic := 1) (c := 1) rfl hv.2.1 (by decide +kernel) rfl rfl ?_
    refine cl_arg E (ic := 2) (c := 2) rfl hv.2.2.1 (by decide +kernel) rfl rfl ?_
    refine cl_call (As := cb_r 46 0 :: [cb_i (xs (iv + 1).toNatClampNeg), cb_i (xs (iv + 2).toNatClampNeg)]) (st := []) (cb_csV (idx := 233) (na := 3) B ok_X10_better wd_X10_better (cb_tw (i := 1824) (by decide +kernel)) (cb_tw (i := 1825) (by decide +kernel)) (cb_tw (i := 1826) (by decide +kernel)) rc_X10_better ⟨by decide, by decide⟩ (by decide +kernel)) rfl (by decide) (by show k + 2 + 0 ≤ room_1.cells; omega) (by show n + 12 + 0 ≤ room_1.slots; omega) (by decide +kernel) (hl_m rfl rfl h2) (fun v a2 M2 hK => ?_) (fun _ _ _ h => h)
    obtain ⟨rfl, h3⟩ := hK
    obtain ⟨u, rfl, e0, hR2, hL⟩ := hT _ _ h3
    refine cb_run cb_tb_ok vr_better (cuts := [2256]) 20 ?_
    refine cl_call (As := [cb_r 46 0]) (st := []) (lw_thr B) rfl (by decide) (by show k + 2 + 0 + 0 ≤ room_1.cells; omega) (by show n + 12 + 0 + 0 ≤ room_1.slots; omega) (by decide +kernel) (hl_m (K2 := fun w M3 => w = some (cb_i (cb_gI M2 46 0 0)) ∧ M3 = M2) rfl rfl ⟨rfl, rfl⟩) (fun v a3 M3 hK => ?_) (fun _ _ _ h => h)
    obtain ⟨rfl, rfl, rfl⟩ := hK
    refine cb_run cb_tb_ok vr_better (cuts := [2738]) 40 ?_
    have h9 := h f1 _ hR2
    have w1 : k + 2 + 0 + 0 ≤ k + 8 := by omega
    have w2 : n + 12 + 0 + 0 ≤ n + 3252 := by omega
    refine And.intro (fun q1 => And.intro (fun q2 => lw_back w1 w2 h9) (fun q2 => And.intro vp01 ?_)) (fun q1 => absurd e0 q1)
    have q2 : ¬ ¬ c = 0 := q2
    have hc : c = 0 := Classical.byContradiction q2
    have hL := hL hc
    exact And.intro (fun q4 => lw_back w1 w2 h9) (fun q4 => absurd (lw_lc hL) q4)
def lr_honest : List cb_O := [(2446, .aload_n 1, 1, 0, 1, 0, 0),
  (2453, .aload_n 3, 1, 0, 3, 0, 0),
  (2457, .istore 5, 2, 0, 5, 0, 0),
  (2459, .aload_n 2, 1, 0, 2, 0, 0),
  (2469, .istore 6, 2, 0, 6, 0, 0),
  (2471, .aload_n 2, 1, 0, 2, 0, 0),
  (2475, .iload 5, 2, 0, 5, 0, 0),
  (2477, .if_icmp .eq 5, 3, 0, 2482, 0, 0),
  (2480, .iconst 0, 1, 0, 0, 0, 0),
  (2481, .ireturn, 1, 0, 0, 0, 0),
  (2482, .iload 5, 2, 0, 5, 0, 0),
  (2484, .ifCond .ne 15, 3, 0, 2499, 0, 0),
  (2487, .aload_n 3, 1, 0, 3, 0, 0),
  (2488, .iconst 0, 1, 0, 0, 0, 0),
  (2489, .laload, 1, 0, 0, 0, 0),
  (2490, .iload 6, 2, 0, 6, 0, 0),
  (2492, .i2l, 1, 0, 0, 0, 0),
  (2493, .lcmp, 1, 0, 0, 0, 0),
  (2494, .ifCond .eq 5, 3, 0, 2499, 0, 0),
  (2497, .iconst 0, 1, 0, 0, 0, 0),
  (2498, .ireturn, 1, 0, 0, 0, 0),
  (2499, .goto 239, 3, 0, 2738, 0, 0)]
set_option maxRecDepth 100000 in
theorem vr_honest : (lw_D lr_honest []).cd.all (cb_vE (lw_D lr_honest [])) = true := by decide +kernel
theorem lc_honest {L : Nat} {xs : Nat → Int32} {X : cb_X} {iv : Int32} {m k n : Nat} {f : Option Nat} {M : cb_M} (E : lw_E L xs X) (hv : lw_iv iv L) (hR : re_R M m) (hk : k + 8 ≤ room_1.cells) (hn : n + 3252 ≤ room_1.slots) (h : ∀ f' M', re_R M' m → cb_Gd cb_tb lw_0 X 2738 (lw_l iv) [] (cb_aS m, f') M' (k + 8) (n + 3252)) : cb_Gd cb_tb lw_0 X 2446 (lw_l iv) [] (cb_aS m, f) M k n := by
  refine cb_Gd.same (cd := lr_honest) (sw := []) (by decide) ?_
  have B := E.bs lr_honest []
  refine cb_run cb_tb_ok vr_honest (cuts := [2447]) 20 ?_
  refine cl_arg E (ic := 1) (c := 1) rfl hv.2.1 (by decide +kernel) rfl rfl ?_
  refine cb_run cb_tb_ok vr_honest (cuts := [2454]) 20 ?_
  refine cl_help (K := lw_KH false sp_X10_honest [cb_i (xs (iv + 1).toNatClampNeg)] m) (As := cb_r 0 0 :: ([cb_i (xs (iv + 1).toNatClampNeg)] ++ [cb_r 90 0])) (st := []) ok_L_honest E.2.1 E.2.2.1 (cb_tw (i := 1287) (by decide +kernel)) (by decide +kernel) (cb_tw (i := 0) (by decide +kernel)) ⟨by decide, by decide⟩ (cb_tw (i := 1285) (by decide +kernel)) (cb_tw (i := 1286) (by decide +kernel)) ⟨by decide, by decide⟩ (idx := 240) (na := 3) (by decide +kernel) rfl (by decide) (by show k + 1 ≤ room_1.cells; omega) (by show n + 6 ≤ room_1.slots; omega) (by decide +kernel) lw_KHx (hl_ref (re_honest hR _) re_cI_0 rfl rfl) (fun v a1 M1 hK => ?_)
  match v, hK with
  | some (.inl c), hK =>
    obtain ⟨f1, rfl, K2, h2, hT⟩ := hK
    refine cb_run cb_tb_ok vr_honest (cuts := [2460]) 20 ?_
    refine cl_arg E (ic := 1) (c := 1) rfl hv.2.1 (by decide +kernel) rfl rfl ?_
    refine cl_call (As := cb_r 46 0 :: [cb_i (xs (iv + 1).toNatClampNeg)]) (st := []) (cb_csV (idx := 242) (na := 2) B ok_X10_honest wd_X10_honest (cb_tw (i := 1816) (by decide +kernel)) (cb_tw (i := 1817) (by decide +kernel)) (cb_tw (i := 1818) (by decide +kernel)) rc_X10_honest ⟨by decide, by decide⟩ (by decide +kernel)) rfl (by decide) (by show k + 1 + 0 ≤ room_1.cells; omega) (by show n + 6 + 0 ≤ room_1.slots; omega) (by decide +kernel) (hl_m rfl rfl h2) (fun v a2 M2 hK => ?_) (fun _ _ _ h => h)
    obtain ⟨rfl, h3⟩ := hK
    obtain ⟨u, rfl, e0, hR2, hL⟩ := hT _ _ h3
    refine cb_run cb_tb_ok vr_honest (cuts := [2472]) 20 ?_
    refine cl_call (As := [cb_r 46 0]) (st := []) (lw_thr B) rfl (by decide) (by show k + 1 + 0 + 0 ≤ room_1.cells; omega) (by show n + 6 + 0 + 0 ≤ room_1.slots; omega) (by decide +kernel) (hl_m (K2 := fun w M3 => w = some (cb_i (cb_gI M2 46 0 0)) ∧ M3 = M2) rfl rfl ⟨rfl, rfl⟩) (fun v a3 M3 hK => ?_) (fun _ _ _ h => h)
    obtain ⟨rfl, rfl, rfl⟩ := hK
    refine cb_run cb_tb_ok vr_honest (cuts := [2738]) 40 ?_
    have h9 := h f1 _ hR2
    have w1 : k + 1 + 0 + 0 ≤ k + 8 := by omega
    have w2 : n + 6 + 0 + 0 ≤ n + 3252 := by omega
    refine And.intro (fun q1 => And.intro (fun q2 => lw_back w1 w2 h9) (fun q2 => And.intro vp01 ?_)) (fun q1 => absurd e0 q1)
    have q2 : ¬ ¬ c = 0 := q2
    have hc : c = 0 := Classical.byContradiction q2
    have hL := hL hc
    exact And.intro (fun q4 => lw_back w1 w2 h9) (fun q4 => absurd (lw_lc hL) q4)
