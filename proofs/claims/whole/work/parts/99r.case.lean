/-! ===== the law's cases: beginnings, away, own, look, book, fraud ===== -/
def lr_beginnings : List cb_O := [(1219, .aload_n 1, 1, 0, 1, 0, 0),
  (1244, .aload_n 3, 1, 0, 3, 0, 0),
  (1248, .istore 5, 2, 0, 5, 0, 0),
  (1250, .aload_n 2, 1, 0, 2, 0, 0),
  (1278, .istore 6, 2, 0, 6, 0, 0),
  (1280, .aload_n 2, 1, 0, 2, 0, 0),
  (1284, .iload 5, 2, 0, 5, 0, 0),
  (1286, .if_icmp .eq 5, 3, 0, 1291, 0, 0),
  (1289, .iconst 0, 1, 0, 0, 0, 0),
  (1290, .ireturn, 1, 0, 0, 0, 0),
  (1291, .iload 5, 2, 0, 5, 0, 0),
  (1293, .ifCond .ne 15, 3, 0, 1308, 0, 0),
  (1296, .aload_n 3, 1, 0, 3, 0, 0),
  (1297, .iconst 0, 1, 0, 0, 0, 0),
  (1298, .laload, 1, 0, 0, 0, 0),
  (1299, .iload 6, 2, 0, 6, 0, 0),
  (1301, .i2l, 1, 0, 0, 0, 0),
  (1302, .lcmp, 1, 0, 0, 0, 0),
  (1303, .ifCond .eq 5, 3, 0, 1308, 0, 0),
  (1306, .iconst 0, 1, 0, 0, 0, 0),
  (1307, .ireturn, 1, 0, 0, 0, 0),
  (1308, .goto 1430, 3, 0, 2738, 0, 0)]
set_option maxRecDepth 100000 in
theorem vr_beginnings : (lw_D lr_beginnings []).cd.all (cb_vE (lw_D lr_beginnings [])) = true := by decide +kernel
theorem lc_beginnings {L : Nat} {xs : Nat → Int32} {X : cb_X} {iv : Int32} {m k n : Nat} {f : Option Nat} {M : cb_M} (E : lw_E L xs X) (hv : lw_iv iv L) (hR : re_R M m) (hk : k + 8 ≤ room_1.cells) (hn : n + 3252 ≤ room_1.slots) (h : ∀ f' M', re_R M' m → cb_Gd cb_tb lw_0 X 2738 (lw_l iv) [] (cb_aS m, f') M' (k + 8) (n + 3252)) : cb_Gd cb_tb lw_0 X 1219 (lw_l iv) [] (cb_aS m, f) M k n := by
  refine cb_Gd.same (cd := lr_beginnings) (sw := []) (by decide) ?_
  have B := E.bs lr_beginnings []
  refine cb_run cb_tb_ok vr_beginnings (cuts := [1220]) 20 ?_
  refine cl_arg E (ic := 1) (c := 1) rfl hv.2.1 (by decide +kernel) rfl rfl ?_
  refine cl_arg E (ic := 2) (c := 2) rfl hv.2.2.1 (by decide +kernel) rfl rfl ?_
  refine cl_arg E (ic := 3) (c := 3) rfl hv.2.2.2.1 (by decide +kernel) rfl rfl ?_
  refine cl_arg E (ic := 4) (c := 4) rfl hv.2.2.2.2.1 (by decide +kernel) rfl rfl ?_
  refine cb_run cb_tb_ok vr_beginnings (cuts := [1245]) 20 ?_
  refine cl_help (K := lw_KH false sp_X10_beginnings [cb_i (xs (iv + 1).toNatClampNeg), cb_i (xs (iv + 2).toNatClampNeg), cb_i (xs (iv + 3).toNatClampNeg), cb_i (xs (iv + 4).toNatClampNeg)] m) (As := cb_r 0 0 :: ([cb_i (xs (iv + 1).toNatClampNeg), cb_i (xs (iv + 2).toNatClampNeg), cb_i (xs (iv + 3).toNatClampNeg), cb_i (xs (iv + 4).toNatClampNeg)] ++ [cb_r 90 0])) (st := []) ok_L_beginnings E.2.1 E.2.2.1 (cb_tw (i := 997) (by decide +kernel)) (by decide +kernel) (cb_tw (i := 0) (by decide +kernel)) ⟨by decide, by decide⟩ (cb_tw (i := 995) (by decide +kernel)) (cb_tw (i := 996) (by decide +kernel)) ⟨by decide, by decide⟩ (idx := 189) (na := 6) (by decide +kernel) rfl (by decide) (by show k + 5 ≤ room_1.cells; omega) (by show n + 30 ≤ room_1.slots; omega) (by decide +kernel) lw_KHx (hl_ref (re_beginnings hR _ _ _ _) re_c2_0 rfl rfl) (fun v a1 M1 hK => ?_)
  match v, hK with
  | some (.inl c), hK =>
    obtain ⟨f1, rfl, K2, h2, hT⟩ := hK
    refine cb_run cb_tb_ok vr_beginnings (cuts := [1251]) 20 ?_
    refine cl_arg E (ic := 1) (c := 1) rfl hv.2.1 (by decide +kernel) rfl rfl ?_
    refine cl_arg E (ic := 2) (c := 2) rfl hv.2.2.1 (by decide +kernel) rfl rfl ?_
    refine cl_arg E (ic := 3) (c := 3) rfl hv.2.2.2.1 (by decide +kernel) rfl rfl ?_
    refine cl_arg E (ic := 4) (c := 4) rfl hv.2.2.2.2.1 (by decide +kernel) rfl rfl ?_
    refine cl_call (As := cb_r 46 0 :: [cb_i (xs (iv + 1).toNatClampNeg), cb_i (xs (iv + 2).toNatClampNeg), cb_i (xs (iv + 3).toNatClampNeg), cb_i (xs (iv + 4).toNatClampNeg)]) (st := []) (cb_csV (idx := 192) (na := 5) B ok_X10_beginnings wd_X10_beginnings (cb_tw (i := 1733) (by decide +kernel)) (cb_tw (i := 1734) (by decide +kernel)) (cb_tw (i := 1735) (by decide +kernel)) rc_X10_beginnings ⟨by decide, by decide⟩ (by decide +kernel)) rfl (by decide) (by show k + 5 + 0 ≤ room_1.cells; omega) (by show n + 30 + 0 ≤ room_1.slots; omega) (by decide +kernel) (hl_m rfl rfl h2) (fun v a2 M2 hK => ?_) (fun _ _ _ h => h)
    obtain ⟨rfl, h3⟩ := hK
    obtain ⟨u, rfl, e0, hR2, hL⟩ := hT _ _ h3
    refine cb_run cb_tb_ok vr_beginnings (cuts := [1281]) 20 ?_
    refine cl_call (As := [cb_r 46 0]) (st := []) (lw_thr B) rfl (by decide) (by show k + 5 + 0 + 0 ≤ room_1.cells; omega) (by show n + 30 + 0 + 0 ≤ room_1.slots; omega) (by decide +kernel) (hl_m (K2 := fun w M3 => w = some (cb_i (cb_gI M2 46 0 0)) ∧ M3 = M2) rfl rfl ⟨rfl, rfl⟩) (fun v a3 M3 hK => ?_) (fun _ _ _ h => h)
    obtain ⟨rfl, rfl, rfl⟩ := hK
    refine cb_run cb_tb_ok vr_beginnings (cuts := [2738]) 40 ?_
    have h9 := h f1 _ hR2
    have w1 : k + 5 + 0 + 0 ≤ k + 8 := by omega
    have w2 : n + 30 + 0 + 0 ≤ n + 3252 := by omega
    refine And.intro (fun q1 => And.intro (fun q2 => lw_back w1 w2 h9) (fun q2 => And.intro vp01 ?_)) (fun q1 => absurd e0 q1)
    have q2 : ¬ ¬ c = 0 := q2
    have hc : c = 0 := Classical.byContradiction q2
    have hL := hL hc
    exact And.intro (fun q4 => lw_back w1 w2 h9) (fun q4 => absurd (lw_lc hL) q4)
def lr_away : List cb_O := [(1311, .aload_n 1, 1, 0, 1, 0, 0),
  (1324, .aload_n 3, 1, 0, 3, 0, 0),
  (1328, .istore 5, 2, 0, 5, 0, 0),
  (1330, .aload_n 2, 1, 0, 2, 0, 0),
  (1346, .istore 6, 2, 0, 6, 0, 0),
  (1348, .aload_n 2, 1, 0, 2, 0, 0),
  (1352, .iload 5, 2, 0, 5, 0, 0),
  (1354, .if_icmp .eq 5, 3, 0, 1359, 0, 0),
  (1357, .iconst 0, 1, 0, 0, 0, 0),
  (1358, .ireturn, 1, 0, 0, 0, 0),
  (1359, .iload 5, 2, 0, 5, 0, 0),
  (1361, .ifCond .ne 15, 3, 0, 1376, 0, 0),
  (1364, .aload_n 3, 1, 0, 3, 0, 0),
  (1365, .iconst 0, 1, 0, 0, 0, 0),
  (1366, .laload, 1, 0, 0, 0, 0),
  (1367, .iload 6, 2, 0, 6, 0, 0),
  (1369, .i2l, 1, 0, 0, 0, 0),
  (1370, .lcmp, 1, 0, 0, 0, 0),
  (1371, .ifCond .eq 5, 3, 0, 1376, 0, 0),
  (1374, .iconst 0, 1, 0, 0, 0, 0),
  (1375, .ireturn, 1, 0, 0, 0, 0),
  (1376, .goto 1362, 3, 0, 2738, 0, 0)]
set_option maxRecDepth 100000 in
theorem vr_away : (lw_D lr_away []).cd.all (cb_vE (lw_D lr_away [])) = true := by decide +kernel
theorem lc_away {L : Nat} {xs : Nat → Int32} {X : cb_X} {iv : Int32} {m k n : Nat} {f : Option Nat} {M : cb_M} (E : lw_E L xs X) (hv : lw_iv iv L) (hR : re_R M m) (hk : k + 8 ≤ room_1.cells) (hn : n + 3252 ≤ room_1.slots) (h : ∀ f' M', re_R M' m → cb_Gd cb_tb lw_0 X 2738 (lw_l iv) [] (cb_aS m, f') M' (k + 8) (n + 3252)) : cb_Gd cb_tb lw_0 X 1311 (lw_l iv) [] (cb_aS m, f) M k n := by
  refine cb_Gd.same (cd := lr_away) (sw := []) (by decide) ?_
  have B := E.bs lr_away []
  refine cb_run cb_tb_ok vr_away (cuts := [1312]) 20 ?_
  refine cl_arg E (ic := 1) (c := 1) rfl hv.2.1 (by decide +kernel) rfl rfl ?_
  refine cl_arg E (ic := 2) (c := 2) rfl hv.2.2.1 (by decide +kernel) rfl rfl ?_
  refine cb_run cb_tb_ok vr_away (cuts := [1325]) 20 ?_
  refine cl_help (K := lw_KH false sp_X10_away [cb_i (xs (iv + 1).toNatClampNeg), cb_i (xs (iv + 2).toNatClampNeg)] m) (As := cb_r 0 0 :: ([cb_i (xs (iv + 1).toNatClampNeg), cb_i (xs (iv + 2).toNatClampNeg)] ++ [cb_r 90 0])) (st := []) ok_L_away E.2.1 E.2.2.1 (cb_tw (i := 1007) (by decide +kernel)) (by decide +kernel) (cb_tw (i := 0) (by decide +kernel)) ⟨by decide, by decide⟩ (cb_tw (i := 1005) (by decide +kernel)) (cb_tw (i := 1006) (by decide +kernel)) ⟨by decide, by decide⟩ (idx := 193) (na := 4) (by decide +kernel) rfl (by decide) (by show k + 2 ≤ room_1.cells; omega) (by show n + 12 ≤ room_1.slots; omega) (by decide +kernel) lw_KHx (hl_ref (re_away hR _ _) re_c2_0 rfl rfl) (fun v a1 M1 hK => ?_)
  match v, hK with
  | some (.inl c), hK =>
    obtain ⟨f1, rfl, K2, h2, hT⟩ := hK
    refine cb_run cb_tb_ok vr_away (cuts := [1331]) 20 ?_
    refine cl_arg E (ic := 1) (c := 1) rfl hv.2.1 (by decide +kernel) rfl rfl ?_
    refine cl_arg E (ic := 2) (c := 2) rfl hv.2.2.1 (by decide +kernel) rfl rfl ?_
    refine cl_call (As := cb_r 46 0 :: [cb_i (xs (iv + 1).toNatClampNeg), cb_i (xs (iv + 2).toNatClampNeg)]) (st := []) (cb_csV (idx := 195) (na := 3) B ok_X10_away wd_X10_away (cb_tw (i := 1737) (by decide +kernel)) (cb_tw (i := 1738) (by decide +kernel)) (cb_tw (i := 1739) (by decide +kernel)) rc_X10_away ⟨by decide, by decide⟩ (by decide +kernel)) rfl (by decide) (by show k + 2 + 0 ≤ room_1.cells; omega) (by show n + 12 + 0 ≤ room_1.slots; omega) (by decide +kernel) (hl_m rfl rfl h2) (fun v a2 M2 hK => ?_) (fun _ _ _ h => h)
    obtain ⟨rfl, h3⟩ := hK
    obtain ⟨u, rfl, e0, hR2, hL⟩ := hT _ _ h3
    refine cb_run cb_tb_ok vr_away (cuts := [1349]) 20 ?_
    refine cl_call (As := [cb_r 46 0]) (st := []) (lw_thr B) rfl (by decide) (by show k + 2 + 0 + 0 ≤ room_1.cells; omega) (by show n + 12 + 0 + 0 ≤ room_1.slots; omega) (by decide +kernel) (hl_m (K2 := fun w M3 => w = some (cb_i (cb_gI M2 46 0 0)) ∧ M3 = M2) rfl rfl ⟨rfl, rfl⟩) (fun v a3 M3 hK => ?_) (fun _ _ _ h => h)
    obtain ⟨rfl, rfl, rfl⟩ := hK
    refine cb_run cb_tb_ok vr_away (cuts := [2738]) 40 ?_
    have h9 := h f1 _ hR2
    have w1 : k + 2 + 0 + 0 ≤ k + 8 := by omega
    have w2 : n + 12 + 0 + 0 ≤ n + 3252 := by omega
    refine And.intro (fun q1 => And.intro (fun q2 => lw_back w1 w2 h9) (fun q2 => And.intro vp01 ?_)) (fun q1 => absurd e0 q1)
    have q2 : ¬ ¬ c = 0 := q2
    have hc : c = 0 := Classical.byContradiction q2
    have hL := hL hc
    exact And.intro (fun q4 => lw_back w1 w2 h9) (fun q4 => absurd (lw_lc hL) q4)
def lr_own : List cb_O := [(1515, .aload_n 1, 1, 0, 1, 0, 0),
  (1546, .aload_n 3, 1, 0, 3, 0, 0),
  (1550, .istore 5, 2, 0, 5, 0, 0),
  (1552, .aload_n 2, 1, 0, 2, 0, 0),
  (1586, .istore 6, 2, 0, 6, 0, 0),
  (1588, .aload_n 2, 1, 0, 2, 0, 0),
  (1592, .iload 5, 2, 0, 5, 0, 0),
  (1594, .if_icmp .eq 5, 3, 0, 1599, 0, 0),
  (1597, .iconst 0, 1, 0, 0, 0, 0),
  (1598, .ireturn, 1, 0, 0, 0, 0),
  (1599, .iload 5, 2, 0, 5, 0, 0),
  (1601, .ifCond .ne 15, 3, 0, 1616, 0, 0),
  (1604, .aload_n 3, 1, 0, 3, 0, 0),
  (1605, .iconst 0, 1, 0, 0, 0, 0),
  (1606, .laload, 1, 0, 0, 0, 0),
  (1607, .iload 6, 2, 0, 6, 0, 0),
  (1609, .i2l, 1, 0, 0, 0, 0),
  (1610, .lcmp, 1, 0, 0, 0, 0),
  (1611, .ifCond .eq 5, 3, 0, 1616, 0, 0),
  (1614, .iconst 0, 1, 0, 0, 0, 0),
  (1615, .ireturn, 1, 0, 0, 0, 0),
  (1616, .goto 1122, 3, 0, 2738, 0, 0)]
set_option maxRecDepth 100000 in
theorem vr_own : (lw_D lr_own []).cd.all (cb_vE (lw_D lr_own [])) = true := by decide +kernel
theorem lc_own {L : Nat} {xs : Nat → Int32} {X : cb_X} {iv : Int32} {m k n : Nat} {f : Option Nat} {M : cb_M} (E : lw_E L xs X) (hv : lw_iv iv L) (hR : re_R M m) (hk : k + 8 ≤ room_1.cells) (hn : n + 3252 ≤ room_1.slots) (h : ∀ f' M', re_R M' m → cb_Gd cb_tb lw_0 X 2738 (lw_l iv) [] (cb_aS m, f') M' (k + 8) (n + 3252)) : cb_Gd cb_tb lw_0 X 1515 (lw_l iv) [] (cb_aS m, f) M k n := by
  refine cb_Gd.same (cd := lr_own) (sw := []) (by decide) ?_
  have B := E.bs lr_own []
  refine cb_run cb_tb_ok vr_own (cuts := [1516]) 20 ?_
  refine cl_arg E (ic := 1) (c := 1) rfl hv.2.1 (by decide +kernel) rfl rfl ?_
  refine cl_arg E (ic := 2) (c := 2) rfl hv.2.2.1 (by decide +kernel) rfl rfl ?_
  refine cl_arg E (ic := 3) (c := 3) rfl hv.2.2.2.1 (by decide +kernel) rfl rfl ?_
  refine cl_arg E (ic := 4) (c := 4) rfl hv.2.2.2.2.1 (by decide +kernel) rfl rfl ?_
  refine cl_arg E (ic := 5) (c := 5) rfl hv.2.2.2.2.2 (by decide +kernel) rfl rfl ?_
  refine cb_run cb_tb_ok vr_own (cuts := [1547]) 20 ?_
  refine cl_help (K := lw_KH false sp_X10_own [cb_i (xs (iv + 1).toNatClampNeg), cb_i (xs (iv + 2).toNatClampNeg), cb_i (xs (iv + 3).toNatClampNeg), cb_i (xs (iv + 4).toNatClampNeg), cb_i (xs (iv + 5).toNatClampNeg)] m) (As := cb_r 0 0 :: ([cb_i (xs (iv + 1).toNatClampNeg), cb_i (xs (iv + 2).toNatClampNeg), cb_i (xs (iv + 3).toNatClampNeg), cb_i (xs (iv + 4).toNatClampNeg), cb_i (xs (iv + 5).toNatClampNeg)] ++ [cb_r 90 0])) (st := []) ok_L_own E.2.1 E.2.2.1 (cb_tw (i := 1107) (by decide +kernel)) (by decide +kernel) (cb_tw (i := 0) (by decide +kernel)) ⟨by decide, by decide⟩ (cb_tw (i := 1105) (by decide +kernel)) (cb_tw (i := 1106) (by decide +kernel)) ⟨by decide, by decide⟩ (idx := 203) (na := 7) (by decide +kernel) rfl (by decide) (by show k + 5 ≤ room_1.cells; omega) (by show n + 30 ≤ room_1.slots; omega) (by decide +kernel) lw_KHx (hl_ref (re_own hR _ _ _ _ _) re_c2_0 rfl rfl) (fun v a1 M1 hK => ?_)
  match v, hK with
  | some (.inl c), hK =>
    obtain ⟨f1, rfl, K2, h2, hT⟩ := hK
    refine cb_run cb_tb_ok vr_own (cuts := [1553]) 20 ?_
    refine cl_arg E (ic := 1) (c := 1) rfl hv.2.1 (by decide +kernel) rfl rfl ?_
    refine cl_arg E (ic := 2) (c := 2) rfl hv.2.2.1 (by decide +kernel) rfl rfl ?_
    refine cl_arg E (ic := 3) (c := 3) rfl hv.2.2.2.1 (by decide +kernel) rfl rfl ?_
    refine cl_arg E (ic := 4) (c := 4) rfl hv.2.2.2.2.1 (by decide +kernel) rfl rfl ?_
    refine cl_arg E (ic := 5) (c := 5) rfl hv.2.2.2.2.2 (by decide +kernel) rfl rfl ?_
    refine cl_call (As := cb_r 46 0 :: [cb_i (xs (iv + 1).toNatClampNeg), cb_i (xs (iv + 2).toNatClampNeg), cb_i (xs (iv + 3).toNatClampNeg), cb_i (xs (iv + 4).toNatClampNeg), cb_i (xs (iv + 5).toNatClampNeg)]) (st := []) (cb_csV (idx := 206) (na := 6) B ok_X10_own wd_X10_own (cb_tw (i := 1772) (by decide +kernel)) (cb_tw (i := 1773) (by decide +kernel)) (cb_tw (i := 1774) (by decide +kernel)) rc_X10_own ⟨by decide, by decide⟩ (by decide +kernel)) rfl (by decide) (by show k + 5 + 0 ≤ room_1.cells; omega) (by show n + 30 + 0 ≤ room_1.slots; omega) (by decide +kernel) (hl_m rfl rfl h2) (fun v a2 M2 hK => ?_) (fun _ _ _ h => h)
    obtain ⟨rfl, h3⟩ := hK
    obtain ⟨u, rfl, e0, hR2, hL⟩ := hT _ _ h3
    refine cb_run cb_tb_ok vr_own (cuts := [1589]) 20 ?_
    refine cl_call (As := [cb_r 46 0]) (st := []) (lw_thr B) rfl (by decide) (by show k + 5 + 0 + 0 ≤ room_1.cells; omega) (by show n + 30 + 0 + 0 ≤ room_1.slots; omega) (by decide +kernel) (hl_m (K2 := fun w M3 => w = some (cb_i (cb_gI M2 46 0 0)) ∧ M3 = M2) rfl rfl ⟨rfl, rfl⟩) (fun v a3 M3 hK => ?_) (fun _ _ _ h => h)
    obtain ⟨rfl, rfl, rfl⟩ := hK
    refine cb_run cb_tb_ok vr_own (cuts := [2738]) 40 ?_
    have h9 := h f1 _ hR2
    have w1 : k + 5 + 0 + 0 ≤ k + 8 := by omega
    have w2 : n + 30 + 0 + 0 ≤ n + 3252 := by omega
    refine And.intro (fun q1 => And.intro (fun q2 => lw_back w1 w2 h9) (fun q2 => And.intro vp01 ?_)) (fun q1 => absurd e0 q1)
    have q2 : ¬ ¬ c = 0 := q2
    have hc : c = 0 := Classical.byContradiction q2
    have hL := hL hc
    exact And.intro (fun q4 => lw_back w1 w2 h9) (fun q4 => absurd (lw_lc hL) q4)
def lr_look : List cb_O := [(1619, .aload_n 1, 1, 0, 1, 0, 0),
  (1638, .aload_n 3, 1, 0, 3, 0, 0),
  (1642, .istore 5, 2, 0, 5, 0, 0),
  (1644, .aload_n 2, 1, 0, 2, 0, 0),
  (1666, .istore 6, 2, 0, 6, 0, 0),
  (1668, .aload_n 2, 1, 0, 2, 0, 0),
  (1672, .iload 5, 2, 0, 5, 0, 0),
  (1674, .if_icmp .eq 5, 3, 0, 1679, 0, 0),
  (1677, .iconst 0, 1, 0, 0, 0, 0),
  (1678, .ireturn, 1, 0, 0, 0, 0),
  (1679, .iload 5, 2, 0, 5, 0, 0),
  (1681, .ifCond .ne 15, 3, 0, 1696, 0, 0),
  (1684, .aload_n 3, 1, 0, 3, 0, 0),
  (1685, .iconst 0, 1, 0, 0, 0, 0),
  (1686, .laload, 1, 0, 0, 0, 0),
  (1687, .iload 6, 2, 0, 6, 0, 0),
  (1689, .i2l, 1, 0, 0, 0, 0),
  (1690, .lcmp, 1, 0, 0, 0, 0),
  (1691, .ifCond .eq 5, 3, 0, 1696, 0, 0),
  (1694, .iconst 0, 1, 0, 0, 0, 0),
  (1695, .ireturn, 1, 0, 0, 0, 0),
  (1696, .goto 1042, 3, 0, 2738, 0, 0)]
set_option maxRecDepth 100000 in
theorem vr_look : (lw_D lr_look []).cd.all (cb_vE (lw_D lr_look [])) = true := by decide +kernel
theorem lc_look {L : Nat} {xs : Nat → Int32} {X : cb_X} {iv : Int32} {m k n : Nat} {f : Option Nat} {M : cb_M} (E : lw_E L xs X) (hv : lw_iv iv L) (hR : re_R M m) (hk : k + 8 ≤ room_1.cells) (hn : n + 3252 ≤ room_1.slots) (h : ∀ f' M', re_R M' m → cb_Gd cb_tb lw_0 X 2738 (lw_l iv) [] (cb_aS m, f') M' (k + 8) (n + 3252)) : cb_Gd cb_tb lw_0 X 1619 (lw_l iv) [] (cb_aS m, f) M k n := by
  refine cb_Gd.same (cd := lr_look) (sw := []) (by decide) ?_
  have B := E.bs lr_look []
  refine cb_run cb_tb_ok vr_look (cuts := [1620]) 20 ?_
  refine cl_arg E (ic := 1) (c := 1) rfl hv.2.1 (by decide +kernel) rfl rfl ?_
  refine cl_arg E (ic := 2) (c := 2) rfl hv.2.2.1 (by decide +kernel) rfl rfl ?_
  refine cl_arg E (ic := 3) (c := 3) rfl hv.2.2.2.1 (by decide +kernel) rfl rfl ?_
  refine cb_run cb_tb_ok vr_look (cuts := [1639]) 20 ?_
  refine cl_help (K := lw_KH false sp_X10_look [cb_i (xs (iv + 1).toNatClampNeg), cb_i (xs (iv + 2).toNatClampNeg), cb_i (xs (iv + 3).toNatClampNeg)] m) (As := cb_r 0 0 :: ([cb_i (xs (iv + 1).toNatClampNeg), cb_i (xs (iv + 2).toNatClampNeg), cb_i (xs (iv + 3).toNatClampNeg)] ++ [cb_r 90 0])) (st := []) ok_L_look E.2.1 E.2.2.1 (cb_tw (i := 1128) (by decide +kernel)) (by decide +kernel) (cb_tw (i := 0) (by decide +kernel)) ⟨by decide, by decide⟩ (cb_tw (i := 1126) (by decide +kernel)) (cb_tw (i := 1127) (by decide +kernel)) ⟨by decide, by decide⟩ (idx := 207) (na := 5) (by decide +kernel) rfl (by decide) (by show k + 3 ≤ room_1.cells; omega) (by show n + 18 ≤ room_1.slots; omega) (by decide +kernel) lw_KHx (hl_ref (re_look hR _ _ _) re_c2_0 rfl rfl) (fun v a1 M1 hK => ?_)
  match v, hK with
  | some (.inl c), hK =>
    obtain ⟨f1, rfl, K2, h2, hT⟩ := hK
    refine cb_run cb_tb_ok vr_look (cuts := [1645]) 20 ?_
    refine cl_arg E (ic := 1) (c := 1) rfl hv.2.1 (by decide +kernel) rfl rfl ?_
    refine cl_arg E (ic := 2) (c := 2) rfl hv.2.2.1 (by decide +kernel) rfl rfl ?_
    refine cl_arg E (ic := 3) (c := 3) rfl hv.2.2.2.1 (by decide +kernel) rfl rfl ?_
    refine cl_call (As := cb_r 46 0 :: [cb_i (xs (iv + 1).toNatClampNeg), cb_i (xs (iv + 2).toNatClampNeg), cb_i (xs (iv + 3).toNatClampNeg)]) (st := []) (cb_csV (idx := 209) (na := 4) B ok_X10_look wd_X10_look (cb_tw (i := 1785) (by decide +kernel)) (cb_tw (i := 1786) (by decide +kernel)) (cb_tw (i := 1787) (by decide +kernel)) rc_X10_look ⟨by decide, by decide⟩ (by decide +kernel)) rfl (by decide) (by show k + 3 + 0 ≤ room_1.cells; omega) (by show n + 18 + 0 ≤ room_1.slots; omega) (by decide +kernel) (hl_m rfl rfl h2) (fun v a2 M2 hK => ?_) (fun _ _ _ h => h)
    obtain ⟨rfl, h3⟩ := hK
    obtain ⟨u, rfl, e0, hR2, hL⟩ := hT _ _ h3
    refine cb_run cb_tb_ok vr_look (cuts := [1669]) 20 ?_
    refine cl_call (As := [cb_r 46 0]) (st := []) (lw_thr B) rfl (by decide) (by show k + 3 + 0 + 0 ≤ room_1.cells; omega) (by show n + 18 + 0 + 0 ≤ room_1.slots; omega) (by decide +kernel) (hl_m (K2 := fun w M3 => w = some (cb_i (cb_gI M2 46 0 0)) ∧ M3 = M2) rfl rfl ⟨rfl, rfl⟩) (fun v a3 M3 hK => ?_) (fun _ _ _ h => h)
    obtain ⟨rfl, rfl, rfl⟩ := hK
    refine cb_run cb_tb_ok vr_look (cuts := [2738]) 40 ?_
    have h9 := h f1 _ hR2
    have w1 : k + 3 + 0 + 0 ≤ k + 8 := by omega
    have w2 : n + 18 + 0 + 0 ≤ n + 3252 := by omega
    refine And.intro (fun q1 => And.intro (fun q2 => lw_back w1 w2 h9) (fun q2 => And.intro vp01 ?_)) (fun q1 => absurd e0 q1)
    have q2 : ¬ ¬ c = 0 := q2
    have hc : c = 0 := Classical.byContradiction q2
    have hL := hL hc
    exact And.intro (fun q4 => lw_back w1 w2 h9) (fun q4 => absurd (lw_lc hL) q4)
def lr_book : List cb_O := [(1699, .aload_n 1, 1, 0, 1, 0, 0),
  (1712, .aload_n 3, 1, 0, 3, 0, 0),
  (1716, .istore 5, 2, 0, 5, 0, 0),
  (1718, .aload_n 2, 1, 0, 2, 0, 0),
  (1734, .istore 6, 2, 0, 6, 0, 0),
  (1736, .aload_n 2, 1, 0, 2, 0, 0),
  (1740, .iload 5, 2, 0, 5, 0, 0),
  (1742, .if_icmp .eq 5, 3, 0, 1747, 0, 0),
  (1745, .iconst 0, 1, 0, 0, 0, 0),
  (1746, .ireturn, 1, 0, 0, 0, 0),
  (1747, .iload 5, 2, 0, 5, 0, 0),
  (1749, .ifCond .ne 15, 3, 0, 1764, 0, 0),
  (1752, .aload_n 3, 1, 0, 3, 0, 0),
  (1753, .iconst 0, 1, 0, 0, 0, 0),
  (1754, .laload, 1, 0, 0, 0, 0),
  (1755, .iload 6, 2, 0, 6, 0, 0),
  (1757, .i2l, 1, 0, 0, 0, 0),
  (1758, .lcmp, 1, 0, 0, 0, 0),
  (1759, .ifCond .eq 5, 3, 0, 1764, 0, 0),
  (1762, .iconst 0, 1, 0, 0, 0, 0),
  (1763, .ireturn, 1, 0, 0, 0, 0),
  (1764, .goto 974, 3, 0, 2738, 0, 0)]
set_option maxRecDepth 100000 in
theorem vr_book : (lw_D lr_book []).cd.all (cb_vE (lw_D lr_book [])) = true := by decide +kernel
theorem lc_book {L : Nat} {xs : Nat → Int32} {X : cb_X} {iv : Int32} {m k n : Nat} {f : Option Nat} {M : cb_M} (E : lw_E L xs X) (hv : lw_iv iv L) (hR : re_R M m) (hk : k + 8 ≤ room_1.cells) (hn : n + 3252 ≤ room_1.slots) (h : ∀ f' M', re_R M' m → cb_Gd cb_tb lw_0 X 2738 (lw_l iv) [] (cb_aS m, f') M' (k + 8) (n + 3252)) : cb_Gd cb_tb lw_0 X 1699 (lw_l iv) [] (cb_aS m, f) M k n := by
  refine cb_Gd.same (cd := lr_book) (sw := []) (by decide) ?_
  have B := E.bs lr_book []
  refine cb_run cb_tb_ok vr_book (cuts := [1700]) 20 ?_
  refine cl_arg E (ic := 1) (c := 1) rfl hv.2.1 (by decide +kernel) rfl rfl ?_
  refine cl_arg E (ic := 2) (c := 2) rfl hv.2.2.1 (by decide +kernel) rfl rfl ?_
  refine cb_run cb_tb_ok vr_book (cuts := [1713]) 20 ?_
  refine cl_help (K := lw_KH false sp_X10_book [cb_i (xs (iv + 1).toNatClampNeg), cb_i (xs (iv + 2).toNatClampNeg)] m) (As := cb_r 0 0 :: ([cb_i (xs (iv + 1).toNatClampNeg), cb_i (xs (iv + 2).toNatClampNeg)] ++ [cb_r 90 0])) (st := []) ok_L_book E.2.1 E.2.2.1 (cb_tw (i := 1140) (by decide +kernel)) (by decide +kernel) (cb_tw (i := 0) (by decide +kernel)) ⟨by decide, by decide⟩ (cb_tw (i := 1138) (by decide +kernel)) (cb_tw (i := 1139) (by decide +kernel)) ⟨by decide, by decide⟩ (idx := 210) (na := 4) (by decide +kernel) rfl (by decide) (by show k + 2 ≤ room_1.cells; omega) (by show n + 12 ≤ room_1.slots; omega) (by decide +kernel) lw_KHx (hl_ref (re_book hR _ _) re_c2_0 rfl rfl) (fun v a1 M1 hK => ?_)
  match v, hK with
  | some (.inl c), hK =>
    obtain ⟨f1, rfl, K2, h2, hT⟩ := hK
    refine cb_run cb_tb_ok vr_book (cuts := [1719]) 20 ?_
    refine cl_arg E (ic := 1) (c := 1) rfl hv.2.1 (by decide +kernel) rfl rfl ?_
    refine cl_arg E (ic := 2) (c := 2) rfl hv.2.2.1 (by decide +kernel) rfl rfl ?_
    refine cl_call (As := cb_r 46 0 :: [cb_i (xs (iv + 1).toNatClampNeg), cb_i (xs (iv + 2).toNatClampNeg)]) (st := []) (cb_csV (idx := 212) (na := 3) B ok_X10_book wd_X10_book (cb_tw (i := 1792) (by decide +kernel)) (cb_tw (i := 1793) (by decide +kernel)) (cb_tw (i := 1794) (by decide +kernel)) rc_X10_book ⟨by decide, by decide⟩ (by decide +kernel)) rfl (by decide) (by show k + 2 + 0 ≤ room_1.cells; omega) (by show n + 12 + 0 ≤ room_1.slots; omega) (by decide +kernel) (hl_m rfl rfl h2) (fun v a2 M2 hK => ?_) (fun _ _ _ h => h)
    obtain ⟨rfl, h3⟩ := hK
    obtain ⟨u, rfl, e0, hR2, hL⟩ := hT _ _ h3
    refine cb_run cb_tb_ok vr_book (cuts := [1737]) 20 ?_
    refine cl_call (As := [cb_r 46 0]) (st := []) (lw_thr B) rfl (by decide) (by show k + 2 + 0 + 0 ≤ room_1.cells; omega) (by show n + 12 + 0 + 0 ≤ room_1.slots; omega) (by decide +kernel) (hl_m (K2 := fun w M3 => w = some (cb_i (cb_gI M2 46 0 0)) ∧ M3 = M2) rfl rfl ⟨rfl, rfl⟩) (fun v a3 M3 hK => ?_) (fun _ _ _ h => h)
    obtain ⟨rfl, rfl, rfl⟩ := hK
    refine cb_run cb_tb_ok vr_book (cuts := [2738]) 40 ?_
    have h9 := h f1 _ hR2
    have w1 : k + 2 + 0 + 0 ≤ k + 8 := by omega
    have w2 : n + 12 + 0 + 0 ≤ n + 3252 := by omega
    refine And.intro (fun q1 => And.intro (fun q2 => lw_back w1 w2 h9) (fun q2 => And.intro vp01 ?_)) (fun q1 => absurd e0 q1)
    have q2 : ¬ ¬ c = 0 := q2
    have hc : c = 0 := Classical.byContradiction q2
    have hL := hL hc
    exact And.intro (fun q4 => lw_back w1 w2 h9) (fun q4 => absurd (lw_lc hL) q4)
def lr_fraud : List cb_O := [(1823, .aload_n 1, 1, 0, 1, 0, 0),
  (1836, .aload_n 3, 1, 0, 3, 0, 0),
  (1840, .istore 5, 2, 0, 5, 0, 0),
  (1842, .aload_n 2, 1, 0, 2, 0, 0),
  (1858, .istore 6, 2, 0, 6, 0, 0),
  (1860, .aload_n 2, 1, 0, 2, 0, 0),
  (1864, .iload 5, 2, 0, 5, 0, 0),
  (1866, .if_icmp .eq 5, 3, 0, 1871, 0, 0),
  (1869, .iconst 0, 1, 0, 0, 0, 0),
  (1870, .ireturn, 1, 0, 0, 0, 0),
  (1871, .iload 5, 2, 0, 5, 0, 0),
  (1873, .ifCond .ne 22, 3, 0, 1895, 0, 0),
  (1876, .aload_n 3, 1, 0, 3, 0, 0),
  (1877, .iconst 0, 1, 0, 0, 0, 0),
  (1878, .laload, 1, 0, 0, 0, 0),
  (1879, .iload 6, 2, 0, 6, 0, 0),
  (1881, .ifCond .eq 7, 3, 0, 1888, 0, 0),
  (1884, .lconst 1, 1, 0, 0, 0, 0),
  (1885, .goto 4, 3, 0, 1889, 0, 0),
  (1888, .lconst 0, 1, 0, 0, 0, 0),
  (1889, .lcmp, 1, 0, 0, 0, 0),
  (1890, .ifCond .eq 5, 3, 0, 1895, 0, 0),
  (1893, .iconst 0, 1, 0, 0, 0, 0),
  (1894, .ireturn, 1, 0, 0, 0, 0),
  (1895, .goto 843, 3, 0, 2738, 0, 0)]
set_option maxRecDepth 100000 in
theorem vr_fraud : (lw_D lr_fraud []).cd.all (cb_vE (lw_D lr_fraud [])) = true := by decide +kernel
theorem lc_fraud {L : Nat} {xs : Nat → Int32} {X : cb_X} {iv : Int32} {m k n : Nat} {f : Option Nat} {M : cb_M} (E : lw_E L xs X) (hv : lw_iv iv L) (hR : re_R M m) (hk : k + 8 ≤ room_1.cells) (hn : n + 3252 ≤ room_1.slots) (h : ∀ f' M', re_R M' m → cb_Gd cb_tb lw_0 X 2738 (lw_l iv) [] (cb_aS m, f') M' (k + 8) (n + 3252)) : cb_Gd cb_tb lw_0 X 1823 (lw_l iv) [] (cb_aS m, f) M k n := by
  refine cb_Gd.same (cd := lr_fraud) (sw := []) (by decide) ?_
  have B := E.bs lr_fraud []
  refine cb_run cb_tb_ok vr_fraud (cuts := [1824]) 20 ?_
  refine cl_arg E (ic := 1) (c := 1) rfl hv.2.1 (by decide +kernel) rfl rfl ?_
  refine cl_arg E (ic := 2) (c := 2) rfl hv.2.2.1 (by decide +kernel) rfl rfl ?_
  refine cb_run cb_tb_ok vr_fraud (cuts := [1837]) 20 ?_
  refine cl_help (K := lw_KH true sp_X10_fraud [cb_i (xs (iv + 1).toNatClampNeg), cb_i (xs (iv + 2).toNatClampNeg)] m) (As := cb_r 0 0 :: ([cb_i (xs (iv + 1).toNatClampNeg), cb_i (xs (iv + 2).toNatClampNeg)] ++ [cb_r 90 0])) (st := []) ok_L_fraud E.2.1 E.2.2.1 (cb_tw (i := 1163) (by decide +kernel)) (by decide +kernel) (cb_tw (i := 0) (by decide +kernel)) ⟨by decide, by decide⟩ (cb_tw (i := 1161) (by decide +kernel)) (cb_tw (i := 1162) (by decide +kernel)) ⟨by decide, by decide⟩ (idx := 216) (na := 4) (by decide +kernel) rfl (by decide) (by show k + 2 ≤ room_1.cells; omega) (by show n + 12 ≤ room_1.slots; omega) (by decide +kernel) lw_KHx (hl_ref (re_fraud hR _ _) re_c2_0 rfl rfl) (fun v a1 M1 hK => ?_)
  match v, hK with
  | some (.inl c), hK =>
    obtain ⟨f1, rfl, K2, h2, hT⟩ := hK
    refine cb_run cb_tb_ok vr_fraud (cuts := [1843]) 20 ?_
    refine cl_arg E (ic := 1) (c := 1) rfl hv.2.1 (by decide +kernel) rfl rfl ?_
    refine cl_arg E (ic := 2) (c := 2) rfl hv.2.2.1 (by decide +kernel) rfl rfl ?_
    refine cl_call (As := cb_r 46 0 :: [cb_i (xs (iv + 1).toNatClampNeg), cb_i (xs (iv + 2).toNatClampNeg)]) (st := []) (cb_csV (idx := 218) (na := 3) B ok_X10_fraud wd_X10_fraud (cb_tw (i := 1808) (by decide +kernel)) (cb_tw (i := 1809) (by decide +kernel)) (cb_tw (i := 1810) (by decide +kernel)) rc_X10_fraud ⟨by decide, by decide⟩ (by decide +kernel)) rfl (by decide) (by show k + 2 + 0 ≤ room_1.cells; omega) (by show n + 12 + 0 ≤ room_1.slots; omega) (by decide +kernel) (hl_m rfl rfl h2) (fun v a2 M2 hK => ?_) (fun _ _ _ h => h)
    obtain ⟨rfl, h3⟩ := hK
    obtain ⟨u, rfl, e0, hR2, hL⟩ := hT _ _ h3
    refine cb_run cb_tb_ok vr_fraud (cuts := [1861]) 20 ?_
    refine cl_call (As := [cb_r 46 0]) (st := []) (lw_thr B) rfl (by decide) (by show k + 2 + 0 + 0 ≤ room_1.cells; omega) (by show n + 12 + 0 + 0 ≤ room_1.slots; omega) (by decide +kernel) (hl_m (K2 := fun w M3 => w = some (cb_i (cb_gI M2 46 0 0)) ∧ M3 = M2) rfl rfl ⟨rfl, rfl⟩) (fun v a3 M3 hK => ?_) (fun _ _ _ h => h)
    obtain ⟨rfl, rfl, rfl⟩ := hK
    refine cb_run cb_tb_ok vr_fraud (cuts := [2738]) 40 ?_
    have h9 := h f1 _ hR2
    have w1 : k + 2 + 0 + 0 ≤ k + 8 := by omega
    have w2 : n + 12 + 0 + 0 ≤ n + 3252 := by omega
    refine And.intro (fun q1 => And.intro (fun q2 => lw_back w1 w2 h9) (fun q2 => And.intro vp01 ?_)) (fun q1 => absurd e0 q1)
    have q2 : ¬ ¬ c = 0 := q2
    have hc : c = 0 := Classical.byContradiction q2
    have hL := hL hc
    refine And.intro (fun q3 => And.intro (fun q4 => lw_back w1 w2 h9) (fun q4 => absurd (lw_lc (hL.trans (if_pos q3))) q4)) (fun q3 => And.intro (fun q4 => lw_back w1 w2 h9) (fun q4 => absurd (lw_lc (hL.trans (if_neg q3))) q4))
