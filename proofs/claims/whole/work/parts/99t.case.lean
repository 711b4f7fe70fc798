/-! ===== the law's cases: pull, hang, wall, told, days, undo, standing ===== -/
def lr_pull : List cb_O := [(622, .aload_n 1, 1, 0, 1, 0, 0),
  (629, .aload_n 3, 1, 0, 3, 0, 0),
  (633, .istore 5, 2, 0, 5, 0, 0),
  (635, .aload_n 2, 1, 0, 2, 0, 0),
  (645, .istore 6, 2, 0, 6, 0, 0),
  (647, .aload_n 2, 1, 0, 2, 0, 0),
  (651, .iload 5, 2, 0, 5, 0, 0),
  (653, .if_icmp .eq 5, 3, 0, 658, 0, 0),
  (656, .iconst 0, 1, 0, 0, 0, 0),
  (657, .ireturn, 1, 0, 0, 0, 0),
  (658, .iload 5, 2, 0, 5, 0, 0),
  (660, .ifCond .ne 15, 3, 0, 675, 0, 0),
  (663, .aload_n 3, 1, 0, 3, 0, 0),
  (664, .iconst 0, 1, 0, 0, 0, 0),
  (665, .laload, 1, 0, 0, 0, 0),
  (666, .iload 6, 2, 0, 6, 0, 0),
  (668, .i2l, 1, 0, 0, 0, 0),
  (669, .lcmp, 1, 0, 0, 0, 0),
  (670, .ifCond .eq 5, 3, 0, 675, 0, 0),
  (673, .iconst 0, 1, 0, 0, 0, 0),
  (674, .ireturn, 1, 0, 0, 0, 0),
  (675, .goto 2063, 3, 0, 2738, 0, 0)]
set_option maxRecDepth 100000 in
theorem vr_pull : (lw_D lr_pull []).cd.all (cb_vE (lw_D lr_pull [])) = true := by decide +kernel
theorem lc_pull {L : Nat} {xs : Nat → Int32} {X : cb_X} {iv : Int32} {m k n : Nat} {f : Option Nat} {M : cb_M} (E : lw_E L xs X) (hv : lw_iv iv L) (hR : re_R M m) (hk : k + 8 ≤ room_1.cells) (hn : n + 3252 ≤ room_1.slots) (h : ∀ f' M', re_R M' m → cb_Gd cb_tb lw_0 X 2738 (lw_l iv) [] (cb_aS m, f') M' (k + 8) (n + 3252)) : cb_Gd cb_tb lw_0 X 622 (lw_l iv) [] (cb_aS m, f) M k n := by
  refine cb_Gd.same (cd := lr_pull) (sw := []) (by decide) ?_
  have B := E.bs lr_pull []
  refine cb_run cb_tb_ok vr_pull (cuts := [623]) 20 ?_
  refine cl_arg E (ic := 1) (c := 1) rfl hv.2.1 (by decide +kernel) rfl rfl ?_
  refine cb_run cb_tb_ok vr_pull (cuts := [630]) 20 ?_
  refine cl_help (K := lw_KH false sp_X10_pull [cb_i (xs (iv + 1).toNatClampNeg)] m) (As := cb_r 0 0 :: ([cb_i (xs (iv + 1).toNatClampNeg)] ++ [cb_r 90 0])) (st := []) ok_L_pull E.2.1 E.2.2.1 (cb_tw (i := 846) (by decide +kernel)) (by decide +kernel) (cb_tw (i := 0) (by decide +kernel)) ⟨by decide, by decide⟩ (cb_tw (i := 844) (by decide +kernel)) (cb_tw (i := 845) (by decide +kernel)) ⟨by decide, by decide⟩ (idx := 154) (na := 3) (by decide +kernel) rfl (by decide) (by show k + 1 ≤ room_1.cells; omega) (by show n + 6 ≤ room_1.slots; omega) (by decide +kernel) lw_KHx (hl_ref (re_pull hR _) re_cN_0 rfl rfl) (fun v a1 M1 hK => ?_)
  match v, hK with
  | some (.inl c), hK =>
    obtain ⟨f1, rfl, K2, h2, hT⟩ := hK
    refine cb_run cb_tb_ok vr_pull (cuts := [636]) 20 ?_
    refine cl_arg E (ic := 1) (c := 1) rfl hv.2.1 (by decide +kernel) rfl rfl ?_
    refine cl_call (As := cb_r 46 0 :: [cb_i (xs (iv + 1).toNatClampNeg)]) (st := []) (cb_csV (idx := 156) (na := 2) B ok_X10_pull wd_X10_pull (cb_tw (i := 1626) (by decide +kernel)) (cb_tw (i := 1627) (by decide +kernel)) (cb_tw (i := 1628) (by decide +kernel)) rc_X10_pull ⟨by decide, by decide⟩ (by decide +kernel)) rfl (by decide) (by show k + 1 + 0 ≤ room_1.cells; omega) (by show n + 6 + 0 ≤ room_1.slots; omega) (by decide +kernel) (hl_m rfl rfl h2) (fun v a2 M2 hK => ?_) (fun _ _ _ h => h)
    obtain ⟨rfl, h3⟩ := hK
    obtain ⟨u, rfl, e0, hR2, hL⟩ := hT _ _ h3
    refine cb_run cb_tb_ok vr_pull (cuts := [648]) 20 ?_
    refine cl_call (As := [cb_r 46 0]) (st := []) (lw_thr B) rfl (by decide) (by show k + 1 + 0 + 0 ≤ room_1.cells; omega) (by show n + 6 + 0 + 0 ≤ room_1.slots; omega) (by decide +kernel) (hl_m (K2 := fun w M3 => w = some (cb_i (cb_gI M2 46 0 0)) ∧ M3 = M2) rfl rfl ⟨rfl, rfl⟩) (fun v a3 M3 hK => ?_) (fun _ _ _ h => h)
    obtain ⟨rfl, rfl, rfl⟩ := hK
    refine cb_run cb_tb_ok vr_pull (cuts := [2738]) 40 ?_
    have h9 := h f1 _ hR2
    have w1 : k + 1 + 0 + 0 ≤ k + 8 := by omega
    have w2 : n + 6 + 0 + 0 ≤ n + 3252 := by omega
    refine And.intro (fun q1 => And.intro (fun q2 => lw_back w1 w2 h9) (fun q2 => And.intro vp01 ?_)) (fun q1 => absurd e0 q1)
    have q2 : ¬ ¬ c = 0 := q2
    have hc : c = 0 := Classical.byContradiction q2
    have hL := hL hc
    exact And.intro (fun q4 => lw_back w1 w2 h9) (fun q4 => absurd (lw_lc hL) q4)
def lr_hang : List cb_O := [(952, .aload_n 1, 1, 0, 1, 0, 0),
  (965, .aload_n 3, 1, 0, 3, 0, 0),
  (969, .istore 5, 2, 0, 5, 0, 0),
  (971, .aload_n 2, 1, 0, 2, 0, 0),
  (987, .istore 6, 2, 0, 6, 0, 0),
  (989, .aload_n 2, 1, 0, 2, 0, 0),
  (993, .iload 5, 2, 0, 5, 0, 0),
  (995, .if_icmp .eq 5, 3, 0, 1000, 0, 0),
  (998, .iconst 0, 1, 0, 0, 0, 0),
  (999, .ireturn, 1, 0, 0, 0, 0),
  (1000, .iload 5, 2, 0, 5, 0, 0),
  (1002, .ifCond .ne 15, 3, 0, 1017, 0, 0),
  (1005, .aload_n 3, 1, 0, 3, 0, 0),
  (1006, .iconst 0, 1, 0, 0, 0, 0),
  (1007, .laload, 1, 0, 0, 0, 0),
  (1008, .iload 6, 2, 0, 6, 0, 0),
  (1010, .i2l, 1, 0, 0, 0, 0),
  (1011, .lcmp, 1, 0, 0, 0, 0),
  (1012, .ifCond .eq 5, 3, 0, 1017, 0, 0),
  (1015, .iconst 0, 1, 0, 0, 0, 0),
  (1016, .ireturn, 1, 0, 0, 0, 0),
  (1017, .goto 1721, 3, 0, 2738, 0, 0)]
set_option maxRecDepth 100000 in
theorem vr_hang : (lw_D lr_hang []).cd.all (cb_vE (lw_D lr_hang [])) = true := by decide +kernel
theorem lc_hang {L : Nat} {xs : Nat → Int32} {X : cb_X} {iv : Int32} {m k n : Nat} {f : Option Nat} {M : cb_M} (E : lw_E L xs X) (hv : lw_iv iv L) (hR : re_R M m) (hk : k + 8 ≤ room_1.cells) (hn : n + 3252 ≤ room_1.slots) (h : ∀ f' M', re_R M' m → cb_Gd cb_tb lw_0 X 2738 (lw_l iv) [] (cb_aS m, f') M' (k + 8) (n + 3252)) : cb_Gd cb_tb lw_0 X 952 (lw_l iv) [] (cb_aS m, f) M k n := by
  refine cb_Gd.same (cd := lr_hang) (sw := []) (by decide) ?_
  have B := E.bs lr_hang []
  refine cb_run cb_tb_ok vr_hang (cuts := [953]) 20 ?_
  refine cl_arg E (ic := 1) (c := 1) rfl hv.2.1 (by decide +kernel) rfl rfl ?_
  refine cl_arg E (ic := 2) (c := 2) rfl hv.2.2.1 (by decide +kernel) rfl rfl ?_
  refine cb_run cb_tb_ok vr_hang (cuts := [966]) 20 ?_
  refine cl_help (K := lw_KH false sp_X10_hang [cb_i (xs (iv + 1).toNatClampNeg), cb_i (xs (iv + 2).toNatClampNeg)] m) (As := cb_r 0 0 :: ([cb_i (xs (iv + 1).toNatClampNeg), cb_i (xs (iv + 2).toNatClampNeg)] ++ [cb_r 90 0])) (st := []) ok_L_hang E.2.1 E.2.2.1 (cb_tw (i := 942) (by decide +kernel)) (by decide +kernel) (cb_tw (i := 0) (by decide +kernel)) ⟨by decide, by decide⟩ (cb_tw (i := 940) (by decide +kernel)) (cb_tw (i := 941) (by decide +kernel)) ⟨by decide, by decide⟩ (idx := 177) (na := 4) (by decide +kernel) rfl (by decide) (by show k + 2 ≤ room_1.cells; omega) (by show n + 12 ≤ room_1.slots; omega) (by decide +kernel) lw_KHx (hl_ref (re_hang hR _ _) re_cN_0 rfl rfl) (fun v a1 M1 hK => ?_)
  match v, hK with
  | some (.inl c), hK =>
    obtain ⟨f1, rfl, K2, h2, hT⟩ := hK
    refine cb_run cb_tb_ok vr_hang (cuts := [972]) 20 ?_
    refine cl_arg E (ic := 1) (c := 1) rfl hv.2.1 (by decide +kernel) rfl rfl ?_
    refine cl_arg E (ic := 2) (c := 2) rfl hv.2.2.1 (by decide +kernel) rfl rfl ?_
    refine cl_call (As := cb_r 46 0 :: [cb_i (xs (iv + 1).toNatClampNeg), cb_i (xs (iv + 2).toNatClampNeg)]) (st := []) (cb_csV (idx := 179) (na := 3) B ok_X10_hang wd_X10_hang (cb_tw (i := 1705) (by decide +kernel)) (cb_tw (i := 1706) (by decide +kernel)) (cb_tw (i := 1707) (by decide +kernel)) rc_X10_hang ⟨by decide, by decide⟩ (by decide +kernel)) rfl (by decide) (by show k + 2 + 0 ≤ room_1.cells; omega) (by show n + 12 + 0 ≤ room_1.slots; omega) (by decide +kernel) (hl_m rfl rfl h2) (fun v a2 M2 hK => ?_) (fun _ _ _ h => h)
    obtain ⟨rfl, h3⟩ := hK
    obtain ⟨u, rfl, e0, hR2, hL⟩ := hT _ _ h3
    refine cb_run cb_tb_ok vr_hang (cuts := [990]) 20 ?_
    refine cl_call (As := [cb_r 46 0]) (st := []) (lw_thr B) rfl (by decide) (by show k + 2 + 0 + 0 ≤ room_1.cells; omega) (by show n + 12 + 0 + 0 ≤ room_1.slots; omega) (by decide +kernel) (hl_m (K2 := fun w M3 => w = some (cb_i (cb_gI M2 46 0 0)) ∧ M3 = M2) rfl rfl ⟨rfl, rfl⟩) (fun v a3 M3 hK => ?_) (fun _ _ _ h => h)
    obtain ⟨rfl, rfl, rfl⟩ := hK
    refine cb_run cb_tb_ok vr_hang (cuts := [2738]) 40 ?_
    have h9 := h f1 _ hR2
    have w1 : k + 2 + 0 + 0 ≤ k + 8 := by omega
    have w2 : n + 12 + 0 + 0 ≤ n + 3252 := by omega
    refine And.intro (fun q1 => And.intro (fun q2 => lw_back w1 w2 h9) (fun q2 => And.intro vp01 ?_)) (fun q1 => absurd e0 q1)
    have q2 : ¬ ¬ c = 0 := q2
    have hc : c = 0 := Classical.byContradiction q2
    have hL := hL hc
    exact And.intro (fun q4 => lw_back w1 w2 h9) (fun q4 => absurd (lw_lc hL) q4)
def lr_wall : List cb_O := [(293, .aload_n 1, 1, 0, 1, 0, 0),
  (300, .aload_n 3, 1, 0, 3, 0, 0),
  (304, .istore 5, 2, 0, 5, 0, 0),
  (306, .aload_n 2, 1, 0, 2, 0, 0),
  (316, .istore 6, 2, 0, 6, 0, 0),
  (318, .aload_n 2, 1, 0, 2, 0, 0),
  (322, .iload 5, 2, 0, 5, 0, 0),
  (324, .if_icmp .eq 5, 3, 0, 329, 0, 0),
  (327, .iconst 0, 1, 0, 0, 0, 0),
  (328, .ireturn, 1, 0, 0, 0, 0),
  (329, .iload 5, 2, 0, 5, 0, 0),
  (331, .ifCond .ne 15, 3, 0, 346, 0, 0),
  (334, .aload_n 3, 1, 0, 3, 0, 0),
  (335, .iconst 0, 1, 0, 0, 0, 0),
  (336, .laload, 1, 0, 0, 0, 0),
  (337, .iload 6, 2, 0, 6, 0, 0),
  (339, .i2l, 1, 0, 0, 0, 0),
  (340, .lcmp, 1, 0, 0, 0, 0),
  (341, .ifCond .eq 5, 3, 0, 346, 0, 0),
  (344, .iconst 0, 1, 0, 0, 0, 0),
  (345, .ireturn, 1, 0, 0, 0, 0),
  (346, .goto 2392, 3, 0, 2738, 0, 0)]
set_option maxRecDepth 100000 in
theorem vr_wall : (lw_D lr_wall []).cd.all (cb_vE (lw_D lr_wall [])) = true := by decide +kernel
theorem lc_wall {L : Nat} {xs : Nat → Int32} {X : cb_X} {iv : Int32} {m k n : Nat} {f : Option Nat} {M : cb_M} (E : lw_E L xs X) (hv : lw_iv iv L) (hR : re_R M m) (hk : k + 8 ≤ room_1.cells) (hn : n + 3252 ≤ room_1.slots) (h : ∀ f' M', re_R M' m → cb_Gd cb_tb lw_0 X 2738 (lw_l iv) [] (cb_aS m, f') M' (k + 8) (n + 3252)) : cb_Gd cb_tb lw_0 X 293 (lw_l iv) [] (cb_aS m, f) M k n := by
  refine cb_Gd.same (cd := lr_wall) (sw := []) (by decide) ?_
  have B := E.bs lr_wall []
  refine cb_run cb_tb_ok vr_wall (cuts := [294]) 20 ?_
  refine cl_arg E (ic := 1) (c := 1) rfl hv.2.1 (by decide +kernel) rfl rfl ?_
  refine cb_run cb_tb_ok vr_wall (cuts := [301]) 20 ?_
  refine cl_help (K := lw_KH false sp_X10_wall [cb_i (xs (iv + 1).toNatClampNeg)] m) (As := cb_r 0 0 :: ([cb_i (xs (iv + 1).toNatClampNeg)] ++ [cb_r 90 0])) (st := []) ok_L_wall E.2.1 E.2.2.1 (cb_tw (i := 542) (by decide +kernel)) (by decide +kernel) (cb_tw (i := 0) (by decide +kernel)) ⟨by decide, by decide⟩ (cb_tw (i := 540) (by decide +kernel)) (cb_tw (i := 541) (by decide +kernel)) ⟨by decide, by decide⟩ (idx := 127) (na := 3) (by decide +kernel) rfl (by decide) (by show k + 1 ≤ room_1.cells; omega) (by show n + 6 ≤ room_1.slots; omega) (by decide +kernel) lw_KHx (hl_ref (re_wall hR _) re_cI_0 rfl rfl) (fun v a1 M1 hK => ?_)
  match v, hK with
  | some (.inl c), hK =>
    obtain ⟨f1, rfl, K2, h2, hT⟩ := hK
    refine cb_run cb_tb_ok vr_wall (cuts := [307]) 20 ?_
    refine cl_arg E (ic := 1) (c := 1) rfl hv.2.1 (by decide +kernel) rfl rfl ?_
    refine cl_call (As := cb_r 46 0 :: [cb_i (xs (iv + 1).toNatClampNeg)]) (st := []) (cb_csV (idx := 132) (na := 2) B ok_X10_wall wd_X10_wall (cb_tw (i := 1500) (by decide +kernel)) (cb_tw (i := 1501) (by decide +kernel)) (cb_tw (i := 1502) (by decide +kernel)) rc_X10_wall ⟨by decide, by decide⟩ (by decide +kernel)) rfl (by decide) (by show k + 1 + 0 ≤ room_1.cells; omega) (by show n + 6 + 0 ≤ room_1.slots; omega) (by decide +kernel) (hl_m rfl rfl h2) (fun v a2 M2 hK => ?_) (fun _ _ _ h => h)
    obtain ⟨rfl, h3⟩ := hK
    obtain ⟨u, rfl, e0, hR2, hL⟩ := hT _ _ h3
    refine cb_run cb_tb_ok vr_wall (cuts := [319]) 20 ?_
    refine cl_call (As := [cb_r 46 0]) (st := []) (lw_thr B) rfl (by decide) (by show k + 1 + 0 + 0 ≤ room_1.cells; omega) (by show n + 6 + 0 + 0 ≤ room_1.slots; omega) (by decide +kernel) (hl_m (K2 := fun w M3 => w = some (cb_i (cb_gI M2 46 0 0)) ∧ M3 = M2) rfl rfl ⟨rfl, rfl⟩) (fun v a3 M3 hK => ?_) (fun _ _ _ h => h)
    obtain ⟨rfl, rfl, rfl⟩ := hK
    refine cb_run cb_tb_ok vr_wall (cuts := [2738]) 40 ?_
    have h9 := h f1 _ hR2
    have w1 : k + 1 + 0 + 0 ≤ k + 8 := by omega
    have w2 : n + 6 + 0 + 0 ≤ n + 3252 := by omega
    refine And.intro (fun q1 => And.intro (fun q2 => lw_back w1 w2 h9) (fun q2 => And.intro vp01 ?_)) (fun q1 => absurd e0 q1)
    have q2 : ¬ ¬ c = 0 := q2
    have hc : c = 0 := Classical.byContradiction q2
    have hL := hL hc
    exact And.intro (fun q4 => lw_back w1 w2 h9) (fun q4 => absurd (lw_lc hL) q4)
def lr_told : List cb_O := [(362, .aload_n 1, 1, 0, 1, 0, 0),
  (369, .aload_n 3, 1, 0, 3, 0, 0),
  (373, .istore 5, 2, 0, 5, 0, 0),
  (375, .aload_n 2, 1, 0, 2, 0, 0),
  (385, .istore 6, 2, 0, 6, 0, 0),
  (387, .aload_n 2, 1, 0, 2, 0, 0),
  (391, .iload 5, 2, 0, 5, 0, 0),
  (393, .if_icmp .eq 5, 3, 0, 398, 0, 0),
  (396, .iconst 0, 1, 0, 0, 0, 0),
  (397, .ireturn, 1, 0, 0, 0, 0),
  (398, .iload 5, 2, 0, 5, 0, 0),
  (400, .ifCond .ne 15, 3, 0, 415, 0, 0),
  (403, .aload_n 3, 1, 0, 3, 0, 0),
  (404, .iconst 0, 1, 0, 0, 0, 0),
  (405, .laload, 1, 0, 0, 0, 0),
  (406, .iload 6, 2, 0, 6, 0, 0),
  (408, .i2l, 1, 0, 0, 0, 0),
  (409, .lcmp, 1, 0, 0, 0, 0),
  (410, .ifCond .eq 5, 3, 0, 415, 0, 0),
  (413, .iconst 0, 1, 0, 0, 0, 0),
  (414, .ireturn, 1, 0, 0, 0, 0),
  (415, .goto 2323, 3, 0, 2738, 0, 0)]
set_option maxRecDepth 100000 in
theorem vr_told : (lw_D lr_told []).cd.all (cb_vE (lw_D lr_told [])) = true := by decide +kernel
theorem lc_told {L : Nat} {xs : Nat → Int32} {X : cb_X} {iv : Int32} {m k n : Nat} {f : Option Nat} {M : cb_M} (E : lw_E L xs X) (hv : lw_iv iv L) (hR : re_R M m) (hk : k + 8 ≤ room_1.cells) (hn : n + 3252 ≤ room_1.slots) (h : ∀ f' M', re_R M' m → cb_Gd cb_tb lw_0 X 2738 (lw_l iv) [] (cb_aS m, f') M' (k + 8) (n + 3252)) : cb_Gd cb_tb lw_0 X 362 (lw_l iv) [] (cb_aS m, f) M k n := by
  refine cb_Gd.same (cd := lr_told) (sw := []) (by decide) ?_
  have B := E.bs lr_told []
  refine cb_run cb_tb_ok vr_told (cuts := [363]) 20 ?_
  refine cl_arg E (ic := 1) (c := 1) rfl hv.2.1 (by decide +kernel) rfl rfl ?_
  refine cb_run cb_tb_ok vr_told (cuts := [370]) 20 ?_
  refine cl_help (K := lw_KH false sp_X10_told [cb_i (xs (iv + 1).toNatClampNeg)] m) (As := cb_r 0 0 :: ([cb_i (xs (iv + 1).toNatClampNeg)] ++ [cb_r 90 0])) (st := []) ok_L_told E.2.1 E.2.2.1 (cb_tw (i := 772) (by decide +kernel)) (by decide +kernel) (cb_tw (i := 0) (by decide +kernel)) ⟨by decide, by decide⟩ (cb_tw (i := 770) (by decide +kernel)) (cb_tw (i := 771) (by decide +kernel)) ⟨by decide, by decide⟩ (idx := 141) (na := 3) (by decide +kernel) rfl (by decide) (by show k + 1 ≤ room_1.cells; omega) (by show n + 6 ≤ room_1.slots; omega) (by decide +kernel) lw_KHx (hl_ref (re_told hR _) re_cI_0 rfl rfl) (fun v a1 M1 hK => ?_)
  match v, hK with
  | some (.inl c), hK =>
    obtain ⟨f1, rfl, K2, h2, hT⟩ := hK
    refine cb_run cb_tb_ok vr_told (cuts := [376]) 20 ?_
    refine cl_arg E (ic := 1) (c := 1) rfl hv.2.1 (by decide +kernel) rfl rfl ?_
    refine cl_call (As := cb_r 46 0 :: [cb_i (xs (iv + 1).toNatClampNeg)]) (st := []) (cb_csV (idx := 143) (na := 2) B ok_X10_told wd_X10_told (cb_tw (i := 1573) (by decide +kernel)) (cb_tw (i := 1574) (by decide +kernel)) (cb_tw (i := 1575) (by decide +kernel)) rc_X10_told ⟨by decide, by decide⟩ (by decide +kernel)) rfl (by decide) (by show k + 1 + 0 ≤ room_1.cells; omega) (by show n + 6 + 0 ≤ room_1.slots; omega) (by decide +kernel) (hl_m rfl rfl h2) (fun v a2 M2 hK => ?_) (fun _ _ _ h => h)
    obtain ⟨rfl, h3⟩ := hK
    obtain ⟨u, rfl, e0, hR2, hL⟩ := hT _ _ h3
    refine cb_run cb_tb_ok vr_told (cuts := [388]) 20 ?_
    refine cl_call (As := [cb_r 46 0]) (st := []) (lw_thr B) rfl (by decide) (by show k + 1 + 0 + 0 ≤ room_1.cells; omega) (by show n + 6 + 0 + 0 ≤ room_1.slots; omega) (by decide +kernel) (hl_m (K2 := fun w M3 => w = some (cb_i (cb_gI M2 46 0 0)) ∧ M3 = M2) rfl rfl ⟨rfl, rfl⟩) (fun v a3 M3 hK => ?_) (fun _ _ _ h => h)
    obtain ⟨rfl, rfl, rfl⟩ := hK
    refine cb_run cb_tb_ok vr_told (cuts := [2738]) 40 ?_
    have h9 := h f1 _ hR2
    have w1 : k + 1 + 0 + 0 ≤ k + 8 := by omega
    have w2 : n + 6 + 0 + 0 ≤ n + 3252 := by omega
    refine And.intro (fun q1 => And.intro (fun q2 => lw_back w1 w2 h9) (fun q2 => And.intro vp01 ?_)) (fun q1 => absurd e0 q1)
    have q2 : ¬ ¬ c = 0 := q2
    have hc : c = 0 := Classical.byContradiction q2
    have hL := hL hc
    exact And.intro (fun q4 => lw_back w1 w2 h9) (fun q4 => absurd (lw_lc hL) q4)
def lr_days : List cb_O := [(678, .aload_n 1, 1, 0, 1, 0, 0),
  (685, .aload_n 3, 1, 0, 3, 0, 0),
  (689, .istore 5, 2, 0, 5, 0, 0),
  (691, .aload_n 2, 1, 0, 2, 0, 0),
  (701, .istore 6, 2, 0, 6, 0, 0),
  (703, .aload_n 2, 1, 0, 2, 0, 0),
  (707, .iload 5, 2, 0, 5, 0, 0),
  (709, .if_icmp .eq 5, 3, 0, 714, 0, 0),
  (712, .iconst 0, 1, 0, 0, 0, 0),
  (713, .ireturn, 1, 0, 0, 0, 0),
  (714, .iload 5, 2, 0, 5, 0, 0),
  (716, .ifCond .ne 15, 3, 0, 731, 0, 0),
  (719, .aload_n 3, 1, 0, 3, 0, 0),
  (720, .iconst 0, 1, 0, 0, 0, 0),
  (721, .laload, 1, 0, 0, 0, 0),
  (722, .iload 6, 2, 0, 6, 0, 0),
  (724, .i2l, 1, 0, 0, 0, 0),
  (725, .lcmp, 1, 0, 0, 0, 0),
  (726, .ifCond .eq 5, 3, 0, 731, 0, 0),
  (729, .iconst 0, 1, 0, 0, 0, 0),
  (730, .ireturn, 1, 0, 0, 0, 0),
  (731, .goto 2007, 3, 0, 2738, 0, 0)]
set_option maxRecDepth 100000 in
theorem vr_days : (lw_D lr_days []).cd.all (cb_vE (lw_D lr_days [])) = true := by decide +kernel
theorem lc_days {L : Nat} {xs : Nat → Int32} {X : cb_X} {iv : Int32} {m k n : Nat} {f : Option Nat} {M : cb_M} (E : lw_E L xs X) (hv : lw_iv iv L) (hR : re_R M m) (hk : k + 8 ≤ room_1.cells) (hn : n + 3252 ≤ room_1.slots) (h : ∀ f' M', re_R M' m → cb_Gd cb_tb lw_0 X 2738 (lw_l iv) [] (cb_aS m, f') M' (k + 8) (n + 3252)) : cb_Gd cb_tb lw_0 X 678 (lw_l iv) [] (cb_aS m, f) M k n := by
  refine cb_Gd.same (cd := lr_days) (sw := []) (by decide) ?_
  have B := E.bs lr_days []
  refine cb_run cb_tb_ok vr_days (cuts := [679]) 20 ?_
  refine cl_arg E (ic := 1) (c := 1) rfl hv.2.1 (by decide +kernel) rfl rfl ?_
  refine cb_run cb_tb_ok vr_days (cuts := [686]) 20 ?_
  refine cl_help (K := lw_KH false sp_X10_days [cb_i (xs (iv + 1).toNatClampNeg)] m) (As := cb_r 0 0 :: ([cb_i (xs (iv + 1).toNatClampNeg)] ++ [cb_r 90 0])) (st := []) ok_L_days E.2.1 E.2.2.1 (cb_tw (i := 881) (by decide +kernel)) (by decide +kernel) (cb_tw (i := 0) (by decide +kernel)) ⟨by decide, by decide⟩ (cb_tw (i := 879) (by decide +kernel)) (cb_tw (i := 880) (by decide +kernel)) ⟨by decide, by decide⟩ (idx := 157) (na := 3) (by decide +kernel) rfl (by decide) (by show k + 1 ≤ room_1.cells; omega) (by show n + 6 ≤ room_1.slots; omega) (by decide +kernel) lw_KHx (hl_ref (re_days hR _) re_cI_0 rfl rfl) (fun v a1 M1 hK => ?_)
  match v, hK with
  | some (.inl c), hK =>
    obtain ⟨f1, rfl, K2, h2, hT⟩ := hK
    refine cb_run cb_tb_ok vr_days (cuts := [692]) 20 ?_
    refine cl_arg E (ic := 1) (c := 1) rfl hv.2.1 (by decide +kernel) rfl rfl ?_
    refine cl_call (As := cb_r 46 0 :: [cb_i (xs (iv + 1).toNatClampNeg)]) (st := []) (cb_csV (idx := 159) (na := 2) B ok_X10_days wd_X10_days (cb_tw (i := 1638) (by decide +kernel)) (cb_tw (i := 1639) (by decide +kernel)) (cb_tw (i := 1640) (by decide +kernel)) rc_X10_days ⟨by decide, by decide⟩ (by decide +kernel)) rfl (by decide) (by show k + 1 + 0 ≤ room_1.cells; omega) (by show n + 6 + 0 ≤ room_1.slots; omega) (by decide +kernel) (hl_m rfl rfl h2) (fun v a2 M2 hK => ?_) (fun _ _ _ h => h)
    obtain ⟨rfl, h3⟩ := hK
    obtain ⟨u, rfl, e0, hR2, hL⟩ := hT _ _ h3
    refine cb_run cb_tb_ok vr_days (cuts := [704]) 20 ?_
    refine cl_call (As := [cb_r 46 0]) (st := []) (lw_thr B) rfl (by decide) (by show k + 1 + 0 + 0 ≤ room_1.cells; omega) (by show n + 6 + 0 + 0 ≤ room_1.slots; omega) (by decide +kernel) (hl_m (K2 := fun w M3 => w = some (cb_i (cb_gI M2 46 0 0)) ∧ M3 = M2) rfl rfl ⟨rfl, rfl⟩) (fun v a3 M3 hK => ?_) (fun _ _ _ h => h)
    obtain ⟨rfl, rfl, rfl⟩ := hK
    refine cb_run cb_tb_ok vr_days (cuts := [2738]) 40 ?_
    have h9 := h f1 _ hR2
    have w1 : k + 1 + 0 + 0 ≤ k + 8 := by omega
    have w2 : n + 6 + 0 + 0 ≤ n + 3252 := by omega
    refine And.intro (fun q1 => And.intro (fun q2 => lw_back w1 w2 h9) (fun q2 => And.intro vp01 ?_)) (fun q1 => absurd e0 q1)
    have q2 : ¬ ¬ c = 0 := q2
    have hc : c = 0 := Classical.byContradiction q2
    have hL := hL hc
    exact And.intro (fun q4 => lw_back w1 w2 h9) (fun q4 => absurd (lw_lc hL) q4)
def lr_undo : List cb_O := [(734, .aload_n 1, 1, 0, 1, 0, 0),
  (741, .aload_n 3, 1, 0, 3, 0, 0),
  (745, .istore 5, 2, 0, 5, 0, 0),
  (747, .aload_n 2, 1, 0, 2, 0, 0),
  (757, .istore 6, 2, 0, 6, 0, 0),
  (759, .aload_n 2, 1, 0, 2, 0, 0),
  (763, .iload 5, 2, 0, 5, 0, 0),
  (765, .if_icmp .eq 5, 3, 0, 770, 0, 0),
  (768, .iconst 0, 1, 0, 0, 0, 0),
  (769, .ireturn, 1, 0, 0, 0, 0),
  (770, .iload 5, 2, 0, 5, 0, 0),
  (772, .ifCond .ne 15, 3, 0, 787, 0, 0),
  (775, .aload_n 3, 1, 0, 3, 0, 0),
  (776, .iconst 0, 1, 0, 0, 0, 0),
  (777, .laload, 1, 0, 0, 0, 0),
  (778, .iload 6, 2, 0, 6, 0, 0),
  (780, .i2l, 1, 0, 0, 0, 0),
  (781, .lcmp, 1, 0, 0, 0, 0),
  (782, .ifCond .eq 5, 3, 0, 787, 0, 0),
  (785, .iconst 0, 1, 0, 0, 0, 0),
  (786, .ireturn, 1, 0, 0, 0, 0),
  (787, .goto 1951, 3, 0, 2738, 0, 0)]
set_option maxRecDepth 100000 in
theorem vr_undo : (lw_D lr_undo []).cd.all (cb_vE (lw_D lr_undo [])) = true := by decide +kernel
theorem lc_undo {L : Nat} {xs : Nat → Int32} {X : cb_X} {iv : Int32} {m k n : Nat} {f : Option Nat} {M : cb_M} (E : lw_E L xs X) (hv : lw_iv iv L) (hR : re_R M m) (hk : k + 8 ≤ room_1.cells) (hn : n + 3252 ≤ room_1.slots) (h : ∀ f' M', re_R M' m → cb_Gd cb_tb lw_0 X 2738 (lw_l iv) [] (cb_aS m, f') M' (k + 8) (n + 3252)) : cb_Gd cb_tb lw_0 X 734 (lw_l iv) [] (cb_aS m, f) M k n := by
  refine cb_Gd.same (cd := lr_undo) (sw := []) (by decide) ?_
  have B := E.bs lr_undo []
  refine cb_run cb_tb_ok vr_undo (cuts := [735]) 20 ?_
  refine cl_arg E (ic := 1) (c := 1) rfl hv.2.1 (by decide +kernel) rfl rfl ?_
  refine cb_run cb_tb_ok vr_undo (cuts := [742]) 20 ?_
  refine cl_help (K := lw_KH false sp_X10_undo [cb_i (xs (iv + 1).toNatClampNeg)] m) (As := cb_r 0 0 :: ([cb_i (xs (iv + 1).toNatClampNeg)] ++ [cb_r 90 0])) (st := []) ok_L_undo E.2.1 E.2.2.1 (cb_tw (i := 914) (by decide +kernel)) (by decide +kernel) (cb_tw (i := 0) (by decide +kernel)) ⟨by decide, by decide⟩ (cb_tw (i := 912) (by decide +kernel)) (cb_tw (i := 913) (by decide +kernel)) ⟨by decide, by decide⟩ (idx := 160) (na := 3) (by decide +kernel) rfl (by decide) (by show k + 1 ≤ room_1.cells; omega) (by show n + 6 ≤ room_1.slots; omega) (by decide +kernel) lw_KHx (hl_ref (re_undo hR _) re_cI_0 rfl rfl) (fun v a1 M1 hK => ?_)
  match v, hK with
  | some (.inl c), hK =>
    obtain ⟨f1, rfl, K2, h2, hT⟩ := hK
    refine cb_run cb_tb_ok vr_undo (cuts := [748]) 20 ?_
    refine cl_arg E (ic := 1) (c := 1) rfl hv.2.1 (by decide +kernel) rfl rfl ?_
    refine cl_call (As := cb_r 46 0 :: [cb_i (xs (iv + 1).toNatClampNeg)]) (st := []) (cb_csV (idx := 162) (na := 2) B ok_X10_undo wd_X10_undo (cb_tw (i := 1659) (by decide +kernel)) (cb_tw (i := 1660) (by decide +kernel)) (cb_tw (i := 1661) (by decide +kernel)) rc_X10_undo ⟨by decide, by decide⟩ (by decide +kernel)) rfl (by decide) (by show k + 1 + 0 ≤ room_1.cells; omega) (by show n + 6 + 0 ≤ room_1.slots; omega) (by decide +kernel) (hl_m rfl rfl h2) (fun v a2 M2 hK => ?_) (fun _ _ _ h => h)
    obtain ⟨rfl, h3⟩ := hK
    obtain ⟨u, rfl, e0, hR2, hL⟩ := hT _ _ h3
    refine cb_run cb_tb_ok vr_undo (cuts := [760]) 20 ?_
    refine cl_call (As := [cb_r 46 0]) (st := []) (lw_thr B) rfl (by decide) (by show k + 1 + 0 + 0 ≤ room_1.cells; omega) (by show n + 6 + 0 + 0 ≤ room_1.slots; omega) (by decide +kernel) (hl_m (K2 := fun w M3 => w = some (cb_i (cb_gI M2 46 0 0)) ∧ M3 = M2) rfl rfl ⟨rfl, rfl⟩) (fun v a3 M3 hK => ?_) (fun _ _ _ h => h)
    obtain ⟨rfl, rfl, rfl⟩ := hK
    refine cb_run cb_tb_ok vr_undo (cuts := [2738]) 40 ?_
    have h9 := h f1 _ hR2
    have w1 : k + 1 + 0 + 0 ≤ k + 8 := by omega
    have w2 : n + 6 + 0 + 0 ≤ n + 3252 := by omega
    refine And.intro (fun q1 => And.intro (fun q2 => lw_back w1 w2 h9) (fun q2 => And.intro vp01 ?_)) (fun q1 => absurd e0 q1)
    have q2 : ¬ ¬ c = 0 := q2
    have hc : c = 0 := Classical.byContradiction q2
    have hL := hL hc
    exact And.intro (fun q4 => lw_back w1 w2 h9) (fun q4 => absurd (lw_lc hL) q4)
def lr_standing : List cb_O := [(1088, .aload_n 1, 1, 0, 1, 0, 0),
  (1095, .aload_n 3, 1, 0, 3, 0, 0),
  (1099, .istore 5, 2, 0, 5, 0, 0),
  (1101, .aload_n 2, 1, 0, 2, 0, 0),
  (1111, .istore 6, 2, 0, 6, 0, 0),
  (1113, .aload_n 2, 1, 0, 2, 0, 0),
  (1117, .iload 5, 2, 0, 5, 0, 0),
  (1119, .if_icmp .eq 5, 3, 0, 1124, 0, 0),
  (1122, .iconst 0, 1, 0, 0, 0, 0),
  (1123, .ireturn, 1, 0, 0, 0, 0),
  (1124, .iload 5, 2, 0, 5, 0, 0),
  (1126, .ifCond .ne 22, 3, 0, 1148, 0, 0),
  (1129, .aload_n 3, 1, 0, 3, 0, 0),
  (1130, .iconst 0, 1, 0, 0, 0, 0),
  (1131, .laload, 1, 0, 0, 0, 0),
  (1132, .iload 6, 2, 0, 6, 0, 0),
  (1134, .ifCond .eq 7, 3, 0, 1141, 0, 0),
  (1137, .lconst 1, 1, 0, 0, 0, 0),
  (1138, .goto 4, 3, 0, 1142, 0, 0),
  (1141, .lconst 0, 1, 0, 0, 0, 0),
  (1142, .lcmp, 1, 0, 0, 0, 0),
  (1143, .ifCond .eq 5, 3, 0, 1148, 0, 0),
  (1146, .iconst 0, 1, 0, 0, 0, 0),
  (1147, .ireturn, 1, 0, 0, 0, 0),
  (1148, .goto 1590, 3, 0, 2738, 0, 0)]
set_option maxRecDepth 100000 in
theorem vr_standing : (lw_D lr_standing []).cd.all (cb_vE (lw_D lr_standing [])) = true := by decide +kernel
theorem lc_standing {L : Nat} {xs : Nat → Int32} {X : cb_X} {iv : Int32} {m k n : Nat} {f : Option Nat} {M : cb_M} (E : lw_E L xs X) (hv : lw_iv iv L) (hR : re_R M m) (hk : k + 8 ≤ room_1.cells) (hn : n + 3252 ≤ room_1.slots) (h : ∀ f' M', re_R M' m → cb_Gd cb_tb lw_0 X 2738 (lw_l iv) [] (cb_aS m, f') M' (k + 8) (n + 3252)) : cb_Gd cb_tb lw_0 X 1088 (lw_l iv) [] (cb_aS m, f) M k n := by
  refine cb_Gd.same (cd := lr_standing) (sw := []) (by decide) ?_
  have B := E.bs lr_standing []
  refine cb_run cb_tb_ok vr_standing (cuts := [1089]) 20 ?_
  refine cl_arg E (ic := 1) (c := 1) rfl hv.2.1 (by decide +kernel) rfl rfl ?_
  refine cb_run cb_tb_ok vr_standing (cuts := [1096]) 20 ?_
  refine cl_help (K := lw_KH true sp_X10_standing [cb_i (xs (iv + 1).toNatClampNeg)] m) (As := cb_r 0 0 :: ([cb_i (xs (iv + 1).toNatClampNeg)] ++ [cb_r 90 0])) (st := []) ok_L_standing E.2.1 E.2.2.1 (cb_tw (i := 965) (by decide +kernel)) (by decide +kernel) (cb_tw (i := 0) (by decide +kernel)) ⟨by decide, by decide⟩ (cb_tw (i := 963) (by decide +kernel)) (cb_tw (i := 964) (by decide +kernel)) ⟨by decide, by decide⟩ (idx := 183) (na := 3) (by decide +kernel) rfl (by decide) (by show k + 1 ≤ room_1.cells; omega) (by show n + 6 ≤ room_1.slots; omega) (by decide +kernel) lw_KHx (hl_ref (re_standing hR _) re_cI_0 rfl rfl) (fun v a1 M1 hK => ?_)
  match v, hK with
  | some (.inl c), hK =>
    obtain ⟨f1, rfl, K2, h2, hT⟩ := hK
    refine cb_run cb_tb_ok vr_standing (cuts := [1102]) 20 ?_
    refine cl_arg E (ic := 1) (c := 1) rfl hv.2.1 (by decide +kernel) rfl rfl ?_
    refine cl_call (As := cb_r 46 0 :: [cb_i (xs (iv + 1).toNatClampNeg)]) (st := []) (cb_csV (idx := 185) (na := 2) B ok_X10_standing wd_X10_standing (cb_tw (i := 1721) (by decide +kernel)) (cb_tw (i := 1722) (by decide +kernel)) (cb_tw (i := 1723) (by decide +kernel)) rc_X10_standing ⟨by decide, by decide⟩ (by decide +kernel)) rfl (by decide) (by show k + 1 + 0 ≤ room_1.cells; omega) (by show n + 6 + 0 ≤ room_1.slots; omega) (by decide +kernel) (hl_m rfl rfl h2) (fun v a2 M2 hK => ?_) (fun _ _ _ h => h)
    obtain ⟨rfl, h3⟩ := hK
    obtain ⟨u, rfl, e0, hR2, hL⟩ := hT _ _ h3
    refine cb_run cb_tb_ok vr_standing (cuts := [1114]) 20 ?_
    refine cl_call (As := [cb_r 46 0]) (st := []) (lw_thr B) rfl (by decide) (by show k + 1 + 0 + 0 ≤ room_1.cells; omega) (by show n + 6 + 0 + 0 ≤ room_1.slots; omega) (by decide +kernel) (hl_m (K2 := fun w M3 => w = some (cb_i (cb_gI M2 46 0 0)) ∧ M3 = M2) rfl rfl ⟨rfl, rfl⟩) (fun v a3 M3 hK => ?_) (fun _ _ _ h => h)
    obtain ⟨rfl, rfl, rfl⟩ := hK
    refine cb_run cb_tb_ok vr_standing (cuts := [2738]) 40 ?_
    have h9 := h f1 _ hR2
    have w1 : k + 1 + 0 + 0 ≤ k + 8 := by omega
    have w2 : n + 6 + 0 + 0 ≤ n + 3252 := by omega
    refine And.intro (fun q1 => And.intro (fun q2 => lw_back w1 w2 h9) (fun q2 => And.intro vp01 ?_)) (fun q1 => absurd e0 q1)
    have q2 : ¬ ¬ c = 0 := q2
    have hc : c = 0 := Classical.byContradiction q2
    have hL := hL hc
    refine And.intro (fun q3 => And.intro (fun q4 => lw_back w1 w2 h9) (fun q4 => absurd (lw_lc (hL.trans (if_pos q3))) q4)) (fun q3 => And.intro (fun q4 => lw_back w1 w2 h9) (fun q4 => absurd (lw_lc (hL.trans (if_neg q3))) q4))
