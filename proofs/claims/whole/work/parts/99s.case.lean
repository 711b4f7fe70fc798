/-! ===== the law's cases: stays, drawn, comes, wanted, sale, winter, winters ===== -/
def lr_stays : List cb_O := [(1898, .aload_n 1, 1, 0, 1, 0, 0),
  (1917, .aload_n 3, 1, 0, 3, 0, 0),
  (1921, .istore 5, 2, 0, 5, 0, 0),
  (1923, .aload_n 2, 1, 0, 2, 0, 0),
  (1945, .istore 6, 2, 0, 6, 0, 0),
  (1947, .aload_n 2, 1, 0, 2, 0, 0),
  (1951, .iload 5, 2, 0, 5, 0, 0),
  (1953, .if_icmp .eq 5, 3, 0, 1958, 0, 0),
  (1956, .iconst 0, 1, 0, 0, 0, 0),
  (1957, .ireturn, 1, 0, 0, 0, 0),
  (1958, .iload 5, 2, 0, 5, 0, 0),
  (1960, .ifCond .ne 15, 3, 0, 1975, 0, 0),
  (1963, .aload_n 3, 1, 0, 3, 0, 0),
  (1964, .iconst 0, 1, 0, 0, 0, 0),
  (1965, .laload, 1, 0, 0, 0, 0),
  (1966, .iload 6, 2, 0, 6, 0, 0),
  (1968, .i2l, 1, 0, 0, 0, 0),
  (1969, .lcmp, 1, 0, 0, 0, 0),
  (1970, .ifCond .eq 5, 3, 0, 1975, 0, 0),
  (1973, .iconst 0, 1, 0, 0, 0, 0),
  (1974, .ireturn, 1, 0, 0, 0, 0),
  (1975, .goto 763, 3, 0, 2738, 0, 0)]
set_option maxRecDepth 100000 in
theorem vr_stays : (lw_D lr_stays []).cd.all (cb_vE (lw_D lr_stays [])) = true := by decide +kernel
theorem lc_stays {L : Nat} {xs : Nat → Int32} {X : cb_X} {iv : Int32} {m k n : Nat} {f : Option Nat} {M : cb_M} (E : lw_E L xs X) (hv : lw_iv iv L) (hR : re_R M m) (hk : k + 8 ≤ room_1.cells) (hn : n + 3252 ≤ room_1.slots) (h : ∀ f' M', re_R M' m → cb_Gd cb_tb lw_0 X 2738 (lw_l iv) [] (cb_aS m, f') M' (k + 8) (n + 3252)) : cb_Gd cb_tb lw_0 X 1898 (lw_l iv) [] (cb_aS m, f) M k n := by
  refine cb_Gd.same (cd := lr_stays) (sw := []) (by decide) ?_
  have B := E.bs lr_stays []
  refine cb_run cb_tb_ok vr_stays (cuts := [1899]) 20 ?_
  refine cl_arg E (ic := 1) (c := 1) rfl hv.2.1 (by decide +kernel) rfl rfl ?_
  refine cl_arg E (ic := 2) (c := 2) rfl hv.2.2.1 (by decide +kernel) rfl rfl ?_
  refine cl_arg E (ic := 3) (c := 3) rfl hv.2.2.2.1 (by decide +kernel) rfl rfl ?_
  refine cb_run cb_tb_ok vr_stays (cuts := [1918]) 20 ?_
  refine cl_help (K := lw_KH false sp_X10_stays [cb_i (xs (iv + 1).toNatClampNeg), cb_i (xs (iv + 2).toNatClampNeg), cb_i (xs (iv + 3).toNatClampNeg)] m) (As := cb_r 0 0 :: ([cb_i (xs (iv + 1).toNatClampNeg), cb_i (xs (iv + 2).toNatClampNeg), cb_i (xs (iv + 3).toNatClampNeg)] ++ [cb_r 90 0])) (st := []) ok_L_stays E.2.1 E.2.2.1 (cb_tw (i := 1186) (by decide +kernel)) (by decide +kernel) (cb_tw (i := 0) (by decide +kernel)) ⟨by decide, by decide⟩ (cb_tw (i := 1184) (by decide +kernel)) (cb_tw (i := 1185) (by decide +kernel)) ⟨by decide, by decide⟩ (idx := 219) (na := 5) (by decide +kernel) rfl (by decide) (by show k + 4 ≤ room_1.cells; omega) (by show n + 24 ≤ room_1.slots; omega) (by decide +kernel) lw_KHx (hl_ref (re_stays hR _ _ _) re_c2_0 rfl rfl) (fun v a1 M1 hK => ?_)
  match v, hK with
  | some (.inl c), hK =>
    obtain ⟨f1, rfl, K2, h2, hT⟩ := hK
    refine cb_run cb_tb_ok vr_stays (cuts := [1924]) 20 ?_
    refine cl_arg E (ic := 1) (c := 1) rfl hv.2.1 (by decide +kernel) rfl rfl ?_
    refine cl_arg E (ic := 2) (c := 2) rfl hv.2.2.1 (by decide +kernel) rfl rfl ?_
    refine cl_arg E (ic := 3) (c := 3) rfl hv.2.2.2.1 (by decide +kernel) rfl rfl ?_
    refine cl_call (As := cb_r 46 0 :: [cb_i (xs (iv + 1).toNatClampNeg), cb_i (xs (iv + 2).toNatClampNeg), cb_i (xs (iv + 3).toNatClampNeg)]) (st := []) (cb_csV (idx := 221) (na := 4) B ok_X10_stays wd_X10_stays (cb_tw (i := 1828) (by decide +kernel)) (cb_tw (i := 1829) (by decide +kernel)) (cb_tw (i := 1830) (by decide +kernel)) rc_X10_stays ⟨by decide, by decide⟩ (by decide +kernel)) rfl (by decide) (by show k + 4 + 0 ≤ room_1.cells; omega) (by show n + 24 + 0 ≤ room_1.slots; omega) (by decide +kernel) (hl_m rfl rfl h2) (fun v a2 M2 hK => ?_) (fun _ _ _ h => h)
    obtain ⟨rfl, h3⟩ := hK
    obtain ⟨u, rfl, e0, hR2, hL⟩ := hT _ _ h3
    refine cb_run cb_tb_ok vr_stays (cuts := [1948]) 20 ?_
    refine cl_call (As := [cb_r 46 0]) (st := []) (lw_thr B) rfl (by decide) (by show k + 4 + 0 + 0 ≤ room_1.cells; omega) (by show n + 24 + 0 + 0 ≤ room_1.slots; omega) (by decide +kernel) (hl_m (K2 := fun w M3 => w = some (cb_i (cb_gI M2 46 0 0)) ∧ M3 = M2) rfl rfl ⟨rfl, rfl⟩) (fun v a3 M3 hK => ?_) (fun _ _ _ h => h)
    obtain ⟨rfl, rfl, rfl⟩ := hK
    refine cb_run cb_tb_ok vr_stays (cuts := [2738]) 40 ?_
    have h9 := h f1 _ hR2
    have w1 : k + 4 + 0 + 0 ≤ k + 8 := by omega
    have w2 : n + 24 + 0 + 0 ≤ n + 3252 := by omega
    refine And.intro (fun q1 => And.intro (fun q2 => lw_back w1 w2 h9) (fun q2 => And.intro vp01 ?_)) (fun q1 => absurd e0 q1)
    have q2 : ¬ ¬ c = 0 := q2
    have hc : c = 0 := Classical.byContradiction q2
    have hL := hL hc
    exact And.intro (fun q4 => lw_back w1 w2 h9) (fun q4 => absurd (lw_lc hL) q4)
def lr_drawn : List cb_O := [(1978, .aload_n 1, 1, 0, 1, 0, 0),
  (2003, .aload_n 3, 1, 0, 3, 0, 0),
  (2007, .istore 5, 2, 0, 5, 0, 0),
  (2009, .aload_n 2, 1, 0, 2, 0, 0),
  (2037, .istore 6, 2, 0, 6, 0, 0),
  (2039, .aload_n 2, 1, 0, 2, 0, 0),
  (2043, .iload 5, 2, 0, 5, 0, 0),
  (2045, .if_icmp .eq 5, 3, 0, 2050, 0, 0),
  (2048, .iconst 0, 1, 0, 0, 0, 0),
  (2049, .ireturn, 1, 0, 0, 0, 0),
  (2050, .iload 5, 2, 0, 5, 0, 0),
  (2052, .ifCond .ne 15, 3, 0, 2067, 0, 0),
  (2055, .aload_n 3, 1, 0, 3, 0, 0),
  (2056, .iconst 0, 1, 0, 0, 0, 0),
  (2057, .laload, 1, 0, 0, 0, 0),
  (2058, .iload 6, 2, 0, 6, 0, 0),
  (2060, .i2l, 1, 0, 0, 0, 0),
  (2061, .lcmp, 1, 0, 0, 0, 0),
  (2062, .ifCond .eq 5, 3, 0, 2067, 0, 0),
  (2065, .iconst 0, 1, 0, 0, 0, 0),
  (2066, .ireturn, 1, 0, 0, 0, 0),
  (2067, .goto 671, 3, 0, 2738, 0, 0)]
set_option maxRecDepth 100000 in
theorem vr_drawn : (lw_D lr_drawn []).cd.all (cb_vE (lw_D lr_drawn [])) = true := by decide +kernel
theorem lc_drawn {L : Nat} {xs : Nat → Int32} {X : cb_X} {iv : Int32} {m k n : Nat} {f : Option Nat} {M : cb_M} (E : lw_E L xs X) (hv : lw_iv iv L) (hR : re_R M m) (hk : k + 8 ≤ room_1.cells) (hn : n + 3252 ≤ room_1.slots) (h : ∀ f' M', re_R M' m → cb_Gd cb_tb lw_0 X 2738 (lw_l iv) [] (cb_aS m, f') M' (k + 8) (n + 3252)) : cb_Gd cb_tb lw_0 X 1978 (lw_l iv) [] (cb_aS m, f) M k n := by
  refine cb_Gd.same (cd := lr_drawn) (sw := []) (by decide) ?_
  have B := E.bs lr_drawn []
  refine cb_run cb_tb_ok vr_drawn (cuts := [1979]) 20 ?_
  refine cl_arg E (ic := 1) (c := 1) rfl hv.2.1 (by decide +kernel) rfl rfl ?_
  refine cl_arg E (ic := 2) (c := 2) rfl hv.2.2.1 (by decide +kernel) rfl rfl ?_
  refine cl_arg E (ic := 3) (c := 3) rfl hv.2.2.2.1 (by decide +kernel) rfl rfl ?_
  refine cl_arg E (ic := 4) (c := 4) rfl hv.2.2.2.2.1 (by decide +kernel) rfl rfl ?_
  refine cb_run cb_tb_ok vr_drawn (cuts := [2004]) 20 ?_
  refine cl_help (K := lw_KH false sp_X10_drawn [cb_i (xs (iv + 1).toNatClampNeg), cb_i (xs (iv + 2).toNatClampNeg), cb_i (xs (iv + 3).toNatClampNeg), cb_i (xs (iv + 4).toNatClampNeg)] m) (As := cb_r 0 0 :: ([cb_i (xs (iv + 1).toNatClampNeg), cb_i (xs (iv + 2).toNatClampNeg), cb_i (xs (iv + 3).toNatClampNeg), cb_i (xs (iv + 4).toNatClampNeg)] ++ [cb_r 90 0])) (st := []) ok_L_drawn E.2.1 E.2.2.1 (cb_tw (i := 1213) (by decide +kernel)) (by decide +kernel) (cb_tw (i := 0) (by decide +kernel)) ⟨by decide, by decide⟩ (cb_tw (i := 1211) (by decide +kernel)) (cb_tw (i := 1212) (by decide +kernel)) ⟨by decide, by decide⟩ (idx := 222) (na := 6) (by decide +kernel) rfl (by decide) (by show k + 5 ≤ room_1.cells; omega) (by show n + 30 ≤ room_1.slots; omega) (by decide +kernel) lw_KHx (hl_ref (re_drawn hR _ _ _ _) re_c2_0 rfl rfl) (fun v a1 M1 hK => ?_)
  match v, hK with
  | some (.inl c), hK =>
    obtain ⟨f1, rfl, K2, h2, hT⟩ := hK
    refine cb_run cb_tb_ok vr_drawn (cuts := [2010]) 20 ?_
    refine cl_arg E (ic := 1) (c := 1) rfl hv.2.1 (by decide +kernel) rfl rfl ?_
    refine cl_arg E (ic := 2) (c := 2) rfl hv.2.2.1 (by decide +kernel) rfl rfl ?_
    refine cl_arg E (ic := 3) (c := 3) rfl hv.2.2.2.1 (by decide +kernel) rfl rfl ?_
    refine cl_arg E (ic := 4) (c := 4) rfl hv.2.2.2.2.1 (by decide +kernel) rfl rfl ?_
    refine cl_call (As := cb_r 46 0 :: [cb_i (xs (iv + 1).toNatClampNeg), cb_i (xs (iv + 2).toNatClampNeg), cb_i (xs (iv + 3).toNatClampNeg), cb_i (xs (iv + 4).toNatClampNeg)]) (st := []) (cb_csV (idx := 224) (na := 5) B ok_X10_drawn wd_X10_drawn (cb_tw (i := 1836) (by decide +kernel)) (cb_tw (i := 1837) (by decide +kernel)) (cb_tw (i := 1838) (by decide +kernel)) rc_X10_drawn ⟨by decide, by decide⟩ (by decide +kernel)) rfl (by decide) (by show k + 5 + 0 ≤ room_1.cells; omega) (by show n + 30 + 0 ≤ room_1.slots; omega) (by decide +kernel) (hl_m rfl rfl h2) (fun v a2 M2 hK => ?_) (fun _ _ _ h => h)
    obtain ⟨rfl, h3⟩ := hK
    obtain ⟨u, rfl, e0, hR2, hL⟩ := hT _ _ h3
    refine cb_run cb_tb_ok vr_drawn (cuts := [2040]) 20 ?_
    refine cl_call (As := [cb_r 46 0]) (st := []) (lw_thr B) rfl (by decide) (by show k + 5 + 0 + 0 ≤ room_1.cells; omega) (by show n + 30 + 0 + 0 ≤ room_1.slots; omega) (by decide +kernel) (hl_m (K2 := fun w M3 => w = some (cb_i (cb_gI M2 46 0 0)) ∧ M3 = M2) rfl rfl ⟨rfl, rfl⟩) (fun v a3 M3 hK => ?_) (fun _ _ _ h => h)
    obtain ⟨rfl, rfl, rfl⟩ := hK
    refine cb_run cb_tb_ok vr_drawn (cuts := [2738]) 40 ?_
    have h9 := h f1 _ hR2
    have w1 : k + 5 + 0 + 0 ≤ k + 8 := by omega
    have w2 : n + 30 + 0 + 0 ≤ n + 3252 := by omega
    refine And.intro (fun q1 => And.intro (fun q2 => lw_back w1 w2 h9) (fun q2 => And.intro vp01 ?_)) (fun q1 => absurd e0 q1)
    have q2 : ¬ ¬ c = 0 := q2
    have hc : c = 0 := Classical.byContradiction q2
    have hL := hL hc
    exact And.intro (fun q4 => lw_back w1 w2 h9) (fun q4 => absurd (lw_lc hL) q4)
def lr_comes : List cb_O := [(2070, .aload_n 1, 1, 0, 1, 0, 0),
  (2095, .aload_n 3, 1, 0, 3, 0, 0),
  (2099, .istore 5, 2, 0, 5, 0, 0),
  (2101, .aload_n 2, 1, 0, 2, 0, 0),
  (2129, .istore 6, 2, 0, 6, 0, 0),
  (2131, .aload_n 2, 1, 0, 2, 0, 0),
  (2135, .iload 5, 2, 0, 5, 0, 0),
  (2137, .if_icmp .eq 5, 3, 0, 2142, 0, 0),
  (2140, .iconst 0, 1, 0, 0, 0, 0),
  (2141, .ireturn, 1, 0, 0, 0, 0),
  (2142, .iload 5, 2, 0, 5, 0, 0),
  (2144, .ifCond .ne 15, 3, 0, 2159, 0, 0),
  (2147, .aload_n 3, 1, 0, 3, 0, 0),
  (2148, .iconst 0, 1, 0, 0, 0, 0),
  (2149, .laload, 1, 0, 0, 0, 0),
  (2150, .iload 6, 2, 0, 6, 0, 0),
  (2152, .i2l, 1, 0, 0, 0, 0),
  (2153, .lcmp, 1, 0, 0, 0, 0),
  (2154, .ifCond .eq 5, 3, 0, 2159, 0, 0),
  (2157, .iconst 0, 1, 0, 0, 0, 0),
  (2158, .ireturn, 1, 0, 0, 0, 0),
  (2159, .goto 579, 3, 0, 2738, 0, 0)]
set_option maxRecDepth 100000 in
theorem vr_comes : (lw_D lr_comes []).cd.all (cb_vE (lw_D lr_comes [])) = true := by decide +kernel
theorem lc_comes {L : Nat} {xs : Nat → Int32} {X : cb_X} {iv : Int32} {m k n : Nat} {f : Option Nat} {M : cb_M} (E : lw_E L xs X) (hv : lw_iv iv L) (hR : re_R M m) (hk : k + 8 ≤ room_1.cells) (hn : n + 3252 ≤ room_1.slots) (h : ∀ f' M', re_R M' m → cb_Gd cb_tb lw_0 X 2738 (lw_l iv) [] (cb_aS m, f') M' (k + 8) (n + 3252)) : cb_Gd cb_tb lw_0 X 2070 (lw_l iv) [] (cb_aS m, f) M k n := by
  refine cb_Gd.same (cd := lr_comes) (sw := []) (by decide) ?_
  have B := E.bs lr_comes []
  refine cb_run cb_tb_ok vr_comes (cuts := [2071]) 20 ?_
  refine cl_arg E (ic := 1) (c := 1) rfl hv.2.1 (by decide +kernel) rfl rfl ?_
  refine cl_arg E (ic := 2) (c := 2) rfl hv.2.2.1 (by decide +kernel) rfl rfl ?_
  refine cl_arg E (ic := 3) (c := 3) rfl hv.2.2.2.1 (by decide +kernel) rfl rfl ?_
  refine cl_arg E (ic := 4) (c := 4) rfl hv.2.2.2.2.1 (by decide +kernel) rfl rfl ?_
  refine cb_run cb_tb_ok vr_comes (cuts := [2096]) 20 ?_
  refine cl_help (K := lw_KH false sp_X10_comes [cb_i (xs (iv + 1).toNatClampNeg), cb_i (xs (iv + 2).toNatClampNeg), cb_i (xs (iv + 3).toNatClampNeg), cb_i (xs (iv + 4).toNatClampNeg)] m) (As := cb_r 0 0 :: ([cb_i (xs (iv + 1).toNatClampNeg), cb_i (xs (iv + 2).toNatClampNeg), cb_i (xs (iv + 3).toNatClampNeg), cb_i (xs (iv + 4).toNatClampNeg)] ++ [cb_r 90 0])) (st := []) ok_L_comes E.2.1 E.2.2.1 (cb_tw (i := 1222) (by decide +kernel)) (by decide +kernel) (cb_tw (i := 0) (by decide +kernel)) ⟨by decide, by decide⟩ (cb_tw (i := 1220) (by decide +kernel)) (cb_tw (i := 1221) (by decide +kernel)) ⟨by decide, by decide⟩ (idx := 225) (na := 6) (by decide +kernel) rfl (by decide) (by show k + 5 ≤ room_1.cells; omega) (by show n + 30 ≤ room_1.slots; omega) (by decide +kernel) lw_KHx (hl_ref (re_comes hR _ _ _ _) re_c2_0 rfl rfl) (fun v a1 M1 hK => ?_)
  match v, hK with
  | some (.inl c), hK =>
    obtain ⟨f1, rfl, K2, h2, hT⟩ := hK
    refine cb_run cb_tb_ok vr_comes (cuts := [2102]) 20 ?_
    refine cl_arg E (ic := 1) (c := 1) rfl hv.2.1 (by decide +kernel) rfl rfl ?_
    refine cl_arg E (ic := 2) (c := 2) rfl hv.2.2.1 (by decide +kernel) rfl rfl ?_
    refine cl_arg E (ic := 3) (c := 3) rfl hv.2.2.2.1 (by decide +kernel) rfl rfl ?_
    refine cl_arg E (ic := 4) (c := 4) rfl hv.2.2.2.2.1 (by decide +kernel) rfl rfl ?_
    refine cl_call (As := cb_r 46 0 :: [cb_i (xs (iv + 1).toNatClampNeg), cb_i (xs (iv + 2).toNatClampNeg), cb_i (xs (iv + 3).toNatClampNeg), cb_i (xs (iv + 4).toNatClampNeg)]) (st := []) (cb_csV (idx := 227) (na := 5) B ok_X10_comes wd_X10_comes (cb_tw (i := 1840) (by decide +kernel)) (cb_tw (i := 1841) (by decide +kernel)) (cb_tw (i := 1842) (by decide +kernel)) rc_X10_comes ⟨by decide, by decide⟩ (by decide +kernel)) rfl (by decide) (by show k + 5 + 0 ≤ room_1.cells; omega) (by show n + 30 + 0 ≤ room_1.slots; omega) (by decide +kernel) (hl_m rfl rfl h2) (fun v a2 M2 hK => ?_) (fun _ _ _ h => h)
    obtain ⟨rfl, h3⟩ := hK
    obtain ⟨u, rfl, e0, hR2, hL⟩ := hT _ _ h3
    refine cb_run cb_tb_ok vr_comes (cuts := [2132]) 20 ?_
    refine cl_call (As := [cb_r 46 0]) (st := []) (lw_thr B) rfl (by decide) (by show k + 5 + 0 + 0 ≤ room_1.cells; omega) (by show n + 30 + 0 + 0 ≤ room_1.slots; omega) (by decide +kernel) (hl_m (K2 := fun w M3 => w = some (cb_i (cb_gI M2 46 0 0)) ∧ M3 = M2) rfl rfl ⟨rfl, rfl⟩) (fun v a3 M3 hK => ?_) (fun _ _ _ h => h)
    obtain ⟨rfl, rfl, rfl⟩ := hK
    refine cb_run cb_tb_ok vr_comes (cuts := [2738]) 40 ?_
    have h9 := h f1 _ hR2
    have w1 : k + 5 + 0 + 0 ≤ k + 8 := by omega
    have w2 : n + 30 + 0 + 0 ≤ n + 3252 := by omega
    refine And.intro (fun q1 => And.intro (fun q2 => lw_back w1 w2 h9) (fun q2 => And.intro vp01 ?_)) (fun q1 => absurd e0 q1)
    have q2 : ¬ ¬ c = 0 := q2
    have hc : c = 0 := Classical.byContradiction q2
    have hL := hL hc
    exact And.intro (fun q4 => lw_back w1 w2 h9) (fun q4 => absurd (lw_lc hL) q4)
def lr_wanted : List cb_O := [(2286, .aload_n 1, 1, 0, 1, 0, 0),
  (2311, .aload_n 3, 1, 0, 3, 0, 0),
  (2315, .istore 5, 2, 0, 5, 0, 0),
  (2317, .aload_n 2, 1, 0, 2, 0, 0),
  (2345, .istore 6, 2, 0, 6, 0, 0),
  (2347, .aload_n 2, 1, 0, 2, 0, 0),
  (2351, .iload 5, 2, 0, 5, 0, 0),
  (2353, .if_icmp .eq 5, 3, 0, 2358, 0, 0),
  (2356, .iconst 0, 1, 0, 0, 0, 0),
  (2357, .ireturn, 1, 0, 0, 0, 0),
  (2358, .iload 5, 2, 0, 5, 0, 0),
  (2360, .ifCond .ne 15, 3, 0, 2375, 0, 0),
  (2363, .aload_n 3, 1, 0, 3, 0, 0),
  (2364, .iconst 0, 1, 0, 0, 0, 0),
  (2365, .laload, 1, 0, 0, 0, 0),
  (2366, .iload 6, 2, 0, 6, 0, 0),
  (2368, .i2l, 1, 0, 0, 0, 0),
  (2369, .lcmp, 1, 0, 0, 0, 0),
  (2370, .ifCond .eq 5, 3, 0, 2375, 0, 0),
  (2373, .iconst 0, 1, 0, 0, 0, 0),
  (2374, .ireturn, 1, 0, 0, 0, 0),
  (2375, .goto 363, 3, 0, 2738, 0, 0)]
set_option maxRecDepth 100000 in
theorem vr_wanted : (lw_D lr_wanted []).cd.all (cb_vE (lw_D lr_wanted [])) = true := by decide +kernel
theorem lc_wanted {L : Nat} {xs : Nat → Int32} {X : cb_X} {iv : Int32} {m k n : Nat} {f : Option Nat} {M : cb_M} (E : lw_E L xs X) (hv : lw_iv iv L) (hR : re_R M m) (hk : k + 8 ≤ room_1.cells) (hn : n + 3252 ≤ room_1.slots) (h : ∀ f' M', re_R M' m → cb_Gd cb_tb lw_0 X 2738 (lw_l iv) [] (cb_aS m, f') M' (k + 8) (n + 3252)) : cb_Gd cb_tb lw_0 X 2286 (lw_l iv) [] (cb_aS m, f) M k n := by
  refine cb_Gd.same (cd := lr_wanted) (sw := []) (by decide) ?_
  have B := E.bs lr_wanted []
  refine cb_run cb_tb_ok vr_wanted (cuts := [2287]) 20 ?_
  refine cl_arg E (ic := 1) (c := 1) rfl hv.2.1 (by decide +kernel) rfl rfl ?_
  refine cl_arg E (ic := 2) (c := 2) rfl hv.2.2.1 (by decide +kernel) rfl rfl ?_
  refine cl_arg E (ic := 3) (c := 3) rfl hv.2.2.2.1 (by decide +kernel) rfl rfl ?_
  refine cl_arg E (ic := 4) (c := 4) rfl hv.2.2.2.2.1 (by decide +kernel) rfl rfl ?_
  refine cb_run cb_tb_ok vr_wanted (cuts := [2312]) 20 ?_
  refine cl_help (K := lw_KH false sp_X10_wanted [cb_i (xs (iv + 1).toNatClampNeg), cb_i (xs (iv + 2).toNatClampNeg), cb_i (xs (iv + 3).toNatClampNeg), cb_i (xs (iv + 4).toNatClampNeg)] m) (As := cb_r 0 0 :: ([cb_i (xs (iv + 1).toNatClampNeg), cb_i (xs (iv + 2).toNatClampNeg), cb_i (xs (iv + 3).toNatClampNeg), cb_i (xs (iv + 4).toNatClampNeg)] ++ [cb_r 90 0])) (st := []) ok_L_wanted E.2.1 E.2.2.1 (cb_tw (i := 1263) (by decide +kernel)) (by decide +kernel) (cb_tw (i := 0) (by decide +kernel)) ⟨by decide, by decide⟩ (cb_tw (i := 1261) (by decide +kernel)) (cb_tw (i := 1262) (by decide +kernel)) ⟨by decide, by decide⟩ (idx := 234) (na := 6) (by decide +kernel) rfl (by decide) (by show k + 4 ≤ room_1.cells; omega) (by show n + 24 ≤ room_1.slots; omega) (by decide +kernel) lw_KHx (hl_ref (re_wanted hR _ _ _ _) re_c2_0 rfl rfl) (fun v a1 M1 hK => ?_)
  match v, hK with
  | some (.inl c), hK =>
    obtain ⟨f1, rfl, K2, h2, hT⟩ := hK
    refine cb_run cb_tb_ok vr_wanted (cuts := [2318]) 20 ?_
    refine cl_arg E (ic := 1) (c := 1) rfl hv.2.1 (by decide +kernel) rfl rfl ?_
    refine cl_arg E (ic := 2) (c := 2) rfl hv.2.2.1 (by decide +kernel) rfl rfl ?_
    refine cl_arg E (ic := 3) (c := 3) rfl hv.2.2.2.1 (by decide +kernel) rfl rfl ?_
    refine cl_arg E (ic := 4) (c := 4) rfl hv.2.2.2.2.1 (by decide +kernel) rfl rfl ?_
    refine cl_call (As := cb_r 46 0 :: [cb_i (xs (iv + 1).toNatClampNeg), cb_i (xs (iv + 2).toNatClampNeg), cb_i (xs (iv + 3).toNatClampNeg), cb_i (xs (iv + 4).toNatClampNeg)]) (st := []) (cb_csV (idx := 236) (na := 5) B ok_X10_wanted wd_X10_wanted (cb_tw (i := 1804) (by decide +kernel)) (cb_tw (i := 1805) (by decide +kernel)) (cb_tw (i := 1806) (by decide +kernel)) rc_X10_wanted ⟨by decide, by decide⟩ (by decide +kernel)) rfl (by decide) (by show k + 4 + 0 ≤ room_1.cells; omega) (by show n + 24 + 0 ≤ room_1.slots; omega) (by decide +kernel) (hl_m rfl rfl h2) (fun v a2 M2 hK => ?_) (fun _ _ _ h => h)
    obtain ⟨rfl, h3⟩ := hK
    obtain ⟨u, rfl, e0, hR2, hL⟩ := hT _ _ h3
    refine cb_run cb_tb_ok vr_wanted (cuts := [2348]) 20 ?_
    refine cl_call (As := [cb_r 46 0]) (st := []) (lw_thr B) rfl (by decide) (by show k + 4 + 0 + 0 ≤ room_1.cells; omega) (by show n + 24 + 0 + 0 ≤ room_1.slots; omega) (by decide +kernel) (hl_m (K2 := fun w M3 => w = some (cb_i (cb_gI M2 46 0 0)) ∧ M3 = M2) rfl rfl ⟨rfl, rfl⟩) (fun v a3 M3 hK => ?_) (fun _ _ _ h => h)
    obtain ⟨rfl, rfl, rfl⟩ := hK
    refine cb_run cb_tb_ok vr_wanted (cuts := [2738]) 40 ?_
    have h9 := h f1 _ hR2
    have w1 : k + 4 + 0 + 0 ≤ k + 8 := by omega
    have w2 : n + 24 + 0 + 0 ≤ n + 3252 := by omega
    refine And.intro (fun q1 => And.intro (fun q2 => lw_back w1 w2 h9) (fun q2 => And.intro vp01 ?_)) (fun q1 => absurd e0 q1)
    have q2 : ¬ ¬ c = 0 := q2
    have hc : c = 0 := Classical.byContradiction q2
    have hL := hL hc
    exact And.intro (fun q4 => lw_back w1 w2 h9) (fun q4 => absurd (lw_lc hL) q4)
def lr_sale : List cb_O := [(2378, .aload_n 1, 1, 0, 1, 0, 0),
  (2391, .aload_n 3, 1, 0, 3, 0, 0),
  (2395, .istore 5, 2, 0, 5, 0, 0),
  (2397, .aload_n 2, 1, 0, 2, 0, 0),
  (2413, .istore 6, 2, 0, 6, 0, 0),
  (2415, .aload_n 2, 1, 0, 2, 0, 0),
  (2419, .iload 5, 2, 0, 5, 0, 0),
  (2421, .if_icmp .eq 5, 3, 0, 2426, 0, 0),
  (2424, .iconst 0, 1, 0, 0, 0, 0),
  (2425, .ireturn, 1, 0, 0, 0, 0),
  (2426, .iload 5, 2, 0, 5, 0, 0),
  (2428, .ifCond .ne 15, 3, 0, 2443, 0, 0),
  (2431, .aload_n 3, 1, 0, 3, 0, 0),
  (2432, .iconst 0, 1, 0, 0, 0, 0),
  (2433, .laload, 1, 0, 0, 0, 0),
  (2434, .iload 6, 2, 0, 6, 0, 0),
  (2436, .i2l, 1, 0, 0, 0, 0),
  (2437, .lcmp, 1, 0, 0, 0, 0),
  (2438, .ifCond .eq 5, 3, 0, 2443, 0, 0),
  (2441, .iconst 0, 1, 0, 0, 0, 0),
  (2442, .ireturn, 1, 0, 0, 0, 0),
  (2443, .goto 295, 3, 0, 2738, 0, 0)]
set_option maxRecDepth 100000 in
theorem vr_sale : (lw_D lr_sale []).cd.all (cb_vE (lw_D lr_sale [])) = true := by decide +kernel
theorem lc_sale {L : Nat} {xs : Nat → Int32} {X : cb_X} {iv : Int32} {m k n : Nat} {f : Option Nat} {M : cb_M} (E : lw_E L xs X) (hv : lw_iv iv L) (hR : re_R M m) (hk : k + 8 ≤ room_1.cells) (hn : n + 3252 ≤ room_1.slots) (h : ∀ f' M', re_R M' m → cb_Gd cb_tb lw_0 X 2738 (lw_l iv) [] (cb_aS m, f') M' (k + 8) (n + 3252)) : cb_Gd cb_tb lw_0 X 2378 (lw_l iv) [] (cb_aS m, f) M k n := by
  refine cb_Gd.same (cd := lr_sale) (sw := []) (by decide) ?_
  have B := E.bs lr_sale []
  refine cb_run cb_tb_ok vr_sale (cuts := [2379]) 20 ?_
  refine cl_arg E (ic := 1) (c := 1) rfl hv.2.1 (by decide +kernel) rfl rfl ?_
  refine cl_arg E (ic := 2) (c := 2) rfl hv.2.2.1 (by decide +kernel) rfl rfl ?_
  refine cb_run cb_tb_ok vr_sale (cuts := [2392]) 20 ?_
  refine cl_help (K := lw_KH false sp_X10_sale [cb_i (xs (iv + 1).toNatClampNeg), cb_i (xs (iv + 2).toNatClampNeg)] m) (As := cb_r 0 0 :: ([cb_i (xs (iv + 1).toNatClampNeg), cb_i (xs (iv + 2).toNatClampNeg)] ++ [cb_r 90 0])) (st := []) ok_L_sale E.2.1 E.2.2.1 (cb_tw (i := 1275) (by decide +kernel)) (by decide +kernel) (cb_tw (i := 0) (by decide +kernel)) ⟨by decide, by decide⟩ (cb_tw (i := 1273) (by decide +kernel)) (cb_tw (i := 1274) (by decide +kernel)) ⟨by decide, by decide⟩ (idx := 237) (na := 4) (by decide +kernel) rfl (by decide) (by show k + 2 ≤ room_1.cells; omega) (by show n + 12 ≤ room_1.slots; omega) (by decide +kernel) lw_KHx (hl_ref (re_sale hR _ _) re_c2_0 rfl rfl) (fun v a1 M1 hK => ?_)
  match v, hK with
  | some (.inl c), hK =>
    obtain ⟨f1, rfl, K2, h2, hT⟩ := hK
    refine cb_run cb_tb_ok vr_sale (cuts := [2398]) 20 ?_
    refine cl_arg E (ic := 1) (c := 1) rfl hv.2.1 (by decide +kernel) rfl rfl ?_
    refine cl_arg E (ic := 2) (c := 2) rfl hv.2.2.1 (by decide +kernel) rfl rfl ?_
    refine cl_call (As := cb_r 46 0 :: [cb_i (xs (iv + 1).toNatClampNeg), cb_i (xs (iv + 2).toNatClampNeg)]) (st := []) (cb_csV (idx := 239) (na := 3) B ok_X10_sale wd_X10_sale (cb_tw (i := 1812) (by decide +kernel)) (cb_tw (i := 1813) (by decide +kernel)) (cb_tw (i := 1814) (by decide +kernel)) rc_X10_sale ⟨by decide, by decide⟩ (by decide +kernel)) rfl (by decide) (by show k + 2 + 0 ≤ room_1.cells; omega) (by show n + 12 + 0 ≤ room_1.slots; omega) (by decide +kernel) (hl_m rfl rfl h2) (fun v a2 M2 hK => ?_) (fun _ _ _ h => h)
    obtain ⟨rfl, h3⟩ := hK
    obtain ⟨u, rfl, e0, hR2, hL⟩ := hT _ _ h3
    refine cb_run cb_tb_ok vr_sale (cuts := [2416]) 20 ?_
    refine cl_call (As := [cb_r 46 0]) (st := []) (lw_thr B) rfl (by decide) (by show k + 2 + 0 + 0 ≤ room_1.cells; omega) (by show n + 12 + 0 + 0 ≤ room_1.slots; omega) (by decide +kernel) (hl_m (K2 := fun w M3 => w = some (cb_i (cb_gI M2 46 0 0)) ∧ M3 = M2) rfl rfl ⟨rfl, rfl⟩) (fun v a3 M3 hK => ?_) (fun _ _ _ h => h)
    obtain ⟨rfl, rfl, rfl⟩ := hK
    refine cb_run cb_tb_ok vr_sale (cuts := [2738]) 40 ?_
    have h9 := h f1 _ hR2
    have w1 : k + 2 + 0 + 0 ≤ k + 8 := by omega
    have w2 : n + 12 + 0 + 0 ≤ n + 3252 := by omega
    refine And.intro (fun q1 => And.intro (fun q2 => lw_back w1 w2 h9) (fun q2 => And.intro vp01 ?_)) (fun q1 => absurd e0 q1)
    have q2 : ¬ ¬ c = 0 := q2
    have hc : c = 0 := Classical.byContradiction q2
    have hL := hL hc
    exact And.intro (fun q4 => lw_back w1 w2 h9) (fun q4 => absurd (lw_lc hL) q4)
def lr_winter : List cb_O := [(2515, .aload_n 1, 1, 0, 1, 0, 0),
  (2534, .aload_n 3, 1, 0, 3, 0, 0),
  (2538, .istore 5, 2, 0, 5, 0, 0),
  (2540, .aload_n 2, 1, 0, 2, 0, 0),
  (2562, .istore 6, 2, 0, 6, 0, 0),
  (2564, .aload_n 2, 1, 0, 2, 0, 0),
  (2568, .iload 5, 2, 0, 5, 0, 0),
  (2570, .if_icmp .eq 5, 3, 0, 2575, 0, 0),
  (2573, .iconst 0, 1, 0, 0, 0, 0),
  (2574, .ireturn, 1, 0, 0, 0, 0),
  (2575, .iload 5, 2, 0, 5, 0, 0),
  (2577, .ifCond .ne 15, 3, 0, 2592, 0, 0),
  (2580, .aload_n 3, 1, 0, 3, 0, 0),
  (2581, .iconst 0, 1, 0, 0, 0, 0),
  (2582, .laload, 1, 0, 0, 0, 0),
  (2583, .iload 6, 2, 0, 6, 0, 0),
  (2585, .i2l, 1, 0, 0, 0, 0),
  (2586, .lcmp, 1, 0, 0, 0, 0),
  (2587, .ifCond .eq 5, 3, 0, 2592, 0, 0),
  (2590, .iconst 0, 1, 0, 0, 0, 0),
  (2591, .ireturn, 1, 0, 0, 0, 0),
  (2592, .goto 146, 3, 0, 2738, 0, 0)]
set_option maxRecDepth 100000 in
theorem vr_winter : (lw_D lr_winter []).cd.all (cb_vE (lw_D lr_winter [])) = true := by decide +kernel
theorem lc_winter {L : Nat} {xs : Nat → Int32} {X : cb_X} {iv : Int32} {m k n : Nat} {f : Option Nat} {M : cb_M} (E : lw_E L xs X) (hv : lw_iv iv L) (hR : re_R M m) (hk : k + 8 ≤ room_1.cells) (hn : n + 3252 ≤ room_1.slots) (h : ∀ f' M', re_R M' m → cb_Gd cb_tb lw_0 X 2738 (lw_l iv) [] (cb_aS m, f') M' (k + 8) (n + 3252)) : cb_Gd cb_tb lw_0 X 2515 (lw_l iv) [] (cb_aS m, f) M k n := by
  refine cb_Gd.same (cd := lr_winter) (sw := []) (by decide) ?_
  have B := E.bs lr_winter []
  refine cb_run cb_tb_ok vr_winter (cuts := [2516]) 20 ?_
  refine cl_arg E (ic := 1) (c := 1) rfl hv.2.1 (by decide +kernel) rfl rfl ?_
  refine cl_arg E (ic := 2) (c := 2) rfl hv.2.2.1 (by decide +kernel) rfl rfl ?_
  refine cl_arg E (ic := 3) (c := 3) rfl hv.2.2.2.1 (by decide +kernel) rfl rfl ?_
  refine cb_run cb_tb_ok vr_winter (cuts := [2535]) 20 ?_
  refine cl_help (K := lw_KH false sp_X10_winter [cb_i (xs (iv + 1).toNatClampNeg), cb_i (xs (iv + 2).toNatClampNeg), cb_i (xs (iv + 3).toNatClampNeg)] m) (As := cb_r 0 0 :: ([cb_i (xs (iv + 1).toNatClampNeg), cb_i (xs (iv + 2).toNatClampNeg), cb_i (xs (iv + 3).toNatClampNeg)] ++ [cb_r 90 0])) (st := []) ok_L_winter E.2.1 E.2.2.1 (cb_tw (i := 1302) (by decide +kernel)) (by decide +kernel) (cb_tw (i := 0) (by decide +kernel)) ⟨by decide, by decide⟩ (cb_tw (i := 1300) (by decide +kernel)) (cb_tw (i := 1301) (by decide +kernel)) ⟨by decide, by decide⟩ (idx := 247) (na := 5) (by decide +kernel) rfl (by decide) (by show k + 2 ≤ room_1.cells; omega) (by show n + 12 ≤ room_1.slots; omega) (by decide +kernel) lw_KHx (hl_ref (re_winter hR _ _ _) re_c2_0 rfl rfl) (fun v a1 M1 hK => ?_)
  match v, hK with
  | some (.inl c), hK =>
    obtain ⟨f1, rfl, K2, h2, hT⟩ := hK
    refine cb_run cb_tb_ok vr_winter (cuts := [2541]) 20 ?_
    refine cl_arg E (ic := 1) (c := 1) rfl hv.2.1 (by decide +kernel) rfl rfl ?_
    refine cl_arg E (ic := 2) (c := 2) rfl hv.2.2.1 (by decide +kernel) rfl rfl ?_
    refine cl_arg E (ic := 3) (c := 3) rfl hv.2.2.2.1 (by decide +kernel) rfl rfl ?_
    refine cl_call (As := cb_r 46 0 :: [cb_i (xs (iv + 1).toNatClampNeg), cb_i (xs (iv + 2).toNatClampNeg), cb_i (xs (iv + 3).toNatClampNeg)]) (st := []) (cb_csV (idx := 249) (na := 4) B ok_X10_winter wd_X10_winter (cb_tw (i := 1844) (by decide +kernel)) (cb_tw (i := 1845) (by decide +kernel)) (cb_tw (i := 1846) (by decide +kernel)) rc_X10_winter ⟨by decide, by decide⟩ (by decide +kernel)) rfl (by decide) (by show k + 2 + 0 ≤ room_1.cells; omega) (by show n + 12 + 0 ≤ room_1.slots; omega) (by decide +kernel) (hl_m rfl rfl h2) (fun v a2 M2 hK => ?_) (fun _ _ _ h => h)
    obtain ⟨rfl, h3⟩ := hK
    obtain ⟨u, rfl, e0, hR2, hL⟩ := hT _ _ h3
    refine cb_run cb_tb_ok vr_winter (cuts := [2565]) 20 ?_
    refine cl_call (As := [cb_r 46 0]) (st := []) (lw_thr B) rfl (by decide) (by show k + 2 + 0 + 0 ≤ room_1.cells; omega) (by show n + 12 + 0 + 0 ≤ room_1.slots; omega) (by decide +kernel) (hl_m (K2 := fun w M3 => w = some (cb_i (cb_gI M2 46 0 0)) ∧ M3 = M2) rfl rfl ⟨rfl, rfl⟩) (fun v a3 M3 hK => ?_) (fun _ _ _ h => h)
    obtain ⟨rfl, rfl, rfl⟩ := hK
    refine cb_run cb_tb_ok vr_winter (cuts := [2738]) 40 ?_
    have h9 := h f1 _ hR2
    have w1 : k + 2 + 0 + 0 ≤ k + 8 := by omega
    have w2 : n + 12 + 0 + 0 ≤ n + 3252 := by omega
    refine And.intro (fun q1 => And.intro (fun q2 => lw_back w1 w2 h9) (fun q2 => And.intro vp01 ?_)) (fun q1 => absurd e0 q1)
    have q2 : ¬ ¬ c = 0 := q2
    have hc : c = 0 := Classical.byContradiction q2
    have hL := hL hc
    exact And.intro (fun q4 => lw_back w1 w2 h9) (fun q4 => absurd (lw_lc hL) q4)
def lr_winters : List cb_O := [(2595, .aload_n 1, 1, 0, 1, 0, 0),
  (2620, .aload_n 3, 1, 0, 3, 0, 0),
  (2624, .istore 5, 2, 0, 5, 0, 0),
  (2626, .aload_n 2, 1, 0, 2, 0, 0),
  (2654, .istore 6, 2, 0, 6, 0, 0),
  (2656, .aload_n 2, 1, 0, 2, 0, 0),
  (2660, .iload 5, 2, 0, 5, 0, 0),
  (2662, .if_icmp .eq 5, 3, 0, 2667, 0, 0),
  (2665, .iconst 0, 1, 0, 0, 0, 0),
  (2666, .ireturn, 1, 0, 0, 0, 0),
  (2667, .iload 5, 2, 0, 5, 0, 0),
  (2669, .ifCond .ne 15, 3, 0, 2684, 0, 0),
  (2672, .aload_n 3, 1, 0, 3, 0, 0),
  (2673, .iconst 0, 1, 0, 0, 0, 0),
  (2674, .laload, 1, 0, 0, 0, 0),
  (2675, .iload 6, 2, 0, 6, 0, 0),
  (2677, .i2l, 1, 0, 0, 0, 0),
  (2678, .lcmp, 1, 0, 0, 0, 0),
  (2679, .ifCond .eq 5, 3, 0, 2684, 0, 0),
  (2682, .iconst 0, 1, 0, 0, 0, 0),
  (2683, .ireturn, 1, 0, 0, 0, 0),
  (2684, .goto 54, 3, 0, 2738, 0, 0)]
set_option maxRecDepth 100000 in
theorem vr_winters : (lw_D lr_winters []).cd.all (cb_vE (lw_D lr_winters [])) = true := by decide +kernel
theorem lc_winters {L : Nat} {xs : Nat → Int32} {X : cb_X} {iv : Int32} {m k n : Nat} {f : Option Nat} {M : cb_M} (E : lw_E L xs X) (hv : lw_iv iv L) (hR : re_R M m) (hk : k + 8 ≤ room_1.cells) (hn : n + 3252 ≤ room_1.slots) (h : ∀ f' M', re_R M' m → cb_Gd cb_tb lw_0 X 2738 (lw_l iv) [] (cb_aS m, f') M' (k + 8) (n + 3252)) : cb_Gd cb_tb lw_0 X 2595 (lw_l iv) [] (cb_aS m, f) M k n := by
  refine cb_Gd.same (cd := lr_winters) (sw := []) (by decide) ?_
  have B := E.bs lr_winters []
  refine cb_run cb_tb_ok vr_winters (cuts := [2596]) 20 ?_
  refine cl_arg E (ic := 1) (c := 1) rfl hv.2.1 (by decide +kernel) rfl rfl ?_
  refine cl_arg E (ic := 2) (c := 2) rfl hv.2.2.1 (by decide +kernel) rfl rfl ?_
  refine cl_arg E (ic := 3) (c := 3) rfl hv.2.2.2.1 (by decide +kernel) rfl rfl ?_
  refine cl_arg E (ic := 4) (c := 4) rfl hv.2.2.2.2.1 (by decide +kernel) rfl rfl ?_
  refine cb_run cb_tb_ok vr_winters (cuts := [2621]) 20 ?_
  refine cl_help (K := lw_KH false sp_X10_winters [cb_i (xs (iv + 1).toNatClampNeg), cb_i (xs (iv + 2).toNatClampNeg), cb_i (xs (iv + 3).toNatClampNeg), cb_i (xs (iv + 4).toNatClampNeg)] m) (As := cb_r 0 0 :: ([cb_i (xs (iv + 1).toNatClampNeg), cb_i (xs (iv + 2).toNatClampNeg), cb_i (xs (iv + 3).toNatClampNeg), cb_i (xs (iv + 4).toNatClampNeg)] ++ [cb_r 90 0])) (st := []) ok_L_winters E.2.1 E.2.2.1 (cb_tw (i := 1314) (by decide +kernel)) (by decide +kernel) (cb_tw (i := 0) (by decide +kernel)) ⟨by decide, by decide⟩ (cb_tw (i := 1312) (by decide +kernel)) (cb_tw (i := 1313) (by decide +kernel)) ⟨by decide, by decide⟩ (idx := 250) (na := 6) (by decide +kernel) rfl (by decide) (by show k + 3 ≤ room_1.cells; omega) (by show n + 18 ≤ room_1.slots; omega) (by decide +kernel) lw_KHx (hl_ref (re_winters hR _ _ _ _) re_c2_0 rfl rfl) (fun v a1 M1 hK => ?_)
  match v, hK with
  | some (.inl c), hK =>
    obtain ⟨f1, rfl, K2, h2, hT⟩ := hK
    refine cb_run cb_tb_ok vr_winters (cuts := [2627]) 20 ?_
    refine cl_arg E (ic := 1) (c := 1) rfl hv.2.1 (by decide +kernel) rfl rfl ?_
    refine cl_arg E (ic := 2) (c := 2) rfl hv.2.2.1 (by decide +kernel) rfl rfl ?_
    refine cl_arg E (ic := 3) (c := 3) rfl hv.2.2.2.1 (by decide +kernel) rfl rfl ?_
    refine cl_arg E (ic := 4) (c := 4) rfl hv.2.2.2.2.1 (by decide +kernel) rfl rfl ?_
    refine cl_call (As := cb_r 46 0 :: [cb_i (xs (iv + 1).toNatClampNeg), cb_i (xs (iv + 2).toNatClampNeg), cb_i (xs (iv + 3).toNatClampNeg), cb_i (xs (iv + 4).toNatClampNeg)]) (st := []) (cb_csV (idx := 252) (na := 5) B ok_X10_winters wd_X10_winters (cb_tw (i := 1852) (by decide +kernel)) (cb_tw (i := 1853) (by decide +kernel)) (cb_tw (i := 1854) (by decide +kernel)) rc_X10_winters ⟨by decide, by decide⟩ (by decide +kernel)) rfl (by decide) (by show k + 3 + 0 ≤ room_1.cells; omega) (by show n + 18 + 0 ≤ room_1.slots; omega) (by decide +kernel) (hl_m rfl rfl h2) (fun v a2 M2 hK => ?_) (fun _ _ _ h => h)
    obtain ⟨rfl, h3⟩ := hK
    obtain ⟨u, rfl, e0, hR2, hL⟩ := hT _ _ h3
    refine cb_run cb_tb_ok vr_winters (cuts := [2657]) 20 ?_
    refine cl_call (As := [cb_r 46 0]) (st := []) (lw_thr B) rfl (by decide) (by show k + 3 + 0 + 0 ≤ room_1.cells; omega) (by show n + 18 + 0 + 0 ≤ room_1.slots; omega) (by decide +kernel) (hl_m (K2 := fun w M3 => w = some (cb_i (cb_gI M2 46 0 0)) ∧ M3 = M2) rfl rfl ⟨rfl, rfl⟩) (fun v a3 M3 hK => ?_) (fun _ _ _ h => h)
    obtain ⟨rfl, rfl, rfl⟩ := hK
    refine cb_run cb_tb_ok vr_winters (cuts := [2738]) 40 ?_
    have h9 := h f1 _ hR2
    have w1 : k + 3 + 0 + 0 ≤ k + 8 := by omega
    have w2 : n + 18 + 0 + 0 ≤ n + 3252 := by omega
    refine And.intro (fun q1 => And.intro (fun q2 => lw_back w1 w2 h9) (fun q2 => And.intro vp01 ?_)) (fun q1 => absurd e0 q1)
    have q2 : ¬ ¬ c = 0 := q2
    have hc : c = 0 := Classical.byContradiction q2
    have hL := hL hc
    exact And.intro (fun q4 => lw_back w1 w2 h9) (fun q4 => absurd (lw_lc hL) q4)
