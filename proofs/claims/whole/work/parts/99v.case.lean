/-! ===== the law's cases: image, restore, what has no helper ===== -/
def lw_KI : cb_Out → cb_A → cb_M → Prop := fun o a' M' => match o with
  | .inl (some (.inl v)) => ∃ m' f', a' = (cb_aS m', f') ∧ sp_X10_image 0 [] M' (fun w M2 => w = some (cb_i v) ∧ re_R M2 m')
  | _ => False
theorem lw_KIx (x : Nat) (a : cb_A) (M : cb_M) : ¬ lw_KI (.inr x) a M := fun h => h
theorem lw_KIi (v : Option cb_V) (a : cb_A) (M : cb_M) (h : lw_KI (.inl v) a M) : ∃ x, v = some (cb_i x) := by
  match v, h with
  | some (.inl x), _ => exact ⟨x, rfl⟩
def lw_KS (m : Nat) (f : Option Nat) : cb_Out → cb_A → cb_M → Prop := fun o a' M' => match o with
  | .inl (some (.inl v)) => a' = (cb_aS m, f) ∧ sp_X10_restore 0 [] M' (fun w M2 => w = some (cb_i v) ∧ re_R M2 m)
  | _ => False
theorem im_end_34 (M : cb_M) (c d : Nat) : cb_gI (im_end M c d) 46 0 34 = cb_gI M 46 0 34 := by
  unfold im_end
  rw [cb_gs_ne (by omega), mo_copy_ne M (by omega)]
theorem im_new_ne (M : cb_M) {o : Option Nat} {m t i j : Nat} (w : ¬ (16 ≤ t ∧ t ≤ 23 ∧ i = m + 1)) : cb_gI (im_new (cb_sR M 25 0 1 o) m) t i j = cb_gI M t i j := if_neg (fun e => w (cb_mz_iff.mp e))
theorem re_image {M : cb_M} {m : Nat} {f : Option Nat} (hR : re_R M m) : pt_X9_image [cb_r 0 0] (cb_aS m, f) M lw_KI := by
  obtain ⟨P, Q, A, c, t, -, -, -, -, ⟨d, ⟨hd4, hd, -⟩, -⟩, ⟨hI, h34⟩, -⟩ := id hR
  obtain ⟨hm, hcm, hj, hc⟩ := id hI
  refine ⟨rfl, m, f, c, d, rfl, hI, ⟨hd, hd4⟩, fun e => ?_, fun w1 w2 => ?_, fun w1 w2 o => ?_⟩
  · exact ⟨m, f, rfl, c, ⟨h34, by omega⟩, fun _ M' hF e => ⟨rfl, re_X hF hR⟩, fun w => absurd w (by omega)⟩
  · refine ⟨m, f, rfl, c, ⟨(im_end_34 M c d).trans h34, by omega⟩, fun w => absurd w (by omega), fun _ M' e0 e34 e2 eI e79 => ⟨rfl, re_img hR hc w1 w2 hd hd4 e34 e2 eI e79⟩⟩
  · subst w2
    have hR1 : re_R (im_new (cb_sR M 25 0 1 o) c) (c + 1) := re_new hR hc w1
    exact ⟨c + 1, none, rfl, c, ⟨(im_end_34 _ c d).trans ((im_new_ne M (by omega)).trans h34), by omega⟩, fun w => absurd w (by omega), fun _ M' e0 e34 e2 eI e79 => ⟨rfl, re_img hR1 ((im_new_ne M (by omega)).trans hc) w1 (by omega) ((im_new_ne M (by omega)).trans hd) hd4 e34 e2 eI e79⟩⟩
theorem re_restore {M : cb_M} {m : Nat} {f : Option Nat} (hR : re_R M m) : pt_X9_restore [cb_r 0 0] (cb_aS m, f) M (lw_KS m f) := by
  obtain ⟨P, Q, A, c, t, -, -, -, -, -, ⟨hI, h34⟩, hmo, -⟩ := id hR
  obtain ⟨hm, hcm, hj, hc⟩ := id hI
  refine ⟨⟨rfl, rfl⟩, m, f, c, rfl, ⟨hc, by omega⟩, fun e => ?_, fun w => ⟨⟨hcm, ?_⟩, ?_⟩⟩
  · exact ⟨rfl, c, ⟨h34, by omega⟩, fun _ M' hF e => ⟨rfl, re_X hF hR⟩, fun w => absurd w (by omega)⟩
  · rw [hj, if_pos (by omega)]
    exact congrArg some (by omega)
  · obtain ⟨d, ⟨hd4, hd, -⟩, -⟩ := hmo (c - 1) (by omega)
    rw [show c - 1 + 1 = c by omega] at hd
    refine ⟨d, ⟨hd, hd4⟩, rfl, c, ⟨?_, by omega⟩, fun w => absurd w (by omega), fun _ M' e0 e34 e2 eI eg => ⟨rfl, re_rest hR hc (by omega) w hd hd4 e34 e2 eI eg⟩⟩
    rw [mo_copy_ne _ (by omega), cb_gs_ne (by omega)]
    exact h34
def lr_feed : List cb_O := [(220, .aload_n 1, 1, 0, 1, 0, 0),
  (254, .aload_n 2, 1, 0, 2, 0, 0),
  (288, .if_icmp .eq 2450, 3, 0, 2738, 0, 0),
  (291, .iconst 0, 1, 0, 0, 0, 0),
  (292, .ireturn, 1, 0, 0, 0, 0)]
set_option maxRecDepth 100000 in
theorem vr_feed : (lw_D lr_feed []).cd.all (cb_vE (lw_D lr_feed [])) = true := by decide +kernel
theorem lc_feed {L : Nat} {xs : Nat → Int32} {X : cb_X} {iv : Int32} {m k n : Nat} {f : Option Nat} {M : cb_M} (E : lw_E L xs X) (hv : lw_iv iv L) (hR : re_R M m) (hk : k + 8 ≤ room_1.cells) (hn : n + 3252 ≤ room_1.slots) (h : ∀ f' M', re_R M' m → cb_Gd cb_tb lw_0 X 2738 (lw_l iv) [] (cb_aS m, f') M' (k + 8) (n + 3252)) : cb_Gd cb_tb lw_0 X 220 (lw_l iv) [] (cb_aS m, f) M k n := by
  refine cb_Gd.same (cd := lr_feed) (sw := []) (by decide) ?_
  have B := E.bs lr_feed []
  refine cb_run cb_tb_ok vr_feed (cuts := [221]) 20 ?_
  refine cl_arg E (ic := 1) (c := 1) rfl hv.2.1 (by decide +kernel) rfl rfl ?_
  refine cl_arg E (ic := 2) (c := 2) rfl hv.2.2.1 (by decide +kernel) rfl rfl ?_
  refine cl_arg E (ic := 3) (c := 3) rfl hv.2.2.2.1 (by decide +kernel) rfl rfl ?_
  refine cl_arg E (ic := 4) (c := 4) rfl hv.2.2.2.2.1 (by decide +kernel) rfl rfl ?_
  refine cl_arg E (ic := 5) (c := 5) rfl hv.2.2.2.2.2 (by decide +kernel) rfl rfl ?_
  refine cl_call (K := fun o a' M' => a' = cb_ae o (cb_aS m, f) ∧ re_post re_c0 sp_X10_feed [cb_i (xs (iv + 1).toNatClampNeg), cb_i (xs (iv + 2).toNatClampNeg), cb_i (xs (iv + 3).toNatClampNeg), cb_i (xs (iv + 4).toNatClampNeg), cb_i (xs (iv + 5).toNatClampNeg)] m o M') (As := cb_r 0 0 :: [cb_i (xs (iv + 1).toNatClampNeg), cb_i (xs (iv + 2).toNatClampNeg), cb_i (xs (iv + 3).toNatClampNeg), cb_i (xs (iv + 4).toNatClampNeg), cb_i (xs (iv + 5).toNatClampNeg)]) (st := []) (cb_csV (idx := 123) (na := 6) B ok_X9_feed wd_X9_feed (cb_tw (i := 404) (by decide +kernel)) (cb_tw (i := 405) (by decide +kernel)) (cb_tw (i := 406) (by decide +kernel)) rc_X9_feed ⟨by decide, by decide⟩ (by decide +kernel)) rfl (by decide) (by show k + 0 ≤ room_1.cells; omega) (by show n + 0 ≤ room_1.slots; omega) (by decide +kernel) (hl_wm rfl rfl (re_feed hR _ _ _ _ _)) (fun v a1 M1 hK => ?_) (fun x a1 M1 hK => ?_)
  · obtain ⟨rfl, hK⟩ := hK
    match v, hK with
    | some (.inl v), hK =>
      have hK := hK M1.2.2
      refine cb_run cb_tb_ok vr_feed (cuts := [255]) 20 ?_
      refine cl_arg E (ic := 1) (c := 1) rfl hv.2.1 (by decide +kernel) rfl rfl ?_
      refine cl_arg E (ic := 2) (c := 2) rfl hv.2.2.1 (by decide +kernel) rfl rfl ?_
      refine cl_arg E (ic := 3) (c := 3) rfl hv.2.2.2.1 (by decide +kernel) rfl rfl ?_
      refine cl_arg E (ic := 4) (c := 4) rfl hv.2.2.2.2.1 (by decide +kernel) rfl rfl ?_
      refine cl_arg E (ic := 5) (c := 5) rfl hv.2.2.2.2.2 (by decide +kernel) rfl rfl ?_
      refine cl_call (As := cb_r 46 0 :: [cb_i (xs (iv + 1).toNatClampNeg), cb_i (xs (iv + 2).toNatClampNeg), cb_i (xs (iv + 3).toNatClampNeg), cb_i (xs (iv + 4).toNatClampNeg), cb_i (xs (iv + 5).toNatClampNeg)]) (st := [cb_i v]) (cb_csV (idx := 126) (na := 6) B ok_X10_feed wd_X10_feed (cb_tw (i := 1496) (by decide +kernel)) (cb_tw (i := 1497) (by decide +kernel)) (cb_tw (i := 1498) (by decide +kernel)) rc_X10_feed ⟨by decide, by decide⟩ (by decide +kernel)) rfl (show 1 ≤ 8 by decide) (by show k + 0 + 0 ≤ room_1.cells; omega) (by show n + 0 + 0 ≤ room_1.slots; omega) (by decide +kernel) (hl_m rfl rfl hK) (fun v2 a2 M2 hK => ?_) (fun _ _ _ h => h)
      obtain ⟨rfl, rfl, e0, -, hR2⟩ := hK
      refine cb_run cb_tb_ok vr_feed (cuts := [2738]) 20 ?_
      have h9 := h f _ hR2
      have w1 : k + 0 + 0 ≤ k + 8 := by omega
      have w2 : n + 0 + 0 ≤ n + 3252 := by omega
      exact And.intro (fun q1 => lw_back w1 w2 h9) (fun q1 => absurd rfl q1)
  · obtain ⟨-, c, hc, -⟩ := hK
    cases hc
def lr_fault : List cb_O := [(349, .aload_n 1, 1, 0, 1, 0, 0),
  (353, .aload_n 2, 1, 0, 2, 0, 0),
  (357, .if_icmp .eq 2381, 3, 0, 2738, 0, 0),
  (360, .iconst 0, 1, 0, 0, 0, 0),
  (361, .ireturn, 1, 0, 0, 0, 0)]
set_option maxRecDepth 100000 in
theorem vr_fault : (lw_D lr_fault []).cd.all (cb_vE (lw_D lr_fault [])) = true := by decide +kernel
theorem lc_fault {L : Nat} {xs : Nat → Int32} {X : cb_X} {iv : Int32} {m k n : Nat} {f : Option Nat} {M : cb_M} (E : lw_E L xs X) (hv : lw_iv iv L) (hR : re_R M m) (hk : k + 8 ≤ room_1.cells) (hn : n + 3252 ≤ room_1.slots) (h : ∀ f' M', re_R M' m → cb_Gd cb_tb lw_0 X 2738 (lw_l iv) [] (cb_aS m, f') M' (k + 8) (n + 3252)) : cb_Gd cb_tb lw_0 X 349 (lw_l iv) [] (cb_aS m, f) M k n := by
  refine cb_Gd.same (cd := lr_fault) (sw := []) (by decide) ?_
  have B := E.bs lr_fault []
  refine cb_run cb_tb_ok vr_fault (cuts := [350]) 20 ?_
  refine cl_call (K := fun o a' M' => a' = cb_ae o (cb_aS m, f) ∧ re_post re_c0 sp_X10_fault [] m o M') (As := cb_r 0 0 :: []) (st := []) (cb_csV (idx := 137) (na := 1) B ok_X9_fault wd_X9_fault (cb_tw (i := 412) (by decide +kernel)) (cb_tw (i := 413) (by decide +kernel)) (cb_tw (i := 414) (by decide +kernel)) rc_X9_fault ⟨by decide, by decide⟩ (by decide +kernel)) rfl (by decide) (by show k + 0 ≤ room_1.cells; omega) (by show n + 0 ≤ room_1.slots; omega) (by decide +kernel) (hl_wm rfl rfl (re_fault hR)) (fun v a1 M1 hK => ?_) (fun x a1 M1 hK => ?_)
  · obtain ⟨rfl, hK⟩ := hK
    match v, hK with
    | some (.inl v), hK =>
      have hK := hK M1.2.2
      refine cb_run cb_tb_ok vr_fault (cuts := [354]) 20 ?_
      refine cl_call (As := cb_r 46 0 :: []) (st := [cb_i v]) (cb_csV (idx := 140) (na := 1) B ok_X10_fault wd_X10_fault (cb_tw (i := 1569) (by decide +kernel)) (cb_tw (i := 1570) (by decide +kernel)) (cb_tw (i := 1571) (by decide +kernel)) rc_X10_fault ⟨by decide, by decide⟩ (by decide +kernel)) rfl (show 1 ≤ 8 by decide) (by show k + 0 + 0 ≤ room_1.cells; omega) (by show n + 0 + 0 ≤ room_1.slots; omega) (by decide +kernel) (hl_m rfl rfl hK) (fun v2 a2 M2 hK => ?_) (fun _ _ _ h => h)
      obtain ⟨rfl, rfl, e0, -, hR2⟩ := hK
      refine cb_run cb_tb_ok vr_fault (cuts := [2738]) 20 ?_
      have h9 := h f _ hR2
      have w1 : k + 0 + 0 ≤ k + 8 := by omega
      have w2 : n + 0 + 0 ≤ n + 3252 := by omega
      exact And.intro (fun q1 => lw_back w1 w2 h9) (fun q1 => absurd rfl q1)
  · obtain ⟨-, c, hc, -⟩ := hK
    cases hc
def lr_right : List cb_O := [(858, .aload_n 1, 1, 0, 1, 0, 0),
  (862, .aload_n 2, 1, 0, 2, 0, 0),
  (866, .if_icmp .eq 1872, 3, 0, 2738, 0, 0),
  (869, .iconst 0, 1, 0, 0, 0, 0),
  (870, .ireturn, 1, 0, 0, 0, 0)]
set_option maxRecDepth 100000 in
theorem vr_right : (lw_D lr_right []).cd.all (cb_vE (lw_D lr_right [])) = true := by decide +kernel
theorem lc_right {L : Nat} {xs : Nat → Int32} {X : cb_X} {iv : Int32} {m k n : Nat} {f : Option Nat} {M : cb_M} (E : lw_E L xs X) (hv : lw_iv iv L) (hR : re_R M m) (hk : k + 8 ≤ room_1.cells) (hn : n + 3252 ≤ room_1.slots) (h : ∀ f' M', re_R M' m → cb_Gd cb_tb lw_0 X 2738 (lw_l iv) [] (cb_aS m, f') M' (k + 8) (n + 3252)) : cb_Gd cb_tb lw_0 X 858 (lw_l iv) [] (cb_aS m, f) M k n := by
  refine cb_Gd.same (cd := lr_right) (sw := []) (by decide) ?_
  have B := E.bs lr_right []
  refine cb_run cb_tb_ok vr_right (cuts := [859]) 20 ?_
  refine cl_call (K := fun o a' M' => a' = cb_ae o (cb_aS m, f) ∧ re_post re_c0 sp_X10_right [] m o M') (As := cb_r 0 0 :: []) (st := []) (cb_csV (idx := 166) (na := 1) B ok_X9_right wd_X9_right (cb_tw (i := 416) (by decide +kernel)) (cb_tw (i := 417) (by decide +kernel)) (cb_tw (i := 418) (by decide +kernel)) rc_X9_right ⟨by decide, by decide⟩ (by decide +kernel)) rfl (by decide) (by show k + 0 ≤ room_1.cells; omega) (by show n + 0 ≤ room_1.slots; omega) (by decide +kernel) (hl_wm rfl rfl (re_right hR)) (fun v a1 M1 hK => ?_) (fun x a1 M1 hK => ?_)
  · obtain ⟨rfl, hK⟩ := hK
    match v, hK with
    | some (.inl v), hK =>
      have hK := hK M1.2.2
      refine cb_run cb_tb_ok vr_right (cuts := [863]) 20 ?_
      refine cl_call (As := cb_r 46 0 :: []) (st := [cb_i v]) (cb_csV (idx := 169) (na := 1) B ok_X10_right wd_X10_right (cb_tw (i := 1670) (by decide +kernel)) (cb_tw (i := 1671) (by decide +kernel)) (cb_tw (i := 1672) (by decide +kernel)) rc_X10_right ⟨by decide, by decide⟩ (by decide +kernel)) rfl (show 1 ≤ 8 by decide) (by show k + 0 + 0 ≤ room_1.cells; omega) (by show n + 0 + 0 ≤ room_1.slots; omega) (by decide +kernel) (hl_m rfl rfl hK) (fun v2 a2 M2 hK => ?_) (fun _ _ _ h => h)
      obtain ⟨rfl, rfl, e0, -, hR2⟩ := hK
      refine cb_run cb_tb_ok vr_right (cuts := [2738]) 20 ?_
      have h9 := h f _ hR2
      have w1 : k + 0 + 0 ≤ k + 8 := by omega
      have w2 : n + 0 + 0 ≤ n + 3252 := by omega
      exact And.intro (fun q1 => lw_back w1 w2 h9) (fun q1 => absurd rfl q1)
  · obtain ⟨-, c, hc, -⟩ := hK
    cases hc
def lr_groups : List cb_O := [(871, .aload_n 1, 1, 0, 1, 0, 0),
  (875, .aload_n 2, 1, 0, 2, 0, 0),
  (879, .if_icmp .eq 1859, 3, 0, 2738, 0, 0),
  (882, .iconst 0, 1, 0, 0, 0, 0),
  (883, .ireturn, 1, 0, 0, 0, 0)]
set_option maxRecDepth 100000 in
theorem vr_groups : (lw_D lr_groups []).cd.all (cb_vE (lw_D lr_groups [])) = true := by decide +kernel
theorem lc_groups {L : Nat} {xs : Nat → Int32} {X : cb_X} {iv : Int32} {m k n : Nat} {f : Option Nat} {M : cb_M} (E : lw_E L xs X) (hv : lw_iv iv L) (hR : re_R M m) (hk : k + 8 ≤ room_1.cells) (hn : n + 3252 ≤ room_1.slots) (h : ∀ f' M', re_R M' m → cb_Gd cb_tb lw_0 X 2738 (lw_l iv) [] (cb_aS m, f') M' (k + 8) (n + 3252)) : cb_Gd cb_tb lw_0 X 871 (lw_l iv) [] (cb_aS m, f) M k n := by
  refine cb_Gd.same (cd := lr_groups) (sw := []) (by decide) ?_
  have B := E.bs lr_groups []
  refine cb_run cb_tb_ok vr_groups (cuts := [872]) 20 ?_
  refine cl_call (K := fun o a' M' => a' = cb_ae o (cb_aS m, f) ∧ re_post re_c0 sp_X10_groups [] m o M') (As := cb_r 0 0 :: []) (st := []) (cb_csV (idx := 170) (na := 1) B ok_X9_groups wd_X9_groups (cb_tw (i := 476) (by decide +kernel)) (cb_tw (i := 477) (by decide +kernel)) (cb_tw (i := 478) (by decide +kernel)) rc_X9_groups ⟨by decide, by decide⟩ (by decide +kernel)) rfl (by decide) (by show k + 0 ≤ room_1.cells; omega) (by show n + 0 ≤ room_1.slots; omega) (by decide +kernel) (hl_wm rfl rfl (re_groups hR)) (fun v a1 M1 hK => ?_) (fun x a1 M1 hK => ?_)
  · obtain ⟨rfl, hK⟩ := hK
    match v, hK with
    | some (.inl v), hK =>
      have hK := hK M1.2.2
      refine cb_run cb_tb_ok vr_groups (cuts := [876]) 20 ?_
      refine cl_call (As := cb_r 46 0 :: []) (st := [cb_i v]) (cb_csV (idx := 173) (na := 1) B ok_X10_groups wd_X10_groups (cb_tw (i := 1682) (by decide +kernel)) (cb_tw (i := 1683) (by decide +kernel)) (cb_tw (i := 1684) (by decide +kernel)) rc_X10_groups ⟨by decide, by decide⟩ (by decide +kernel)) rfl (show 1 ≤ 8 by decide) (by show k + 0 + 0 ≤ room_1.cells; omega) (by show n + 0 + 0 ≤ room_1.slots; omega) (by decide +kernel) (hl_m rfl rfl hK) (fun v2 a2 M2 hK => ?_) (fun _ _ _ h => h)
      obtain ⟨rfl, rfl, e0, -, hR2⟩ := hK
      refine cb_run cb_tb_ok vr_groups (cuts := [2738]) 20 ?_
      have h9 := h f _ hR2
      have w1 : k + 0 + 0 ≤ k + 8 := by omega
      have w2 : n + 0 + 0 ≤ n + 3252 := by omega
      exact And.intro (fun q1 => lw_back w1 w2 h9) (fun q1 => absurd rfl q1)
  · obtain ⟨-, c, hc, -⟩ := hK
    cases hc
def lr_bound : List cb_O := [(2502, .aload_n 1, 1, 0, 1, 0, 0),
  (2506, .aload_n 2, 1, 0, 2, 0, 0),
  (2510, .if_icmp .eq 228, 3, 0, 2738, 0, 0),
  (2513, .iconst 0, 1, 0, 0, 0, 0),
  (2514, .ireturn, 1, 0, 0, 0, 0)]
set_option maxRecDepth 100000 in
theorem vr_bound : (lw_D lr_bound []).cd.all (cb_vE (lw_D lr_bound [])) = true := by decide +kernel
theorem lc_bound {L : Nat} {xs : Nat → Int32} {X : cb_X} {iv : Int32} {m k n : Nat} {f : Option Nat} {M : cb_M} (E : lw_E L xs X) (hv : lw_iv iv L) (hR : re_R M m) (hk : k + 8 ≤ room_1.cells) (hn : n + 3252 ≤ room_1.slots) (h : ∀ f' M', re_R M' m → cb_Gd cb_tb lw_0 X 2738 (lw_l iv) [] (cb_aS m, f') M' (k + 8) (n + 3252)) : cb_Gd cb_tb lw_0 X 2502 (lw_l iv) [] (cb_aS m, f) M k n := by
  refine cb_Gd.same (cd := lr_bound) (sw := []) (by decide) ?_
  have B := E.bs lr_bound []
  refine cb_run cb_tb_ok vr_bound (cuts := [2503]) 20 ?_
  refine cl_call (K := fun o a' M' => a' = cb_ae o (cb_aS m, f) ∧ re_post re_c0 sp_X10_bound [] m o M') (As := cb_r 0 0 :: []) (st := []) (cb_csV (idx := 243) (na := 1) B ok_X9_bound wd_X9_bound (cb_tw (i := 517) (by decide +kernel)) (cb_tw (i := 518) (by decide +kernel)) (cb_tw (i := 519) (by decide +kernel)) rc_X9_bound ⟨by decide, by decide⟩ (by decide +kernel)) rfl (by decide) (by show k + 0 ≤ room_1.cells; omega) (by show n + 0 ≤ room_1.slots; omega) (by decide +kernel) (hl_wm rfl rfl (re_bound hR)) (fun v a1 M1 hK => ?_) (fun x a1 M1 hK => ?_)
  · obtain ⟨rfl, hK⟩ := hK
    match v, hK with
    | some (.inl v), hK =>
      have hK := hK M1.2.2
      refine cb_run cb_tb_ok vr_bound (cuts := [2507]) 20 ?_
      refine cl_call (As := cb_r 46 0 :: []) (st := [cb_i v]) (cb_csV (idx := 246) (na := 1) B ok_X10_bound wd_X10_bound (cb_tw (i := 1694) (by decide +kernel)) (cb_tw (i := 1695) (by decide +kernel)) (cb_tw (i := 1696) (by decide +kernel)) rc_X10_bound ⟨by decide, by decide⟩ (by decide +kernel)) rfl (show 1 ≤ 8 by decide) (by show k + 0 + 0 ≤ room_1.cells; omega) (by show n + 0 + 0 ≤ room_1.slots; omega) (by decide +kernel) (hl_m rfl rfl hK) (fun v2 a2 M2 hK => ?_) (fun _ _ _ h => h)
      obtain ⟨rfl, rfl, e0, -, hR2⟩ := hK
      refine cb_run cb_tb_ok vr_bound (cuts := [2738]) 20 ?_
      have h9 := h f _ hR2
      have w1 : k + 0 + 0 ≤ k + 8 := by omega
      have w2 : n + 0 + 0 ≤ n + 3252 := by omega
      exact And.intro (fun q1 => lw_back w1 w2 h9) (fun q1 => absurd rfl q1)
  · obtain ⟨-, c, hc, -⟩ := hK
    cases hc
def lr_count : List cb_O := [(2713, .aload_n 1, 1, 0, 1, 0, 0),
  (2723, .aload_n 2, 1, 0, 2, 0, 0),
  (2733, .if_icmp .eq 5, 3, 0, 2738, 0, 0),
  (2736, .iconst 0, 1, 0, 0, 0, 0),
  (2737, .ireturn, 1, 0, 0, 0, 0)]
set_option maxRecDepth 100000 in
theorem vr_count : (lw_D lr_count []).cd.all (cb_vE (lw_D lr_count [])) = true := by decide +kernel
theorem lc_count {L : Nat} {xs : Nat → Int32} {X : cb_X} {iv : Int32} {m k n : Nat} {f : Option Nat} {M : cb_M} (E : lw_E L xs X) (hv : lw_iv iv L) (hR : re_R M m) (hk : k + 8 ≤ room_1.cells) (hn : n + 3252 ≤ room_1.slots) (h : ∀ f' M', re_R M' m → cb_Gd cb_tb lw_0 X 2738 (lw_l iv) [] (cb_aS m, f') M' (k + 8) (n + 3252)) : cb_Gd cb_tb lw_0 X 2713 (lw_l iv) [] (cb_aS m, f) M k n := by
  refine cb_Gd.same (cd := lr_count) (sw := []) (by decide) ?_
  have B := E.bs lr_count []
  refine cb_run cb_tb_ok vr_count (cuts := [2714]) 20 ?_
  refine cl_arg E (ic := 1) (c := 1) rfl hv.2.1 (by decide +kernel) rfl rfl ?_
  refine cl_call (K := fun o a' M' => a' = cb_ae o (cb_aS m, f) ∧ re_post re_c0 sp_X10_count [cb_i (xs (iv + 1).toNatClampNeg)] m o M') (As := cb_r 0 0 :: [cb_i (xs (iv + 1).toNatClampNeg)]) (st := []) (cb_csV (idx := 261) (na := 2) B ok_X9_count wd_X9_count (cb_tw (i := 536) (by decide +kernel)) (cb_tw (i := 537) (by decide +kernel)) (cb_tw (i := 538) (by decide +kernel)) rc_X9_count ⟨by decide, by decide⟩ (by decide +kernel)) rfl (by decide) (by show k + 0 ≤ room_1.cells; omega) (by show n + 0 ≤ room_1.slots; omega) (by decide +kernel) (hl_wm rfl rfl (re_count hR _)) (fun v a1 M1 hK => ?_) (fun x a1 M1 hK => ?_)
  · obtain ⟨rfl, hK⟩ := hK
    match v, hK with
    | some (.inl v), hK =>
      have hK := hK M1.2.2
      refine cb_run cb_tb_ok vr_count (cuts := [2724]) 20 ?_
      refine cl_arg E (ic := 1) (c := 1) rfl hv.2.1 (by decide +kernel) rfl rfl ?_
      refine cl_call (As := cb_r 46 0 :: [cb_i (xs (iv + 1).toNatClampNeg)]) (st := [cb_i v]) (cb_csV (idx := 264) (na := 2) B ok_X10_count wd_X10_count (cb_tw (i := 1872) (by decide +kernel)) (cb_tw (i := 1873) (by decide +kernel)) (cb_tw (i := 1874) (by decide +kernel)) rc_X10_count ⟨by decide, by decide⟩ (by decide +kernel)) rfl (show 1 ≤ 8 by decide) (by show k + 0 + 0 ≤ room_1.cells; omega) (by show n + 0 + 0 ≤ room_1.slots; omega) (by decide +kernel) (hl_m rfl rfl hK) (fun v2 a2 M2 hK => ?_) (fun _ _ _ h => h)
      obtain ⟨rfl, rfl, e0, -, hR2⟩ := hK
      refine cb_run cb_tb_ok vr_count (cuts := [2738]) 20 ?_
      have h9 := h f _ hR2
      have w1 : k + 0 + 0 ≤ k + 8 := by omega
      have w2 : n + 0 + 0 ≤ n + 3252 := by omega
      exact And.intro (fun q1 => lw_back w1 w2 h9) (fun q1 => absurd rfl q1)
  · obtain ⟨-, c, hc, -⟩ := hK
    cases hc
def lr_image : List cb_O := [(2687, .aload_n 1, 1, 0, 1, 0, 0),
  (2691, .aload_n 2, 1, 0, 2, 0, 0),
  (2695, .if_icmp .eq 43, 3, 0, 2738, 0, 0),
  (2698, .iconst 0, 1, 0, 0, 0, 0),
  (2699, .ireturn, 1, 0, 0, 0, 0)]
set_option maxRecDepth 100000 in
theorem vr_image : (lw_D lr_image []).cd.all (cb_vE (lw_D lr_image [])) = true := by decide +kernel
theorem lc_image {L : Nat} {xs : Nat → Int32} {X : cb_X} {iv : Int32} {m k n : Nat} {f : Option Nat} {M : cb_M} (E : lw_E L xs X) (hv : lw_iv iv L) (hR : re_R M m) (hk : k + 8 ≤ room_1.cells) (hn : n + 3252 ≤ room_1.slots) (h : ∀ G', cb_alk X.G G' → ∀ m' f' M', re_R M' m' → cb_Gd cb_tb lw_0 (cb_wg X G') 2738 (lw_l iv) [] (cb_aS m', f') M' (k + 8) (n + 3252)) : cb_Gd cb_tb lw_0 X 2687 (lw_l iv) [] (cb_aS m, f) M k n := by
  refine cb_Gd.same (cd := lr_image) (sw := []) (by decide) ?_
  have hC := E.cx lr_image [] (by decide)
  refine cb_run cb_tb_ok vr_image (cuts := [2688]) 20 ?_
  refine cl_img (idx := 253) (st := []) (K := lw_KI) hC E.2.2.2.1 E.2.1 (cb_tw (i := 522) (by decide +kernel)) (cb_tw (i := 523) (by decide +kernel)) (cb_tw (i := 524) (by decide +kernel)) ⟨by decide, by decide⟩ (by decide) hk hn (by decide +kernel) rfl rfl lw_KIx (re_image hR) (fun G1 hG x a1 M1 hK => ?_) lw_KIi
  obtain ⟨m1, f1, rfl, hK⟩ := hK
  have B := (E.wg hG).bs lr_image []
  refine cb_run cb_tb_ok vr_image (cuts := [2692]) 20 ?_
  refine cl_call (As := [cb_r 46 0]) (st := [cb_i x]) (cb_csV (idx := 256) (na := 1) B ok_X10_image wd_X10_image (cb_tw (i := 1856) (by decide +kernel)) (cb_tw (i := 1857) (by decide +kernel)) (cb_tw (i := 1858) (by decide +kernel)) rc_X10_image ⟨by decide, by decide⟩ (by decide +kernel)) rfl (show 1 ≤ 8 by decide) (by show k + 8 + 0 ≤ room_1.cells; omega) (by show n + 3252 + 0 ≤ room_1.slots; omega) (by decide +kernel) (hl_m rfl rfl hK) (fun v2 a2 M2 hK => ?_) (fun _ _ _ h => h)
  obtain ⟨rfl, rfl, hR2⟩ := hK
  refine cb_run cb_tb_ok vr_image (cuts := [2738]) 20 ?_
  exact And.intro (fun q1 => lw_back (Nat.le_refl _) (Nat.le_refl _) (h G1 hG m1 f1 _ hR2)) (fun q1 => absurd rfl q1)
def lr_restore : List cb_O := [(2700, .aload_n 1, 1, 0, 1, 0, 0),
  (2704, .aload_n 2, 1, 0, 2, 0, 0),
  (2708, .if_icmp .eq 30, 3, 0, 2738, 0, 0),
  (2711, .iconst 0, 1, 0, 0, 0, 0),
  (2712, .ireturn, 1, 0, 0, 0, 0)]
set_option maxRecDepth 100000 in
theorem vr_restore : (lw_D lr_restore []).cd.all (cb_vE (lw_D lr_restore [])) = true := by decide +kernel
theorem lc_restore {L : Nat} {xs : Nat → Int32} {X : cb_X} {iv : Int32} {m k n : Nat} {f : Option Nat} {M : cb_M} (E : lw_E L xs X) (hv : lw_iv iv L) (hR : re_R M m) (hk : k + 8 ≤ room_1.cells) (hn : n + 3252 ≤ room_1.slots) (h : ∀ f' M', re_R M' m → cb_Gd cb_tb lw_0 X 2738 (lw_l iv) [] (cb_aS m, f') M' (k + 8) (n + 3252)) : cb_Gd cb_tb lw_0 X 2700 (lw_l iv) [] (cb_aS m, f) M k n := by
  refine cb_Gd.same (cd := lr_restore) (sw := []) (by decide) ?_
  have B := E.bs lr_restore []
  refine cb_run cb_tb_ok vr_restore (cuts := [2701]) 20 ?_
  refine cl_call (K := lw_KS m f) (As := [cb_r 0 0]) (st := []) (cb_csV (idx := 257) (na := 1) B ok_X9_restore wd_X9_restore (cb_tw (i := 532) (by decide +kernel)) (cb_tw (i := 533) (by decide +kernel)) (cb_tw (i := 534) (by decide +kernel)) rc_X9_restore ⟨by decide, by decide⟩ (by decide +kernel)) rfl (by decide) (by show k + 0 ≤ room_1.cells; omega) (by show n + 0 ≤ room_1.slots; omega) (by decide +kernel) (re_restore hR) (fun v a1 M1 hK => ?_) (fun _ _ _ h => h)
  match v, hK with
  | some (.inl v), hS =>
    obtain ⟨rfl, hS⟩ := hS
    refine cb_run cb_tb_ok vr_restore (cuts := [2705]) 20 ?_
    refine cl_call (As := [cb_r 46 0]) (st := [cb_i v]) (cb_csV (idx := 260) (na := 1) B ok_X10_restore wd_X10_restore (cb_tw (i := 1868) (by decide +kernel)) (cb_tw (i := 1869) (by decide +kernel)) (cb_tw (i := 1870) (by decide +kernel)) rc_X10_restore ⟨by decide, by decide⟩ (by decide +kernel)) rfl (show 1 ≤ 8 by decide) (by show k + 0 + 0 ≤ room_1.cells; omega) (by show n + 0 + 0 ≤ room_1.slots; omega) (by decide +kernel) (hl_m rfl rfl hS) (fun v2 a2 M2 hK => ?_) (fun _ _ _ h => h)
    obtain ⟨rfl, rfl, hR2⟩ := hK
    refine cb_run cb_tb_ok vr_restore (cuts := [2738]) 20 ?_
    have w1 : k + 0 + 0 ≤ k + 8 := by omega
    have w2 : n + 0 + 0 ≤ n + 3252 := by omega
    exact And.intro (fun q1 => lw_back w1 w2 (h f _ hR2)) (fun q1 => absurd rfl q1)
