/-! ===== the law's loop ===== -/
def lr_loop : List cb_O := [(23, .iload 4, 2, 0, 4, 0, 0),
  (25, .aload_n 0, 1, 0, 0, 0, 0),
  (27, .bipush 6, 2, 6, 0, 0, 0),
  (29, .isub, 1, 0, 0, 0, 0),
  (30, .if_icmp .gt 2714, 3, 0, 2744, 0, 0),
  (33, .aload_n 0, 1, 0, 0, 0, 0),
  (34, .iload 4, 2, 0, 4, 0, 0),
  (37, .bipush 63, 2, 63, 0, 0, 0),
  (39, .iand, 1, 0, 0, 0, 0),
  (40, .tableswitch 2698 0 40 #[180, 253, 309, 322, 378, 446, 514, 582, 638, 694, 750, 818, 831, 844, 912, 980, 1048, 1111, 1179, 1271, 1339, 1395, 1475, 1579, 1659, 1727, 1783, 1858, 1938, 2030, 2122, 2178, 2246, 2338, 2406, 2462, 2475, 2555, 2647, 2660, 2673], 180, 0, 0, 0, 0),
  (2738, .iinc 4 6, 3, 6, 4, 0, 0),
  (2741, .goto (-2718), 3, 0, 23, 0, 0),
  (2744, .iconst 1, 1, 1, 0, 0, 0),
  (2745, .ireturn, 1, 0, 0, 0, 0)]
def ls_loop : List (Nat × List (Int32 × Nat) × Nat) := [(40, [(0, 220), (1, 293), (2, 349), (3, 362), (4, 418), (5, 486), (6, 554), (7, 622), (8, 678), (9, 734), (10, 790), (11, 858), (12, 871), (13, 884), (14, 952), (15, 1020), (16, 1088), (17, 1151), (18, 1219), (19, 1311), (20, 1379), (21, 1435), (22, 1515), (23, 1619), (24, 1699), (25, 1767), (26, 1823), (27, 1898), (28, 1978), (29, 2070), (30, 2162), (31, 2218), (32, 2286), (33, 2378), (34, 2446), (35, 2502), (36, 2515), (37, 2595), (38, 2687), (39, 2700), (40, 2713)], 2738)]
set_option maxRecDepth 100000 in
theorem vr_loop : (lw_D lr_loop ls_loop).cd.all (cb_vE (lw_D lr_loop ls_loop)) = true := by decide +kernel
theorem lw_cmp {L i : Nat} (hL : L ≤ 4000) (hi : i ≤ 4000) : (nI L - 6 < nI i) ↔ L < i + 6 := by
  have e6 : (6 : Int32).toInt = 6 := by decide
  rw [Int32.lt_iff_toInt_lt, Int32.toInt_sub, nI_toInt (by omega), nI_toInt (by omega), e6, Int.bmod_eq_of_le (by omega) (by omega)]
  omega
theorem lw_iv_nI {L i : Nat} (hL : L ≤ 4000) (h : i + 6 ≤ L) : lw_iv (nI i) L := by
  have e : ∀ c, c ≤ 5 → vp_in (nI i + nI c) L := fun c hc => by
    rw [nI_add]
    exact vp_in_nI (by omega) (by omega)
  exact ⟨vp_in_nI (by omega) (by omega), e 1 (by decide), e 2 (by decide), e 3 (by decide), e 4 (by decide), e 5 (by decide)⟩
theorem lw_end {L : Nat} {xs : Nat → Int32} {X : cb_X} (E : lw_E L xs X) (a : cb_A) (M : cb_M) : X.K (.inl (some (cb_i 1))) a M := by
  have e : X.K = lw_K := E.2.2.2.2.2
  rw [e]
  rfl
theorem lw_loop {L : Nat} {xs : Nat → Int32} (hL : L ≤ 3072) : ∀ (w : Nat) {X : cb_X} {i m k n : Nat} {f : Option Nat} {M : cb_M}, lw_E L xs X → i ≤ 3080 → L < i + 6 * w + 6 → k + 8 * w ≤ room_1.cells → n + 3252 * w ≤ room_1.slots → re_R M m → cb_Gd cb_tb lw_0 X 23 (lw_l (nI i)) [] (cb_aS m, f) M k n
  | 0, X, i, m, k, n, f, M, E, hi, hw, hk, hn, hR => by
    refine cb_Gd.same (cd := lr_loop) (sw := ls_loop) (by decide) ?_
    refine cb_run cb_tb_ok vr_loop (cuts := [26]) 20 ?_
    refine cl_len E.1 (by decide +kernel) ?_
    refine cb_run cb_tb_ok vr_loop (cuts := [33]) 20 ?_
    refine And.intro (fun q => And.intro (Or.inr rfl) (cb_ck.of (Nat.ble_eq_true_of_le (show k ≤ room_1.cells by omega)) (cb_ck.of (Nat.ble_eq_true_of_le (show n ≤ room_1.slots by omega)) (lw_end E _ _)))) (fun q => absurd ((lw_cmp (by omega) (by omega)).mpr (by omega)) q)
  | w + 1, X, i, m, k, n, f, M, E, hi, hw, hk, hn, hR => by
    refine cb_Gd.same (cd := lr_loop) (sw := ls_loop) (by decide) ?_
    refine cb_run cb_tb_ok vr_loop (cuts := [26]) 20 ?_
    refine cl_len E.1 (by decide +kernel) ?_
    refine cb_run cb_tb_ok vr_loop (cuts := [33]) 20 ?_
    refine And.intro (fun q => And.intro (Or.inr rfl) (cb_ck.of (Nat.ble_eq_true_of_le (show k ≤ room_1.cells by omega)) (cb_ck.of (Nat.ble_eq_true_of_le (show n ≤ room_1.slots by omega)) (lw_end E _ _)))) (fun q => ?_)
    have q1 : i + 6 ≤ L := Nat.le_of_not_lt fun e => q ((lw_cmp (by omega) (by omega)).mpr e)
    have hv : lw_iv (nI i) L := lw_iv_nI (by omega) q1
    have hb : ∀ {X' : cb_X}, lw_E L xs X' → ∀ (m' : Nat) (f' : Option Nat) (M' : cb_M) (k' n' : Nat), k' ≤ k + 8 → n' ≤ n + 3252 → re_R M' m' → cb_Gd cb_tb lw_0 X' 2738 (lw_l (nI i)) [] (cb_aS m', f') M' k' n' := fun {X'} E' m' f' M' k' n' hk' hn' hR' => by
      refine cb_Gd.same (cd := lr_loop) (sw := ls_loop) (by decide) ?_
      refine cb_run cb_tb_ok vr_loop (cuts := [23]) 20 ?_
      have g := lw_loop hL w (X := X') (i := i + 6) (f := f') (k := k') (n := n') E' (show i + 6 ≤ 3080 by omega) (show L < i + 6 + 6 * w + 6 by omega) (show k' + 8 * w ≤ room_1.cells by omega) (show n' + 3252 * w ≤ room_1.slots by omega) hR'
      have s6 : nI 6 = 6 := by decide
      have e6 : nI (i + 6) = nI i + 6 := by rw [← nI_add, s6]
      rw [e6] at g
      exact cb_Gd.same (cd := []) (sw := []) rfl g
    have hk8 : k + 8 ≤ room_1.cells := by omega
    have hn8 : n + 3252 ≤ room_1.slots := Nat.le_trans (Nat.add_le_add_left (Nat.le_mul_of_pos_right 3252 (Nat.succ_pos w)) n) hn
    have h : ∀ f' M', re_R M' m → cb_Gd cb_tb lw_0 X 2738 (lw_l (nI i)) [] (cb_aS m, f') M' (k + 8) (n + 3252) := fun f' M' hR' => hb E m f' M' _ _ (Nat.le_refl _) (Nat.le_refl _) hR'
    refine cb_run cb_tb_ok vr_loop (cuts := [36]) 20 ?_
    refine cl_ald E.1 hv.1 (by decide +kernel) ?_
    refine cb_run cb_tb_ok vr_loop (cuts := [220, 293, 349, 362, 418, 486, 554, 622, 678, 734, 790, 858, 871, 884, 952, 1020, 1088, 1151, 1219, 1311, 1379, 1435, 1515, 1619, 1699, 1767, 1823, 1898, 1978, 2070, 2162, 2218, 2286, 2378, 2446, 2502, 2515, 2595, 2687, 2700, 2713, 2738]) 20 ?_
    refine And.intro (fun _ => cb_Gd.same (cd := []) (sw := []) rfl (lc_feed E hv hR hk8 hn8 h)) (fun _ => ?_)
    refine And.intro (fun _ => cb_Gd.same (cd := []) (sw := []) rfl (lc_wall E hv hR hk8 hn8 h)) (fun _ => ?_)
    refine And.intro (fun _ => cb_Gd.same (cd := []) (sw := []) rfl (lc_fault E hv hR hk8 hn8 h)) (fun _ => ?_)
    refine And.intro (fun _ => cb_Gd.same (cd := []) (sw := []) rfl (lc_told E hv hR hk8 hn8 h)) (fun _ => ?_)
    refine And.intro (fun _ => cb_Gd.same (cd := []) (sw := []) rfl (lc_clock E hv hR hk8 hn8 h)) (fun _ => ?_)
    refine And.intro (fun _ => cb_Gd.same (cd := []) (sw := []) rfl (lc_hearing E hv hR hk8 hn8 h)) (fun _ => ?_)
    refine And.intro (fun _ => cb_Gd.same (cd := []) (sw := []) rfl (lc_apart E hv hR hk8 hn8 h)) (fun _ => ?_)
    refine And.intro (fun _ => cb_Gd.same (cd := []) (sw := []) rfl (lc_pull E hv hR hk8 hn8 h)) (fun _ => ?_)
    refine And.intro (fun _ => cb_Gd.same (cd := []) (sw := []) rfl (lc_days E hv hR hk8 hn8 h)) (fun _ => ?_)
    refine And.intro (fun _ => cb_Gd.same (cd := []) (sw := []) rfl (lc_undo E hv hR hk8 hn8 h)) (fun _ => ?_)
    refine And.intro (fun _ => cb_Gd.same (cd := []) (sw := []) rfl (lc_step E hv hR hk8 hn8 h)) (fun _ => ?_)
    refine And.intro (fun _ => cb_Gd.same (cd := []) (sw := []) rfl (lc_right E hv hR hk8 hn8 h)) (fun _ => ?_)
    refine And.intro (fun _ => cb_Gd.same (cd := []) (sw := []) rfl (lc_groups E hv hR hk8 hn8 h)) (fun _ => ?_)
    refine And.intro (fun _ => cb_Gd.same (cd := []) (sw := []) rfl (lc_off E hv hR hk8 hn8 h)) (fun _ => ?_)
    refine And.intro (fun _ => cb_Gd.same (cd := []) (sw := []) rfl (lc_hang E hv hR hk8 hn8 h)) (fun _ => ?_)
    refine And.intro (fun _ => cb_Gd.same (cd := []) (sw := []) rfl (lc_hook E hv hR hk8 hn8 h)) (fun _ => ?_)
    refine And.intro (fun _ => cb_Gd.same (cd := []) (sw := []) rfl (lc_standing E hv hR hk8 hn8 h)) (fun _ => ?_)
    refine And.intro (fun _ => cb_Gd.same (cd := []) (sw := []) rfl (lc_pushed E hv hR hk8 hn8 h)) (fun _ => ?_)
    refine And.intro (fun _ => cb_Gd.same (cd := []) (sw := []) rfl (lc_beginnings E hv hR hk8 hn8 h)) (fun _ => ?_)
    refine And.intro (fun _ => cb_Gd.same (cd := []) (sw := []) rfl (lc_away E hv hR hk8 hn8 h)) (fun _ => ?_)
    refine And.intro (fun _ => cb_Gd.same (cd := []) (sw := []) rfl (lc_hold E hv hR hk8 hn8 h)) (fun _ => ?_)
    refine And.intro (fun _ => cb_Gd.same (cd := []) (sw := []) rfl (lc_hung E hv hR hk8 hn8 h)) (fun _ => ?_)
    refine And.intro (fun _ => cb_Gd.same (cd := []) (sw := []) rfl (lc_own E hv hR hk8 hn8 h)) (fun _ => ?_)
    refine And.intro (fun _ => cb_Gd.same (cd := []) (sw := []) rfl (lc_look E hv hR hk8 hn8 h)) (fun _ => ?_)
    refine And.intro (fun _ => cb_Gd.same (cd := []) (sw := []) rfl (lc_book E hv hR hk8 hn8 h)) (fun _ => ?_)
    refine And.intro (fun _ => cb_Gd.same (cd := []) (sw := []) rfl (lc_infected E hv hR hk8 hn8 h)) (fun _ => ?_)
    refine And.intro (fun _ => cb_Gd.same (cd := []) (sw := []) rfl (lc_fraud E hv hR hk8 hn8 h)) (fun _ => ?_)
    refine And.intro (fun _ => cb_Gd.same (cd := []) (sw := []) rfl (lc_stays E hv hR hk8 hn8 h)) (fun _ => ?_)
    refine And.intro (fun _ => cb_Gd.same (cd := []) (sw := []) rfl (lc_drawn E hv hR hk8 hn8 h)) (fun _ => ?_)
    refine And.intro (fun _ => cb_Gd.same (cd := []) (sw := []) rfl (lc_comes E hv hR hk8 hn8 h)) (fun _ => ?_)
    refine And.intro (fun _ => cb_Gd.same (cd := []) (sw := []) rfl (lc_leader E hv hR hk8 hn8 h)) (fun _ => ?_)
    refine And.intro (fun _ => cb_Gd.same (cd := []) (sw := []) rfl (lc_better E hv hR hk8 hn8 h)) (fun _ => ?_)
    refine And.intro (fun _ => cb_Gd.same (cd := []) (sw := []) rfl (lc_wanted E hv hR hk8 hn8 h)) (fun _ => ?_)
    refine And.intro (fun _ => cb_Gd.same (cd := []) (sw := []) rfl (lc_sale E hv hR hk8 hn8 h)) (fun _ => ?_)
    refine And.intro (fun _ => cb_Gd.same (cd := []) (sw := []) rfl (lc_honest E hv hR hk8 hn8 h)) (fun _ => ?_)
    refine And.intro (fun _ => cb_Gd.same (cd := []) (sw := []) rfl (lc_bound E hv hR hk8 hn8 h)) (fun _ => ?_)
    refine And.intro (fun _ => cb_Gd.same (cd := []) (sw := []) rfl (lc_winter E hv hR hk8 hn8 h)) (fun _ => ?_)
    refine And.intro (fun _ => cb_Gd.same (cd := []) (sw := []) rfl (lc_winters E hv hR hk8 hn8 h)) (fun _ => ?_)
    refine And.intro (fun _ => cb_Gd.same (cd := []) (sw := []) rfl (lc_image E hv hR hk8 hn8 (fun G' hG m' f' M' hR' => hb (E.wg hG) m' f' M' _ _ (Nat.le_refl _) (Nat.le_refl _) hR'))) (fun _ => ?_)
    refine And.intro (fun _ => cb_Gd.same (cd := []) (sw := []) rfl (lc_restore E hv hR hk8 hn8 h)) (fun _ => ?_)
    refine And.intro (fun _ => cb_Gd.same (cd := []) (sw := []) rfl (lc_count E hv hR hk8 hn8 h)) (fun _ => ?_)
    exact cb_Gd.same (cd := []) (sw := []) rfl (hb E m f M _ _ (by omega) (by omega) hR)
