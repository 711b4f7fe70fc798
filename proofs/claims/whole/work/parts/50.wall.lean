/-! ===== the whole text; wall ===== -/
/-- what a plan that is read holds -/
def rd_W (A : rd_P) : Prop := rd_C A ∧ (∀ b, b < A.nb → ∃ k, 1 ≤ k ∧ k ≤ 9 ∧ A.th b = nI k) ∧
  (∀ i, i < A.n → vp_in (A.c.1 i) A.nb ∧ vp_in (A.c.2.1 i) 20 ∧ (∃ k, k ≤ 200 ∧ A.c.2.2.1 i = nI k - 100) ∧ (∃ k, 1 ≤ k ∧ k ≤ 20 ∧ A.c.2.2.2.1 i = nI k) ∧ (∃ k, k ≤ 4 ∧ A.c.2.2.2.2.1 i = nI k) ∧ ∃ k, k ≤ 999 ∧ A.c.2.2.2.2.2 i = nI k) ∧
  (∀ i, i < 8 → ∃ k, 1 ≤ k ∧ k ≤ 30 ∧ A.ky i = nI k) ∧ (∀ l, l < A.h → vp_in (A.hk.1 l) A.nb ∧ vp_in (A.hk.2 l) 20) ∧ (∀ x, x < 64 → ∃ k, k ≤ 99 ∧ A.he x = nI k) ∧ (∀ x, x < 400 → ∃ k, k ≤ 50 ∧ A.dp x = nI k) ∧ (∃ s, s < 2 ^ A.n ∧ A.so = nI s) ∧ ∃ k, k ≤ 499 ∧ A.w = nI k
theorem rd_b_inv {α β : Type} {x : rd_X ⊕ α} {f : α → rd_X ⊕ β} {y : β} (h : rd_b x f = .inr y) : ∃ a, x = .inr a ∧ f a = .inr y := by
  unfold rd_b at h
  split at h
  · cases h
  · exact ⟨_, rfl, h⟩
theorem rd_up_all {p : Int32 → Prop} {f : wm_F} {k n : Nat} {v : Int32} (hv : p v) (h : ∀ a, a < n → ¬ a = k → p (f a)) : ∀ a, a < n → p (rd_up f k v a) := fun a ha => by
  by_cases e : a = k
  · rw [e, rd_up_eq]; exact hv
  · rw [rd_up_ne e]; exact h a ha e
theorem rd_num_nI {tx : wm_F} {len at_ : Nat} {lo hi : Nat} {r : Int32 × Nat × Nat} (h : rd_num tx len (nI lo) (nI hi) at_ = .inr r) (hh : hi < 2 ^ 31) (hl : lo ≤ hi) : ∃ k, lo ≤ k ∧ k ≤ hi ∧ r.1 = nI k := by
  obtain ⟨w, e, b⟩ := r
  exact rd_rng hh hl (rd_num_in h)
theorem rd_num_ix {tx : wm_F} {len at_ m : Nat} {r : Int32 × Nat × Nat} (h : rd_num tx len 0 (nI m - 1) at_ = .inr r) (hm : m ≤ 8) : ∃ k, k < m ∧ r.1 = nI k := by
  obtain ⟨w, e, b⟩ := r
  exact rd_idx hm (rd_num_in h)
theorem rd_plc_in {tx : wm_F} {len at_ : Nat} {A : rd_P} {b : Int32} {r : Int32 × Nat × Nat} (h : rd_plc tx len A b at_ = .inr r) : ∃ k, k < 20 ∧ r.1 = nI k := by
  unfold rd_plc at h
  obtain ⟨p, h1, h2⟩ := rd_b_inv h
  split at h2
  · cases h2
  · cases h2
    obtain ⟨k, -, hk, e⟩ := rd_num_nI (lo := 0) (hi := 19) h1 (by decide) (by decide)
    exact ⟨k, by omega, e⟩
theorem vp_in_mono {x : Int32} {a b : Nat} (h : vp_in x a) (hab : a ≤ b) : vp_in x b := fun w => h (w.imp id (fun w => Nat.le_trans hab w))
theorem rd_or_bit : ∀ i, i < 8 → ∀ s, s < 256 → nI s ||| (1 : Int32) <<< (nI i &&& 31) = nI (s ||| 2 ^ i) := by decide +kernel
theorem rd_cl_W {tx : wm_F} {len j at_ : Nat} {A A' : rd_P} {e : Nat} (hW : rd_W A) (hm : rd_many j A = false) (h : rd_cl tx len j A at_ = .inr (A', e)) : rd_W A' := by
  obtain ⟨hC, hth, hc, hky, hhk, hhe, hdp, ⟨s, hs, hso⟩, hw⟩ := hW
  obtain ⟨c1, c2, c3⟩ := id hC
  unfold rd_cl at h
  unfold rd_many at hm
  have hpw : ∀ a b, a ≤ b → 2 ^ a ≤ 2 ^ b := fun a b q => Nat.pow_le_pow_right (by omega) q
  split at h
  · rename_i e0
    rw [if_pos e0] at hm
    have hm : A.nb < 4 := by simpa using hm
    unfold rd_c0 at h
    obtain ⟨r, h1, h⟩ := rd_b_inv h
    obtain ⟨e2, -, h⟩ := rd_b_inv h
    cases h
    refine ⟨⟨by show A.nb + 1 ≤ 4; omega, c2, c3⟩, ?_, fun i hi => ?_, hky, fun l hl => ?_, hhe, hdp, ⟨s, hs, hso⟩, hw⟩
    · exact rd_up_all (p := fun v => ∃ k, 1 ≤ k ∧ k ≤ 9 ∧ v = nI k) (rd_num_nI (lo := 1) (hi := 9) h1 (by decide) (by decide)) (fun a ha q => hth a (by have : a < A.nb + 1 := ha; omega))
    · exact ⟨vp_in_mono (hc i hi).1 (Nat.le_succ _), (hc i hi).2⟩
    · exact ⟨vp_in_mono (hhk l hl).1 (Nat.le_succ _), (hhk l hl).2⟩
  · rename_i e0
    rw [if_neg e0] at hm
    split at h
    · rename_i e1
      rw [if_pos e1] at hm
      have hm : A.n < 8 := by simpa using hm
      unfold rd_c1 at h
      obtain ⟨r1, h1, h⟩ := rd_b_inv h
      obtain ⟨r2, h2, h⟩ := rd_b_inv h
      obtain ⟨r3, h3, h⟩ := rd_b_inv h
      obtain ⟨r4, h4, h⟩ := rd_b_inv h
      obtain ⟨r5, h5, h⟩ := rd_b_inv h
      obtain ⟨r6, h6, h⟩ := rd_b_inv h
      obtain ⟨e2, -, h⟩ := rd_b_inv h
      cases h
      have lt : ∀ {a}, a < A.n + 1 → ¬ a = A.n → a < A.n := fun h1 h2 => by omega
      refine ⟨⟨c1, by show A.n + 1 ≤ 8; omega, c3⟩, hth, fun i hi => ⟨?_, ?_, ?_, ?_, ?_, ?_⟩, hky, hhk, hhe, hdp, ⟨s, Nat.lt_of_lt_of_le hs (hpw _ _ (Nat.le_succ _)), hso⟩, hw⟩
      · obtain ⟨k, hk, ek⟩ := rd_num_ix h1 (by omega)
        exact rd_up_all (p := fun v => vp_in v A.nb) (by rw [ek]; exact vp_in_nI hk (by omega)) (fun a ha q => (hc a (lt ha q)).1) i hi
      · obtain ⟨k, hk, ek⟩ := rd_plc_in h2
        exact rd_up_all (p := fun v => vp_in v 20) (by rw [ek]; exact vp_in_nI hk (by decide)) (fun a ha q => (hc a (lt ha q)).2.1) i hi
      · obtain ⟨k, -, hk, ek⟩ := rd_num_nI (lo := 0) (hi := 200) h3 (by decide) (by decide)
        exact rd_up_all (p := fun v => ∃ k, k ≤ 200 ∧ v = nI k - 100) ⟨k, hk, by rw [ek]⟩ (fun a ha q => (hc a (lt ha q)).2.2.1) i hi
      · exact rd_up_all (p := fun v => ∃ k, 1 ≤ k ∧ k ≤ 20 ∧ v = nI k) (rd_num_nI (lo := 1) (hi := 20) h4 (by decide) (by decide)) (fun a ha q => (hc a (lt ha q)).2.2.2.1) i hi
      · obtain ⟨k, -, hk, ek⟩ := rd_num_nI (lo := 0) (hi := 4) h5 (by decide) (by decide)
        exact rd_up_all (p := fun v => ∃ k, k ≤ 4 ∧ v = nI k) ⟨k, hk, ek⟩ (fun a ha q => (hc a (lt ha q)).2.2.2.2.1) i hi
      · obtain ⟨k, -, hk, ek⟩ := rd_num_nI (lo := 0) (hi := 999) h6 (by decide) (by decide)
        exact rd_up_all (p := fun v => ∃ k, k ≤ 999 ∧ v = nI k) ⟨k, hk, ek⟩ (fun a ha q => (hc a (lt ha q)).2.2.2.2.2) i hi
    · rename_i e1
      rw [if_neg e1] at hm
      split at h
      · rename_i e2
        rw [if_pos e2] at hm
        have hm : A.h < 6 := by simpa using hm
        unfold rd_c2 at h
        obtain ⟨r1, h1, h⟩ := rd_b_inv h
        obtain ⟨r2, h2, h⟩ := rd_b_inv h
        obtain ⟨e2, -, h⟩ := rd_b_inv h
        cases h
        have lt : ∀ {a}, a < A.h + 1 → ¬ a = A.h → a < A.h := fun h1 h2 => by omega
        refine ⟨⟨c1, c2, by show A.h + 1 ≤ 6; omega⟩, hth, hc, hky, fun i hi => ⟨?_, ?_⟩, hhe, hdp, ⟨s, hs, hso⟩, hw⟩
        · obtain ⟨k, hk, ek⟩ := rd_num_ix h1 (by omega)
          exact rd_up_all (p := fun v => vp_in v A.nb) (by rw [ek]; exact vp_in_nI hk (by omega)) (fun a ha q => (hhk a (lt ha q)).1) i hi
        · obtain ⟨k, hk, ek⟩ := rd_plc_in h2
          exact rd_up_all (p := fun v => vp_in v 20) (by rw [ek]; exact vp_in_nI hk (by decide)) (fun a ha q => (hhk a (lt ha q)).2) i hi
      · split at h
        · unfold rd_c3 at h
          obtain ⟨r1, h1, h⟩ := rd_b_inv h
          obtain ⟨r2, h2, h⟩ := rd_b_inv h
          split at h
          · cases h
          · obtain ⟨r3, h3, h⟩ := rd_b_inv h
            obtain ⟨e2, -, h⟩ := rd_b_inv h
            cases h
            obtain ⟨k, -, hk, ek⟩ := rd_num_nI (lo := 0) (hi := 99) h3 (by decide) (by decide)
            exact ⟨hC, hth, hc, hky, hhk, rd_up_all (p := fun v => ∃ k, k ≤ 99 ∧ v = nI k) ⟨k, hk, ek⟩ (fun a ha _ => hhe a ha), hdp, ⟨s, hs, hso⟩, hw⟩
        · split at h
          · unfold rd_c4 at h
            obtain ⟨r1, h1, h⟩ := rd_b_inv h
            obtain ⟨r2, h2, h⟩ := rd_b_inv h
            obtain ⟨e2, -, h⟩ := rd_b_inv h
            cases h
            obtain ⟨k, -, hk, ek⟩ := rd_num_nI (lo := 0) (hi := 50) h2 (by decide) (by decide)
            exact ⟨hC, hth, hc, hky, hhk, hhe, rd_up_all (p := fun v => ∃ k, k ≤ 50 ∧ v = nI k) ⟨k, hk, ek⟩ (fun a ha _ => hdp a ha), ⟨s, hs, hso⟩, hw⟩
          · split at h
            · unfold rd_c5 at h
              obtain ⟨r1, h1, h⟩ := rd_b_inv h
              obtain ⟨r2, h2, h⟩ := rd_b_inv h
              obtain ⟨e2, -, h⟩ := rd_b_inv h
              cases h
              exact ⟨hC, hth, hc, rd_up_all (p := fun v => ∃ k, 1 ≤ k ∧ k ≤ 30 ∧ v = nI k) (rd_num_nI (lo := 1) (hi := 30) h2 (by decide) (by decide)) (fun a ha _ => hky a ha), hhk, hhe, hdp, ⟨s, hs, hso⟩, hw⟩
            · split at h
              · unfold rd_c6 at h
                obtain ⟨r1, h1, h⟩ := rd_b_inv h
                obtain ⟨e2, -, h⟩ := rd_b_inv h
                cases h
                obtain ⟨k, hk, ek⟩ := rd_num_ix h1 c2
                have h8 : 2 ^ A.n ≤ 2 ^ 8 := hpw _ _ c2
                refine ⟨hC, hth, hc, hky, hhk, hhe, hdp, ⟨s ||| 2 ^ k, ?_, ?_⟩, hw⟩
                · exact Nat.or_lt_two_pow hs (Nat.pow_lt_pow_right (by decide) hk)
                · show A.so ||| (1 : Int32) <<< (r1.1 &&& 31) = _
                  rw [hso, ek]
                  exact rd_or_bit k (by omega) s (by omega)
              · unfold rd_c7 at h
                obtain ⟨r1, h1, h⟩ := rd_b_inv h
                obtain ⟨e2, -, h⟩ := rd_b_inv h
                cases h
                obtain ⟨k, -, hk, ek⟩ := rd_num_nI (lo := 0) (hi := 499) h1 (by decide) (by decide)
                exact ⟨hC, hth, hc, hky, hhk, hhe, hdp, ⟨s, hs, hso⟩, k, hk, ek⟩
/-- a clause -/
def rd_clause (tx : wm_F) (len : Nat) (A : rd_P) (cnt at_ : Nat) : rd_X ⊕ (rd_P × Nat) := match rd_w tx at_ (rd_end (rd_ls tx) len at_) with
  | none => .inl (1, at_)
  | some j => if 60 ≤ cnt ∨ rd_many j A = true then .inl (3, at_) else rd_cl tx len j A (rd_end (rd_ls tx) len at_)
def rd_loop (tx : wm_F) (len : Nat) : Nat → rd_P → Nat → Nat → rd_X ⊕ rd_P
  | 0, A, _, _ => .inr A
  | f + 1, A, cnt, at_ => if len ≤ rd_end (rd_bl tx) len at_ then .inr A else rd_b (rd_clause tx len A cnt (rd_end (rd_bl tx) len at_)) fun r => rd_loop tx len f r.1 (cnt + 1) r.2
theorem rd_clause_W {tx : wm_F} {len cnt at_ : Nat} {A A' : rd_P} {e : Nat} (hW : rd_W A) (h : rd_clause tx len A cnt at_ = .inr (A', e)) : rd_W A' := by
  unfold rd_clause at h
  split at h
  · cases h
  · split at h
    · cases h
    · rename_i q
      exact rd_cl_W hW (by cases z : rd_many _ A with | false => rfl | true => exact absurd (Or.inr z) q) h
theorem rd_loop_W {tx : wm_F} {len : Nat} : ∀ {f : Nat} {A A' : rd_P} {cnt at_ : Nat}, rd_W A → rd_loop tx len f A cnt at_ = .inr A' → rd_W A'
  | 0, A, A', _, _, hW, h => by
    cases h
    exact hW
  | f + 1, A, A', cnt, at_, hW, h => by
    unfold rd_loop at h
    split at h
    · cases h
      exact hW
    · obtain ⟨r, h1, h2⟩ := rd_b_inv h
      obtain ⟨A2, e2⟩ := r
      exact rd_loop_W (rd_clause_W hW h1) h2
theorem rd_q_trans {M M' M9 : cb_M} {len P : Nat} {r : rd_X ⊕ (rd_P × Nat)} (g5 : cb_gI M' 1 0 5 = cb_gI M 1 0 5) (h : rd_q M' len P r M9) : rd_q M len P r M9 := by
  unfold rd_q at *
  split at h
  · exact h
  · exact ⟨h.1, h.2.1, h.2.2.1, h.2.2.2.trans g5⟩
theorem rd_w_lt {tx : wm_F} {a b j : Nat} (h : rd_w tx a b = some j) : j < 8 := List.mem_range.mp (List.mem_of_find?_eq_some h)
def sp_X6_readClause : cb_Sp := fun _ r M K => match r with
  | [.inr (.inr (some (t, P))), .inl c] => t = 3 ∧ P < 2 ∧ ∃ len at_ A cnt, (rd_E M len at_ ∧ cb_gI M 1 0 4 = 0 ∧ rd_V M P A ∧ rd_C A ∧ c = nI cnt ∧ cnt ≤ 60) ∧ ∀ M', rd_fr P M M' → rd_q M len P (rd_clause (cb_gI M 2 0) len A cnt at_) M' → K none M'
  | _ => False
def pt_X6_readClause : cb_PT := cb_m 1 2 sp_X6_readClause
theorem rc_X6_readClause : cb_rc cb_tb RX6 pt_X6_readClause := cb_m_rc rfl rfl
def md_X6_readClause : cb_D := (RX6, cX6_readClause, 5, none, (0, 0, 6, 131), [
  (0, .aload_n 0, 1, 0, 0, 0, 0),
  (1, .getfield 19, 3, 0, 6, 2, 41),
  (4, .istore_n 3, 1, 0, 3, 0, 0),
  (5, .aload_n 0, 1, 0, 0, 0, 0),
  (6, .getfield 19, 3, 0, 6, 2, 41),
  (9, .istore 4, 2, 0, 4, 0, 0),
  (11, .iload 4, 2, 0, 4, 0, 0),
  (13, .aload_n 0, 1, 0, 0, 0, 0),
  (14, .getfield 15, 3, 0, 6, 1, 40),
  (17, .if_icmp .ge 30, 3, 0, 47, 0, 0),
  (20, .aload_n 0, 1, 0, 0, 0, 0),
  (21, .getfield 9, 3, 0, 6, 0, 39),
  (24, .iload 4, 2, 0, 4, 0, 0),
  (26, .baload, 1, 0, 0, 0, 0),
  (27, .invokestatic 49, 3, 0, 0, 0, 0),
  (30, .ifCond .eq 17, 3, 0, 47, 0, 0),
  (33, .aload_n 0, 1, 0, 0, 0, 0),
  (34, .iload 4, 2, 0, 4, 0, 0),
  (36, .iconst 1, 1, 1, 0, 0, 0),
  (37, .iadd, 1, 0, 0, 0, 0),
  (38, .putfield 19, 3, 0, 6, 2, 41),
  (41, .iinc 4 1, 3, 1, 4, 0, 0),
  (44, .goto (-33), 3, 0, 11, 0, 0),
  (47, .aload_n 0, 1, 0, 0, 0, 0),
  (48, .iload_n 3, 1, 0, 3, 0, 0),
  (49, .aload_n 0, 1, 0, 0, 0, 0),
  (50, .getfield 19, 3, 0, 6, 2, 41),
  (53, .invokevirtual 53, 3, 0, 1, 0, 0),
  (56, .istore 4, 2, 0, 4, 0, 0),
  (58, .iload 4, 2, 0, 4, 0, 0),
  (60, .iconst (-1), 1, (-1), 0, 0, 0),
  (61, .if_icmp .ne 12, 3, 0, 73, 0, 0),
  (64, .aload_n 0, 1, 0, 0, 0, 0),
  (65, .iload_n 3, 1, 0, 3, 0, 0),
  (66, .iconst 1, 1, 1, 0, 0, 0),
  (67, .invokevirtual 56, 3, 0, 2, 0, 0),
  (70, .goto 34, 3, 0, 104, 0, 0),
  (73, .iload_n 2, 1, 0, 2, 0, 0),
  (74, .bipush 60, 2, 60, 0, 0, 0),
  (76, .if_icmp .ge 12, 3, 0, 88, 0, 0),
  (79, .aload_n 1, 1, 0, 1, 0, 0),
  (80, .iload 4, 2, 0, 4, 0, 0),
  (82, .invokestatic 60, 3, 0, 3, 0, 0),
  (85, .ifCond .eq 12, 3, 0, 97, 0, 0),
  (88, .aload_n 0, 1, 0, 0, 0, 0),
  (89, .iload_n 3, 1, 0, 3, 0, 0),
  (90, .iconst 3, 1, 3, 0, 0, 0),
  (91, .invokevirtual 56, 3, 0, 2, 0, 0),
  (94, .goto 10, 3, 0, 104, 0, 0),
  (97, .aload_n 0, 1, 0, 0, 0, 0),
  (98, .aload_n 1, 1, 0, 1, 0, 0),
  (99, .iload 4, 2, 0, 4, 0, 0),
  (101, .invokevirtual 64, 3, 0, 4, 0, 0),
  (104, .return_, 1, 0, 0, 0, 0)],
  [(1, 49, 1, 0, 0, pt_X6_isLetter), (0, 53, 3, 0, 0, pt_X6_wordBetween), (0, 56, 3, 0, 0, pt_X6_failAt), (1, 60, 2, 0, 0, pt_X6_isTooMany), (0, 64, 3, 0, 0, pt_X6_readNumbers)], [])
set_option maxRecDepth 100000 in
theorem vd_X6_readClause : md_X6_readClause.cd.all (cb_vE md_X6_readClause) = true := by decide +kernel
theorem wd_X6_readClause : cb_wd yX6_readClause md_X6_readClause := ⟨cb_tw (i := 634) (by decide +kernel), cb_tw (i := 2) (by decide +kernel), by decide, by decide⟩
theorem cs_X6_readClause : ∀ X, cb_Bs md_X6_readClause X → ∀ g ∈ md_X6_readClause.ga, cb_CS cb_tb md_X6_readClause X g := fun X B => List.forall_mem_cons.mpr ⟨cb_csS B ok_X6_isLetter wd_X6_isLetter (cb_tw (i := 635) (by decide +kernel)) (cb_tw (i := 636) (by decide +kernel)) ⟨by decide, by decide⟩ (by decide +kernel), List.forall_mem_cons.mpr ⟨cb_csV B ok_X6_wordBetween wd_X6_wordBetween (cb_tw (i := 638) (by decide +kernel)) (cb_tw (i := 640) (by decide +kernel)) (cb_tp (i := 7) (by decide +kernel)) rc_X6_wordBetween ⟨by decide, by decide⟩ (by decide +kernel), List.forall_mem_cons.mpr ⟨cb_csV B ok_X6_failAt wd_X6_failAt (cb_tw (i := 702) (by decide +kernel)) (cb_tw (i := 704) (by decide +kernel)) (cb_tp (i := 9) (by decide +kernel)) rc_X6_failAt ⟨by decide, by decide⟩ (by decide +kernel), List.forall_mem_cons.mpr ⟨cb_csS B ok_X6_isTooMany wd_X6_isTooMany (cb_tw (i := 706) (by decide +kernel)) (cb_tw (i := 707) (by decide +kernel)) ⟨by decide, by decide⟩ (by decide +kernel), List.forall_mem_cons.mpr ⟨cb_csV B ok_X6_readNumbers wd_X6_readNumbers (cb_tw (i := 709) (by decide +kernel)) (cb_tw (i := 711) (by decide +kernel)) (cb_tp (i := 10) (by decide +kernel)) rc_X6_readNumbers ⟨by decide, by decide⟩ (by decide +kernel), fun _ h => nomatch h⟩⟩⟩⟩⟩
theorem ok_X6_readClause : cb_MOK cb_tb yX6_readClause md_X6_readClause pt_X6_readClause := by
  refine cb_okm ⟨plainFor_of_name (by decide), rfl⟩ (by decide) cs_X6_readClause (by decide) (fun X n0 f i r M hr ha h => ?_)
  have h0 := cb_a1 (T := 1) rfl ha
  subst h0
  match r, hr, h with
  | [.inr (.inr (some (t, P))), .inl c], hr, h =>
    obtain ⟨rfl, hP, len, at_, A, cnt, ⟨hE, h0, hV, hC, hc, hc6⟩, h⟩ := h
    obtain ⟨e1, e2, e3, e4, e5⟩ := id hE
    obtain ⟨e, he⟩ : ∃ e, e = rd_end (rd_ls (cb_gI M 2 0)) len at_ := ⟨_, rfl⟩
    have hel : e ≤ len := by rw [he]; exact rd_end_le e5
    have hae : at_ ≤ e := by rw [he]; exact rd_end_ge _ _ _
    unfold rd_clause at h
    rw [← he] at h
    have fin : ∀ (i : Int32) (M' : cb_M), cb_fr fr_1 M M' → cb_gI M' 1 0 2 = nI e → cb_gI M' 1 0 4 = 0 → cb_gI M' 1 0 5 = cb_gI M 1 0 5 → cb_Gd cb_tb md_X6_readClause X 47 [some (cb_r 1 0), some (cb_r 3 P), some (cb_i (c)), some (cb_i (nI at_)), some (cb_i (i))] [] (cb_aS n0, f) M' 0 0 := by
      intro i M' hF g2 g4 g5
      have hE' : rd_E M' len e := rd_E_fr hE hF g2 hel
      have htx : cb_gI M' 2 0 = cb_gI M 2 0 := hF.fn 2 0 (fun _ => rfl)
      refine cb_run cb_tb_ok vd_X6_readClause (cuts := [47, 88]) 90 ?_
      refine And.intro (cb_on rfl) ⟨len, e, at_, e, ⟨hE', rfl, g2, hae, hel⟩, ?_⟩
      rw [htx]
      cases hw : rd_w (cb_gI M 2 0) at_ e with
      | none =>
        rw [hw] at h
        refine cb_ifne (fun q => absurd rfl q) (fun _ => And.intro (cb_on rfl) (And.intro (fun q => absurd g4 q) (fun _ => And.intro rfl (h _ (rd_fr_1 ((hF.set _ rfl).set _ rfl)) ⟨by decide, rfl, rfl, e, rd_E_fr hE ((hF.set (t := 1) (i := 0) (j := 4) 1 rfl).set (t := 1) (i := 0) (j := 5) (nI at_) rfl) g2 hel⟩))))
      | some j =>
        rw [hw] at h
        have hj := rd_w_lt hw
        have h : ∀ M', rd_fr P M M' → rd_q M len P (if 60 ≤ cnt ∨ rd_many j A = true then .inl (3, at_) else rd_cl (cb_gI M 2 0) len j A e) M' → X.K (.inl none) (cb_aS n0, f) M' := h
        have hV' := rd_V_1 hF hV
        have many : (60 ≤ cnt ∨ rd_many j A = true) → cb_Gd cb_tb md_X6_readClause X 88 [some (cb_r 1 0), some (cb_r 3 P), some (cb_i (c)), some (cb_i (nI at_)), some (cb_i (nI j))] [] (cb_aS n0, f) M' 0 0 := by
          intro q
          rw [if_pos q] at h
          refine cb_run cb_tb_ok vd_X6_readClause (cuts := [47, 88]) 90 ?_
          exact And.intro (cb_on rfl) (And.intro (fun q => absurd g4 q) (fun _ => And.intro rfl (h _ (rd_fr_1 ((hF.set _ rfl).set _ rfl)) ⟨by decide, rfl, rfl, e, rd_E_fr hE ((hF.set (t := 1) (i := 0) (j := 4) 3 rfl).set (t := 1) (i := 0) (j := 5) (nI at_) rfl) g2 hel⟩)))
        refine cb_ifne (fun _ => And.intro (fun q => ?_) (fun q => ?_)) (fun q => ?_)
        · have q : 60 ≤ c := q
          rw [hc] at q
          exact many (Or.inl ((nI_leI (a := 60) (by decide) (by omega)).mp q))
        · have q : ¬ 60 ≤ c := q
          rw [hc] at q
          have q : ¬ 60 ≤ cnt := fun w => q (nI_le (a := 60) w (by omega))
          refine ⟨rfl, cb_aPP hP rfl, ?_⟩
          have em : rd_mi (rd_wv (some j)) (cb_gI M' 3 P 0) (cb_gI M' 3 P 1) (cb_gI M' 3 P 2) = rd_many j A := by
            rw [hV'.1.1, hV'.1.2.1, hV'.1.2.2.1]
            exact rd_mi_A hC hj
          rw [em]
          refine cb_ifz (fun q1 => ?_) (fun q1 => many (Or.inr q1))
          rw [if_neg (fun w => w.elim q (fun w => by rw [q1] at w; cases w))] at h
          refine And.intro (cb_on rfl) ⟨rfl, hP, len, e, A, j, ⟨hE', g4, hV', hC, rfl, hj, q1⟩, fun M1 h1 h2 => And.intro rfl (h M1 ((rd_fr_1 hF).trans h1) (rd_q_trans g5 ?_))⟩
          rw [htx] at h2
          exact h2
        · exact absurd q (show ¬ nI j = -1 from fun w => absurd (show nI j < 0 by rw [w]; decide) (nI_pos (by omega)))
    have loop : ∀ g i M', len - i = g → i ≤ len → cb_fr fr_1 M M' → cb_gI M' 1 0 2 = nI i → cb_gI M' 1 0 4 = 0 → cb_gI M' 1 0 5 = cb_gI M 1 0 5 → rd_end (rd_ls (cb_gI M 2 0)) len i = e → cb_Gd cb_tb md_X6_readClause X 11 [some (cb_r 1 0), some (cb_r 3 P), some (cb_i (c)), some (cb_i (nI at_)), some (cb_i (nI i))] [] (cb_aS n0, f) M' 0 0 := by
      intro g
      induction g with
      | zero =>
        intro i M' hg hi' hF g2 g4 g5 hz
        have hil : i = len := by omega
        have hie : i = e := by rw [← hz, rd_end_out (by omega)]
        refine cb_run cb_tb_ok vd_X6_readClause (cuts := [11, 47]) 90 ?_
        refine cb_lout (n := len) (by rw [hil]) ((hF.1 1 0 1 rfl).trans e2) ?_
        exact fin _ M' hF (by rw [g2, hie]) g4 g5
      | succ g ih =>
        intro i M' hg hi' hF g2 g4 g5 hz
        have hxi : vp_in (nI i) 600 := vp_in_nI (by omega) (by decide)
        have hxc : (nI i).toNatClampNeg = i := nI_clamp (by omega)
        have htx : cb_gI M' 2 0 i = cb_gI M 2 0 i := hF.1 2 0 i rfl
        refine cb_run cb_tb_ok vd_X6_readClause (cuts := [11, 47]) 90 ?_
        refine cb_lin rfl ((hF.1 1 0 1 rfl).trans e2) (show i < len by omega) (by omega) (Exists.intro (some 0) (And.intro ((hF.ref 1 0 0).trans e1) (And.intro hxi (And.intro trivial (cb_ifz (fun q => ?_) (fun q => ?_))))))
        · rw [hxc, htx] at q
          have hie : i = e := by rw [← hz, rd_end_out (fun z => by have := z.2; unfold rd_ls at this; rw [q] at this; cases this)]
          exact fin _ M' hF (by rw [g2, hie]) g4 g5
        · rw [hxc, htx] at q
          show cb_Gd cb_tb md_X6_readClause X 11 [some (cb_r 1 0), some (cb_r 3 P), some (cb_i (c)), some (cb_i (nI at_)), some (cb_i (nI i + 1))] [] (cb_aS n0, f) (cb_sI M' 1 0 2 (nI i + 1)) 0 0
          rw [nI_1]
          refine ih (i + 1) _ (by omega) (by omega) (hF.set _ rfl) ?_ g4 g5 ?_
          · rw [cb_gI_sI, if_pos ⟨rfl, rfl, rfl⟩]
          · rw [← hz]
            exact (rd_end_in (by omega) q).symm
    refine cb_run cb_tb_ok vd_X6_readClause (cuts := [11, 47]) 90 ?_
    show cb_Gd cb_tb md_X6_readClause X 11 [some (cb_r 1 0), some (cb_r 3 P), some (cb_i (c)), some (cb_i (cb_gI M 1 0 2)), some (cb_i (cb_gI M 1 0 2))] [] (cb_aS n0, f) M 0 0
    rw [e4]
    exact loop _ at_ M rfl e5 (cb_fr.refl M) e4 h0 rfl he.symm
/-! the text -/
def rd_0 : rd_P := ((0, 0, 0), (0, 50), fun _ => 0, (fun _ => 0, fun _ => 0, fun _ => 0, fun _ => 0, fun _ => 0, fun _ => 0), fun _ => 8, (fun _ => 0, fun _ => 0), fun _ => 0, fun _ => 0)
theorem rd_0_W : rd_W rd_0 := by
  refine ⟨⟨by decide, by decide, by decide⟩, fun b hb => absurd hb (Nat.not_lt_zero _), fun b hb => absurd hb (Nat.not_lt_zero _), fun _ _ => ⟨8, by decide, by decide, rfl⟩, fun b hb => absurd hb (Nat.not_lt_zero _), fun _ _ => ⟨0, by decide, rfl⟩, fun _ _ => ⟨0, by decide, rfl⟩, ⟨0, by decide, rfl⟩, 50, by decide, rfl⟩
theorem rd_0_V (M : cb_M) (P : Nat) : rd_V (pl_clear M P) P rd_0 := by
  have f1 : ∀ (M : cb_M) t i v n t' i' j', ¬ t' = t → cb_gI (cb_fl M t i v n) t' i' j' = cb_gI M t' i' j' := fun M t i v n t' i' j' h => by rw [cb_gI_fl, if_neg (fun w => h w.1)]
  have f2 : ∀ (M : cb_M) t i v n j', j' < n → cb_gI (cb_fl M t i v n) t i j' = v := fun M t i v n j' h => by rw [cb_gI_fl, if_pos ⟨rfl, rfl, h⟩]
  unfold pl_clear
  refine ⟨⟨?_, ?_, ?_, ?_, ?_⟩, fun b hb => absurd hb (Nat.not_lt_zero _), fun b hb => absurd hb (Nat.not_lt_zero _), fun i hi => ?_, fun b hb => absurd hb (Nat.not_lt_zero _), fun x hx => ?_, fun x hx => ?_⟩
  · rw [f1 _ _ _ _ _ _ _ _ (by decide), f1 _ _ _ _ _ _ _ _ (by decide), f1 _ _ _ _ _ _ _ _ (by decide), cb_gs_ne (by omega), cb_gs_ne (by omega), cb_gs_ne (by omega), cb_gs_ne (by omega), cb_gs_eq]
    rfl
  · rw [f1 _ _ _ _ _ _ _ _ (by decide), f1 _ _ _ _ _ _ _ _ (by decide), f1 _ _ _ _ _ _ _ _ (by decide), cb_gs_ne (by omega), cb_gs_ne (by omega), cb_gs_ne (by omega), cb_gs_eq]
    rfl
  · rw [f1 _ _ _ _ _ _ _ _ (by decide), f1 _ _ _ _ _ _ _ _ (by decide), f1 _ _ _ _ _ _ _ _ (by decide), cb_gs_ne (by omega), cb_gs_ne (by omega), cb_gs_eq]
    rfl
  · rw [f1 _ _ _ _ _ _ _ _ (by decide), f1 _ _ _ _ _ _ _ _ (by decide), f1 _ _ _ _ _ _ _ _ (by decide), cb_gs_ne (by omega), cb_gs_eq]
    rfl
  · rw [f1 _ _ _ _ _ _ _ _ (by decide), f1 _ _ _ _ _ _ _ _ (by decide), f1 _ _ _ _ _ _ _ _ (by decide), cb_gs_eq]
    rfl
  · rw [f1 _ _ _ _ _ _ _ _ (by decide), f1 _ _ _ _ _ _ _ _ (by decide), f2 _ _ _ _ _ _ hi]
    rfl
  · rw [f1 _ _ _ _ _ _ _ _ (by decide), f2 _ _ _ _ _ _ hx]
    rfl
  · rw [f2 _ _ _ _ _ _ hx]
    rfl
def rd_fx (P : Nat) (M M' : cb_M) : Prop := (∀ t i j, ¬ t = 1 → ¬ (3 ≤ t ∧ t ≤ 15 ∧ i = P) → cb_gI M' t i j = cb_gI M t i j) ∧ (∀ t i j, ¬ t = 1 → cb_gR M' t i j = cb_gR M t i j) ∧ M'.2.2 = M.2.2
theorem rd_fr.fx {P : Nat} {M M' : cb_M} (h : rd_fr P M M') : rd_fx P M M' := ⟨fun t i j h1 h2 => h.1 t i j (by unfold fr_1; cases z : Nat.beq t 1 with | false => rfl | true => exact absurd (Nat.eq_of_beq_eq_true z) h1) h2, fun t i j _ => by unfold cb_gR; rw [h.2], by rw [h.2]⟩
theorem rd_fx.trans {P : Nat} {M M' M'' : cb_M} (h : rd_fx P M M') (h2 : rd_fx P M' M'') : rd_fx P M M'' := ⟨fun t i j q r => (h2.1 t i j q r).trans (h.1 t i j q r), fun t i j q => (h2.2.1 t i j q).trans (h.2.1 t i j q), h2.2.2.trans h.2.2⟩
def rd_r (P : Nat) (R : rd_X ⊕ rd_P) (v : Int32) (M' : cb_M) : Prop := match R with
  | .inl (k, b) => v = k ∧ ¬ k = 0 ∧ cb_gI M' 1 0 5 = nI b
  | .inr A => v = 0 ∧ rd_V M' P A ∧ cb_gI M' 1 0 5 = -1
def sp_X6_readText : cb_Sp := fun _ r M K => match r with
  | [.inr (.inr (some (t0, q0))), .inl N, .inr (.inr (some (t, P)))] => t0 = 2 ∧ q0 = 0 ∧ t = 3 ∧ P < 2 ∧ ∃ k, (N = nI k ∧ k ≤ 600) ∧ ∀ M' v, rd_fx P M M' → rd_r P (rd_loop (cb_gI M 2 0) k 61 rd_0 0 0) v M' → K (some (cb_i v)) M'
  | _ => False
def pt_X6_readText : cb_PT := cb_m 1 3 sp_X6_readText
theorem rc_X6_readText : cb_rc cb_tb RX6 pt_X6_readText := cb_m_rc rfl rfl
def md_X6_readText : cb_D := (RX6, cX6_readText, 5, (some .int), (0, 0, 7, 155), [
  (0, .aload_n 0, 1, 0, 0, 0, 0),
  (1, .aload_n 1, 1, 0, 1, 0, 0),
  (2, .putfield 9, 3, 0, 6, 0, 39),
  (5, .aload_n 0, 1, 0, 0, 0, 0),
  (6, .iload_n 2, 1, 0, 2, 0, 0),
  (7, .aload_n 1, 1, 0, 1, 0, 0),
  (8, .arraylength, 1, 0, 0, 0, 0),
  (9, .invokestatic 31, 3, 0, 0, 0, 0),
  (12, .putfield 15, 3, 0, 6, 1, 40),
  (15, .aload_n 0, 1, 0, 0, 0, 0),
  (16, .iconst 0, 1, 0, 0, 0, 0),
  (17, .putfield 19, 3, 0, 6, 2, 41),
  (20, .aload_n 0, 1, 0, 0, 0, 0),
  (21, .iconst 0, 1, 0, 0, 0, 0),
  (22, .putfield 25, 3, 0, 6, 4, 43),
  (25, .aload_n 0, 1, 0, 0, 0, 0),
  (26, .iconst (-1), 1, (-1), 0, 0, 0),
  (27, .putfield 28, 3, 0, 6, 5, 44),
  (30, .aload_n 3, 1, 0, 3, 0, 0),
  (31, .invokevirtual 37, 3, 0, 1, 0, 0),
  (34, .iconst 0, 1, 0, 0, 0, 0),
  (35, .istore 4, 2, 0, 4, 0, 0),
  (37, .iload 4, 2, 0, 4, 0, 0),
  (39, .bipush 60, 2, 60, 0, 0, 0),
  (41, .if_icmp .gt 41, 3, 0, 82, 0, 0),
  (44, .aload_n 0, 1, 0, 0, 0, 0),
  (45, .getfield 25, 3, 0, 6, 4, 43),
  (48, .ifCond .ne 34, 3, 0, 82, 0, 0),
  (51, .aload_n 0, 1, 0, 0, 0, 0),
  (52, .invokevirtual 42, 3, 0, 2, 0, 0),
  (55, .aload_n 0, 1, 0, 0, 0, 0),
  (56, .getfield 19, 3, 0, 6, 2, 41),
  (59, .aload_n 0, 1, 0, 0, 0, 0),
  (60, .getfield 15, 3, 0, 6, 1, 40),
  (63, .if_icmp .lt 6, 3, 0, 69, 0, 0),
  (66, .goto 16, 3, 0, 82, 0, 0),
  (69, .aload_n 0, 1, 0, 0, 0, 0),
  (70, .aload_n 3, 1, 0, 3, 0, 0),
  (71, .iload 4, 2, 0, 4, 0, 0),
  (73, .invokevirtual 45, 3, 0, 3, 0, 0),
  (76, .iinc 4 1, 3, 1, 4, 0, 0),
  (79, .goto (-42), 3, 0, 37, 0, 0),
  (82, .aload_n 0, 1, 0, 0, 0, 0),
  (83, .getfield 25, 3, 0, 6, 4, 43),
  (86, .ireturn, 1, 0, 0, 0, 0)],
  [(1, 31, 2, 0, 0, pt_J9_min_7cf53), (0, 37, 1, 0, 0, pt_X4_clearAll), (0, 42, 1, 0, 0, pt_X6_skipBlanks), (0, 45, 3, 0, 0, pt_X6_readClause)], [])
set_option maxRecDepth 100000 in
theorem vd_X6_readText : md_X6_readText.cd.all (cb_vE md_X6_readText) = true := by decide +kernel
theorem wd_X6_readText : cb_wd yX6_readText md_X6_readText := ⟨cb_tw (i := 620) (by decide +kernel), cb_tw (i := 2) (by decide +kernel), by decide, by decide⟩
theorem cs_X6_readText : ∀ X, cb_Bs md_X6_readText X → ∀ g ∈ md_X6_readText.ga, cb_CS cb_tb md_X6_readText X g := fun X B => List.forall_mem_cons.mpr ⟨cb_csS B ok_J9_min_7cf53 wd_J9_min_7cf53 (cb_tw (i := 621) (by decide +kernel)) (cb_tw (i := 485) (by decide +kernel)) ⟨by decide, by decide⟩ (by decide +kernel), List.forall_mem_cons.mpr ⟨cb_csV B ok_X4_clearAll wd_X4_clearAll (cb_tw (i := 622) (by decide +kernel)) (cb_tw (i := 623) (by decide +kernel)) (cb_tw (i := 624) (by decide +kernel)) rc_X4_clearAll ⟨by decide, by decide⟩ (by decide +kernel), List.forall_mem_cons.mpr ⟨cb_csV B ok_X6_skipBlanks wd_X6_skipBlanks (cb_tw (i := 627) (by decide +kernel)) (cb_tw (i := 629) (by decide +kernel)) (cb_tp (i := 5) (by decide +kernel)) rc_X6_skipBlanks ⟨by decide, by decide⟩ (by decide +kernel), List.forall_mem_cons.mpr ⟨cb_csV B ok_X6_readClause wd_X6_readClause (cb_tw (i := 631) (by decide +kernel)) (cb_tw (i := 633) (by decide +kernel)) (cb_tp (i := 6) (by decide +kernel)) rc_X6_readClause ⟨by decide, by decide⟩ (by decide +kernel), fun _ h => nomatch h⟩⟩⟩⟩
theorem ok_X6_readText : cb_MOK cb_tb yX6_readText md_X6_readText pt_X6_readText := by
  refine cb_okm ⟨plainFor_of_name (by decide), rfl⟩ (by decide) cs_X6_readText (by decide) (fun X n0 f i r M hr ha h => ?_)
  have h0 := cb_a1 (T := 1) rfl ha
  subst h0
  match r, hr, h with
  | [.inr (.inr (some (t0, q0))), .inl N, .inr (.inr (some (t, P)))], hr, h =>
    obtain ⟨rfl, rfl, rfl, hP, k, ⟨hN, hk⟩, h⟩ := h
    have haP := cb_aPP (n := n0) (f := f) hP (t := 3) rfl
    obtain ⟨R, hR⟩ : ∃ R, R = rd_loop (cb_gI M 2 0) k 61 rd_0 0 0 := ⟨_, rfl⟩
    rw [← hR] at h
    have out : ∀ (c : Int32) (M' : cb_M), rd_fx P M M' → rd_r P R (cb_gI M' 1 0 4) M' → cb_Gd cb_tb md_X6_readText X 82 [some (cb_r 1 0), some (cb_r 2 0), some (cb_i (N)), some (cb_r 3 P), some (cb_i (c))] [] (cb_aS n0, f) M' 0 0 := by
      intro c M' hF hq
      refine cb_run cb_tb_ok vd_X6_readText (cuts := [82]) 90 ?_
      exact And.intro trivial (h M' _ hF hq)
    have loop : ∀ g cnt at_ A M', cnt + g = 61 → rd_fx P M M' → rd_E M' k at_ → cb_gI M' 1 0 4 = 0 → cb_gI M' 1 0 5 = -1 → rd_V M' P A → rd_W A → rd_loop (cb_gI M 2 0) k g A cnt at_ = R → cb_Gd cb_tb md_X6_readText X 37 [some (cb_r 1 0), some (cb_r 2 0), some (cb_i (N)), some (cb_r 3 P), some (cb_i (nI cnt))] [] (cb_aS n0, f) M' 0 0 := by
      intro g
      induction g with
      | zero =>
        intro cnt at_ A M' hg hF hE g4 g5 hV hW hz
        refine cb_run cb_tb_ok vd_X6_readText (cuts := [37, 82]) 90 ?_
        refine And.intro (fun _ => ?_) (fun q => absurd (show (60 : Int32) < nI cnt from nI_lt (a := 60) (by omega) (by omega)) q)
        refine out _ M' hF ?_
        have hz : R = .inr A := hz.symm
        rw [hz, g4]
        exact ⟨rfl, hV, g5⟩
      | succ g ih =>
        intro cnt at_ A M' hg hF hE g4 g5 hV hW hz
        have htx : cb_gI M' 2 0 = cb_gI M 2 0 := funext fun j => hF.1 2 0 j (by decide) (by omega)
        unfold rd_loop at hz
        refine cb_run cb_tb_ok vd_X6_readText (cuts := [37, 82]) 90 ?_
        refine And.intro (fun q => absurd q (show ¬ (60 : Int32) < nI cnt from nI_nlt (b := 60) (a := cnt) |> fun _ => Int32.not_lt.mpr (nI_le (b := 60) (by omega) (by decide)))) (fun _ => cb_ifne (fun q => absurd g4 q) (fun _ => And.intro (cb_on rfl) ⟨k, at_, hE, fun M1 hF1 hE1 => ?_⟩))
        rw [htx] at hE1
        have g41 : cb_gI M1 1 0 4 = 0 := (hF1.1 1 0 4 rfl).trans g4
        have g51 : cb_gI M1 1 0 5 = -1 := (hF1.1 1 0 5 rfl).trans g5
        have hF1' := hF.trans (rd_fr_1 (P := P) (hF1.mono fr_2_1)).fx
        have hV1 := rd_V_1 (hF1.mono fr_2_1) hV
        have htx1 : cb_gI M1 2 0 = cb_gI M 2 0 := funext fun j => hF1'.1 2 0 j (by decide) (by omega)
        refine And.intro (fun q => ?_) (fun q => ?_)
        · have q : cb_gI M1 1 0 2 < cb_gI M1 1 0 1 := q
          rw [hE1.2.2.2.1, hE1.2.1] at q
          have q : rd_end (rd_bl (cb_gI M 2 0)) k at_ < k := (nI_ltI (by have := hE1.2.2.2.2; omega) (by omega)).mp q
          rw [if_neg (by omega)] at hz
          refine And.intro (cb_on rfl) ⟨rfl, hP, k, _, A, cnt, ⟨hE1, g41, hV1, hW.1, rfl, by omega⟩, fun M2 h1 h2 => ?_⟩
          rw [htx1] at h2
          have hF2' := hF1'.trans h1.fx
          show cb_Gd cb_tb md_X6_readText X 37 [some (cb_r 1 0), some (cb_r 2 0), some (cb_i (N)), some (cb_r 3 P), some (cb_i (nI cnt + 1))] [] (cb_aS n0, f) M2 0 0
          rw [nI_1]
          cases hcl : rd_clause (cb_gI M 2 0) k A cnt (rd_end (rd_bl (cb_gI M 2 0)) k at_) with
          | inl x =>
            obtain ⟨kk, b⟩ := x
            rw [hcl] at h2 hz
            have hz : R = .inl (kk, b) := hz.symm
            obtain ⟨hk0, g42, g52, -⟩ := h2
            have hq : rd_r P R (cb_gI M2 1 0 4) M2 := by
              rw [hz, g42]
              exact ⟨rfl, hk0, g52⟩
            refine cb_run cb_tb_ok vd_X6_readText (cuts := [37, 82]) 90 ?_
            exact And.intro (fun _ => out _ M2 hF2' hq) (fun _ => cb_ifne (fun _ => out _ M2 hF2' hq) (fun q => absurd (g42.symm.trans q) hk0))
          | inr x =>
            obtain ⟨A2, e2⟩ := x
            rw [hcl] at h2 hz
            obtain ⟨hV2, hE2, g42, g52⟩ := h2
            exact ih (cnt + 1) e2 A2 M2 (by omega) hF2' hE2 g42 (g52.trans g51) hV2 (rd_clause_W hW hcl) hz
        · have q : ¬ cb_gI M1 1 0 2 < cb_gI M1 1 0 1 := q
          rw [hE1.2.2.2.1, hE1.2.1] at q
          have q : k ≤ rd_end (rd_bl (cb_gI M 2 0)) k at_ := Nat.not_lt.mp (fun w => q (nI_lt w (by omega)))
          rw [if_pos q] at hz
          refine out _ M1 hF1' ?_
          have hz : R = .inr A := hz.symm
          rw [hz, g41]
          exact ⟨rfl, hV1, g51⟩
    refine cb_run cb_tb_ok vd_X6_readText (cuts := [37, 82]) 90 ?_
    refine And.intro trivial (And.intro (cb_on haP) ?_)
    have emin : wm_min N 600 = nI k := by
      rw [hN]
      unfold wm_min
      rw [if_neg (show ¬ (600 : Int32) < nI k from Int32.not_lt.mpr (nI_le (b := 600) hk (by decide)))]
    show cb_Gd cb_tb md_X6_readText X 37 [some (cb_r 1 0), some (cb_r 2 0), some (cb_i (N)), some (cb_r 3 P), some (cb_i (0))] [] (cb_aS n0, f) (pl_clear (cb_sI (cb_sI (cb_sI (cb_sI (cb_sR M 1 0 0 (some 0)) 1 0 1 (wm_min N 600)) 1 0 2 0) 1 0 4 0) 1 0 5 (-1)) P) 0 0
    rw [emin]
    obtain ⟨M1, hM1⟩ : ∃ M1, M1 = cb_sI (cb_sI (cb_sI (cb_sI (cb_sR M 1 0 0 (some 0)) 1 0 1 (nI k)) 1 0 2 0) 1 0 4 0) 1 0 5 (-1) := ⟨_, rfl⟩
    rw [← hM1]
    have cl : ∀ t i j, ¬ (3 ≤ t ∧ t ≤ 15 ∧ i = P) → cb_gI (pl_clear M1 P) t i j = cb_gI M1 t i j := fun t i j q => by
      unfold pl_clear
      rw [cb_gI_fl, if_neg (fun w => q ⟨by omega, by omega, w.2.1⟩), cb_gI_fl, if_neg (fun w => q ⟨by omega, by omega, w.2.1⟩), cb_gI_fl, if_neg (fun w => q ⟨by omega, by omega, w.2.1⟩), cb_gs_ne (fun w => q ⟨by omega, by omega, w.2.1⟩), cb_gs_ne (fun w => q ⟨by omega, by omega, w.2.1⟩), cb_gs_ne (fun w => q ⟨by omega, by omega, w.2.1⟩), cb_gs_ne (fun w => q ⟨by omega, by omega, w.2.1⟩), cb_gs_ne (fun w => q ⟨by omega, by omega, w.2.1⟩)]
    refine loop 61 0 0 rd_0 _ rfl ⟨fun t i j h1 h2 => ?_, fun t i j h1 => ?_, ?_⟩ ⟨?_, ?_, hk, ?_, Nat.zero_le _⟩ ?_ ?_ (rd_0_V M1 P) rd_0_W hR.symm
    · rw [cl t i j h2, hM1, cb_gs_ne (fun w => h1 w.1), cb_gs_ne (fun w => h1 w.1), cb_gs_ne (fun w => h1 w.1), cb_gs_ne (fun w => h1 w.1)]
      rfl
    · show cb_gR M1 t i j = _
      rw [hM1]
      show cb_gR (cb_sR M 1 0 0 (some 0)) t i j = _
      rw [cb_gR_sR, if_neg (fun w => h1 w.1)]
    · rw [hM1]
      rfl
    · show cb_gR M1 1 0 0 = _
      rw [hM1]
      rfl
    · rw [cl 1 0 1 (by omega), hM1]
      rfl
    · rw [cl 1 0 2 (by omega), hM1]
      rfl
    · rw [cl 1 0 4 (by omega), hM1]
      rfl
    · rw [cl 1 0 5 (by omega), hM1]
      rfl
