-- the ancestors that the law's schemes choose
theorem upd_upd (f : Nat → Int32) (k : Nat) (x y : Int32) : upd (upd f k x) k y = upd f k y := by
  funext i
  by_cases h : i = k
  · subst h; rw [upd_s, upd_s]
  · rw [upd_n h, upd_n h, upd_n h]
theorem neg1_le : (nI 0 ≤ -nI 1) = False := eq_false (by decide)
theorem l_point {w f : Nat → Int32} {N k e p : Nat} {v : Nat → Nat} (K : (Nat → Int32) → Option ((Nat → Int32) × (Nat → Int32))) (hN : N ≤ 12) (hk : k < 12) (he : e < N) (hw : ∀ k, k < N → w k = nI (v k)) (hb : ∀ k, k < N → v k ≤ 1000000) (hp : p < 1000000000000) (h1 : p < N * sumN v (e + 1)) (h2 : ∀ i, i < e → N * sumN v (i + 1) ≤ p) : am_loop3 (F_L_choose_B78 (nI N) K (nI k) w (lN p)) am_fuel (lN 0) (nI 0) (upd f k (-nI 1)) = K (upd f k (nI e)) := by
  have hs2 : ∀ j, j ≤ N → sumN v j ≤ 12000000 := by
    intro j hj
    have h3 : sumN v j ≤ sumN v N := sumN_mono hj
    have h4 := (sq_le hN hb).1
    omega
  have hs : ∀ j, j ≤ N → sumN v j * N ≤ 12000000 * 12 := fun j hj => Nat.mul_le_mul (hs2 j hj) hN
  have s1 : ∀ rec j, j < N → sumN v (j + 1) * N ≤ p → F_L_choose_B78 (nI N) K (nI k) w (lN p) rec (lN (sumN v j)) (nI j) (upd f k (-nI 1)) = rec (lN (sumN v (j + 1))) (nI (j + 1)) (upd f k (-nI 1)) := by
    intro rec j hj h
    have h3 := hb j hj
    have h4 := hs (j + 1) (by omega)
    have h6 := hs2 (j + 1) (by omega)
    have e2 : sumN v j + v j = sumN v (j + 1) := rfl
    unfold F_L_choose_B78
    simp only [am_let]
    simp (disch := omega) only [if_true, if_false, am_in_n, am_nz_n, am_nzl_n, sI_add, sI_mul, sI_cl, sI_le, sI_lt, sI_eq, sI_l, lN_add, lN_mul, lN_i, sg_gt, sg_le, sg_eq, sg_ge, sI_rem, sI_div, sI_rem2, sL_rem, sL_div, sL_rem2, sI_sub, sI_m1, sI_m1n, sI_or, if_pos, if_neg, Option.bind_some, am_call2_e, am_call3_e, am_call4_e, am_call5_e, am_call6_e, am_call7_e, am_call8_e, am_call9_e, am_call10_e, am_call11_e, am_call12_e, am_call13_e, am_call14_e, li_0, li_1, li_2, li_3, li_4, li_5, li_6, li_7, li_8, li_9, li_10, li_11, li_12, li_13, li_14, li_15, li_16, li_19, li_20, li_21, li_22, li_23, li_32, li_36, li_48, li_50, li_60, li_63, li_74, li_75, li_98, li_99, li_100, li_199, li_200, li_256, li_7919, li_65537, li_1000000, li_1000001, li_10000000, ll_0, ll_1, ll_100, ll_65535, neg1_le, hw j hj, upd_s, e2, upd_upd]
  have s2 : ∀ rec j, j < N → p < sumN v (j + 1) * N → F_L_choose_B78 (nI N) K (nI k) w (lN p) rec (lN (sumN v j)) (nI j) (upd f k (-nI 1)) = rec (lN (sumN v (j + 1))) (nI (j + 1)) (upd f k (nI j)) := by
    intro rec j hj h
    have h3 := hb j hj
    have h4 := hs (j + 1) (by omega)
    have h6 := hs2 (j + 1) (by omega)
    have e2 : sumN v j + v j = sumN v (j + 1) := rfl
    unfold F_L_choose_B78
    simp only [am_let]
    simp (disch := omega) only [if_true, if_false, am_in_n, am_nz_n, am_nzl_n, sI_add, sI_mul, sI_cl, sI_le, sI_lt, sI_eq, sI_l, lN_add, lN_mul, lN_i, sg_gt, sg_le, sg_eq, sg_ge, sI_rem, sI_div, sI_rem2, sL_rem, sL_div, sL_rem2, sI_sub, sI_m1, sI_m1n, sI_or, if_pos, if_neg, Option.bind_some, am_call2_e, am_call3_e, am_call4_e, am_call5_e, am_call6_e, am_call7_e, am_call8_e, am_call9_e, am_call10_e, am_call11_e, am_call12_e, am_call13_e, am_call14_e, li_0, li_1, li_2, li_3, li_4, li_5, li_6, li_7, li_8, li_9, li_10, li_11, li_12, li_13, li_14, li_15, li_16, li_19, li_20, li_21, li_22, li_23, li_32, li_36, li_48, li_50, li_60, li_63, li_74, li_75, li_98, li_99, li_100, li_199, li_200, li_256, li_7919, li_65537, li_1000000, li_1000001, li_10000000, ll_0, ll_1, ll_100, ll_65535, neg1_le, hw j hj, upd_s, e2, upd_upd]
  have s3 : ∀ rec acc j i, j ≤ N → i < N → F_L_choose_B78 (nI N) K (nI k) w (lN p) rec acc (nI j) (upd f k (nI i)) = K (upd f k (nI i)) := by
    intro rec acc j i hj hi
    unfold F_L_choose_B78
    simp only [am_let]
    by_cases h : N ≤ j
    · simp (disch := omega) only [if_true, if_false, am_in_n, am_nz_n, am_nzl_n, sI_add, sI_mul, sI_cl, sI_le, sI_lt, sI_eq, sI_l, lN_add, lN_mul, lN_i, sg_gt, sg_le, sg_eq, sg_ge, sI_rem, sI_div, sI_rem2, sL_rem, sL_div, sL_rem2, sI_sub, sI_m1, sI_m1n, sI_or, if_pos, if_neg, Option.bind_some, am_call2_e, am_call3_e, am_call4_e, am_call5_e, am_call6_e, am_call7_e, am_call8_e, am_call9_e, am_call10_e, am_call11_e, am_call12_e, am_call13_e, am_call14_e, li_0, li_1, li_2, li_3, li_4, li_5, li_6, li_7, li_8, li_9, li_10, li_11, li_12, li_13, li_14, li_15, li_16, li_19, li_20, li_21, li_22, li_23, li_32, li_36, li_48, li_50, li_60, li_63, li_74, li_75, li_98, li_99, li_100, li_199, li_200, li_256, li_7919, li_65537, li_1000000, li_1000001, li_10000000, ll_0, ll_1, ll_100, ll_65535]
    · simp (disch := omega) only [if_true, if_false, am_in_n, am_nz_n, am_nzl_n, sI_add, sI_mul, sI_cl, sI_le, sI_lt, sI_eq, sI_l, lN_add, lN_mul, lN_i, sg_gt, sg_le, sg_eq, sg_ge, sI_rem, sI_div, sI_rem2, sL_rem, sL_div, sL_rem2, sI_sub, sI_m1, sI_m1n, sI_or, if_pos, if_neg, Option.bind_some, am_call2_e, am_call3_e, am_call4_e, am_call5_e, am_call6_e, am_call7_e, am_call8_e, am_call9_e, am_call10_e, am_call11_e, am_call12_e, am_call13_e, am_call14_e, li_0, li_1, li_2, li_3, li_4, li_5, li_6, li_7, li_8, li_9, li_10, li_11, li_12, li_13, li_14, li_15, li_16, li_19, li_20, li_21, li_22, li_23, li_32, li_36, li_48, li_50, li_60, li_63, li_74, li_75, li_98, li_99, li_100, li_199, li_200, li_256, li_7919, li_65537, li_1000000, li_1000001, li_10000000, ll_0, ll_1, ll_100, ll_65535, upd_s]
  have key : ∀ d j n, j + d = e → d + 2 ≤ n → am_loop3 (F_L_choose_B78 (nI N) K (nI k) w (lN p)) n (lN (sumN v j)) (nI j) (upd f k (-nI 1)) = K (upd f k (nI e)) := by
    intro d
    induction d with
    | zero =>
      intro j n hj hn
      obtain ⟨n, rfl⟩ : ∃ m, n = m + 1 + 1 := ⟨n - 2, by omega⟩
      have : j = e := by omega
      subst this
      show F_L_choose_B78 (nI N) K (nI k) w (lN p) (am_loop3 (F_L_choose_B78 (nI N) K (nI k) w (lN p)) (n + 1)) _ _ _ = _
      rw [s2 _ j he (by rw [Nat.mul_comm]; exact h1)]
      show F_L_choose_B78 (nI N) K (nI k) w (lN p) (am_loop3 (F_L_choose_B78 (nI N) K (nI k) w (lN p)) n) _ _ _ = _
      exact s3 _ _ _ _ (by omega) he
    | succ d ih =>
      intro j n hj hn
      obtain ⟨n, rfl⟩ : ∃ m, n = m + 1 := ⟨n - 1, by omega⟩
      show F_L_choose_B78 (nI N) K (nI k) w (lN p) (am_loop3 (F_L_choose_B78 (nI N) K (nI k) w (lN p)) n) _ _ _ = _
      rw [s1 _ j (by omega) (by rw [Nat.mul_comm]; exact h2 j (by omega))]
      exact ih (j + 1) n (by omega) (by omega)
  exact key e 0 am_fuel (by omega) (by rw [fuelE]; omega)
theorem l_points0 {g w a : Nat → Int32} {N of : Nat} {v : Nat → Nat} (h7 : g 7 = nI of) (hN : N ≤ 12) (hof : of ≤ 99) (hw : ∀ k, k < N → w k = nI (v k)) (hb : ∀ k, k < N → v k ≤ 1000000) (hS : 0 < sumN v N) : ∃ a', (∀ k, k < N → a' k = nI (faR v N (k * sumN v N + of * sumN v N / 100) N)) ∧ am_loop3 (F_L_choose_B24 (nI N) (fun f47 f48 => some (f47, f48)) (lN (sumN v N)) w (nI 0)) am_fuel (nI 0) g a = some (g, a') := by
  have hS2 := (sq_le hN hb).1
  have ho := off_lt hof hS
  have ho2 : of * sumN v N ≤ 99 * 12000000 := Nat.mul_le_mul hof hS2
  obtain ⟨f9, a', ⟨h1, h2⟩, e⟩ := for3F (b := F_L_choose_B24 (nI N) (fun f47 f48 => some (f47, f48)) (lN (sumN v N)) w (nI 0)) nI N (fun j f9 a' => f9 = g ∧ ∀ k, k < j → a' k = nI (faR v N (k * sumN v N + of * sumN v N / 100) N)) (fun f5 f6 => some (f5, f6)) (by
    rintro rec f9 a' j hj ⟨rfl, h⟩
    have hp := pt_lt (N := N) (S := sumN v N) hj ho
    have hq : j * sumN v N ≤ 12 * 12000000 := Nat.mul_le_mul (by omega) hS2
    obtain ⟨g1, g2, g3⟩ := faR_s N hp
    refine ⟨f9, upd a' j (nI (faR v N (j * sumN v N + of * sumN v N / 100) N)), ⟨rfl, fun k hk => ?_⟩, ?_⟩
    · by_cases hkj : k = j
      · subst hkj; exact upd_s _ _ _
      · rw [upd_n hkj]; exact h k (by omega)
    · unfold F_L_choose_B24
      simp only [am_let]
      simp (disch := omega) only [li_0, li_1, li_2, li_3, li_4, li_5, li_6, li_7, li_8, li_9, li_10, li_11, li_12, li_13, li_14, li_15, li_16, li_19, li_20, li_21, li_22, li_23, li_32, li_36, li_48, li_50, li_60, li_63, li_74, li_75, li_98, li_99, li_100, li_199, li_200, li_256, li_7919, li_65537, li_1000000, li_1000001, li_10000000, ll_0, ll_1, ll_100, ll_65535, sI_le, if_neg, if_true, sI_eq, sI_l, sI_cl, lN_mul, lN_add, h7, sL_div, am_in_n]
      rw [l_point _ hN (show j < 12 by omega) g1 hw hb (show j * sumN v N + of * sumN v N / 100 < 1000000000000 by omega) g2 g3, sI_add]) (by
    rintro rec f9 a' -
    unfold F_L_choose_B24
    simp (disch := omega) only [if_true, if_false, am_let, am_in_n, am_nz_n, am_nzl_n, sI_add, sI_mul, sI_cl, sI_le, sI_lt, sI_eq, sI_l, lN_add, lN_mul, lN_i, sg_gt, sg_le, sg_eq, sg_ge, sI_rem, sI_div, sI_rem2, sL_rem, sL_div, sL_rem2, sI_sub, sI_m1, sI_m1n, sI_or, if_pos, if_neg, Option.bind_some, am_call2_e, am_call3_e, am_call4_e, am_call5_e, am_call6_e, am_call7_e, am_call8_e, am_call9_e, am_call10_e, am_call11_e, am_call12_e, am_call13_e, am_call14_e, li_0, li_1, li_2, li_3, li_4, li_5, li_6, li_7, li_8, li_9, li_10, li_11, li_12, li_13, li_14, li_15, li_16, li_19, li_20, li_21, li_22, li_23, li_32, li_36, li_48, li_50, li_60, li_63, li_74, li_75, li_98, li_99, li_100, li_199, li_200, li_256, li_7919, li_65537, li_1000000, li_1000001, li_10000000, ll_0, ll_1, ll_100, ll_65535]) 0 (Nat.zero_le _) am_fuel (by rw [fuelE]; omega) g a ⟨rfl, fun k hk => absurd hk (Nat.not_lt_zero k)⟩
  exact ⟨a', h2, by rw [e, h1]⟩
theorem l_points1 {g w a : Nat → Int32} {N z : Nat} {v : Nat → Nat} (h2g : g 2 = nI z) (hz : z < 65537) (hN : N ≤ 12) (hw : ∀ k, k < N → w k = nI (v k)) (hb : ∀ k, k < N → v k ≤ 1000000) (hS : 0 < sumN v N) : ∃ g' a', (∀ k, k < N → a' k = nI (faR v N (k * sumN v N + nzk z (k + 1) % sumN v N) N)) ∧ g' 2 = nI (nzk z N) ∧ (∀ i, i ≠ 2 → g' i = g i) ∧ am_loop3 (F_L_choose_B24 (nI N) (fun f47 f48 => some (f47, f48)) (lN (sumN v N)) w (nI 1)) am_fuel (nI 0) g a = some (g', a') := by
  have hS2 := (sq_le hN hb).1
  obtain ⟨f9, a', ⟨h1, h1', h2⟩, e⟩ := for3F (b := F_L_choose_B24 (nI N) (fun f47 f48 => some (f47, f48)) (lN (sumN v N)) w (nI 1)) nI N (fun j f9 a' => f9 2 = nI (nzk z j) ∧ (∀ i, i ≠ 2 → f9 i = g i) ∧ ∀ k, k < j → a' k = nI (faR v N (k * sumN v N + nzk z (k + 1) % sumN v N) N)) (fun f5 f6 => some (f5, f6)) (by
    rintro rec f9 a' j hj ⟨h0, h0', h⟩
    have hz1 := nzk_lt hz j
    have hz2 := nzk_lt hz (j + 1)
    have hm : nzk z (j + 1) % sumN v N < sumN v N := Nat.mod_lt _ hS
    have hp := pt_lt (N := N) (S := sumN v N) hj hm
    have hq : j * sumN v N ≤ 12 * 12000000 := Nat.mul_le_mul (by omega) hS2
    have e1 : (nzk z j * 75 + 74) % 65537 = nzk z (j + 1) := rfl
    have e3 := l_noise h0 hz1
    rw [e1] at e3
    obtain ⟨g1, g2, g3⟩ := faR_s N hp
    refine ⟨upd f9 2 (nI (nzk z (j + 1))), upd a' j (nI (faR v N (j * sumN v N + nzk z (j + 1) % sumN v N) N)), ⟨upd_s _ _ _, fun i hi => by rw [upd_n hi]; exact h0' i hi, fun k hk => ?_⟩, ?_⟩
    · by_cases hkj : k = j
      · subst hkj; exact upd_s _ _ _
      · rw [upd_n hkj]; exact h k (by omega)
    · unfold F_L_choose_B24
      simp only [am_let]
      simp (disch := omega) only [li_0, li_1, li_2, li_3, li_4, li_5, li_6, li_7, li_8, li_9, li_10, li_11, li_12, li_13, li_14, li_15, li_16, li_19, li_20, li_21, li_22, li_23, li_32, li_36, li_48, li_50, li_60, li_63, li_74, li_75, li_98, li_99, li_100, li_199, li_200, li_256, li_7919, li_65537, li_1000000, li_1000001, li_10000000, ll_0, ll_1, ll_100, ll_65535, sI_le, if_neg, sI_eq, e3, am_call2_e, sI_l, sI_cl, lN_mul, sL_div, sL_rem2, lN_add, am_nzl_n, am_in_n]
      rw [l_point _ hN (show j < 12 by omega) g1 hw hb (show j * sumN v N + nzk z (j + 1) % sumN v N < 1000000000000 by omega) g2 g3, sI_add]) (by
    rintro rec f9 a' -
    unfold F_L_choose_B24
    simp (disch := omega) only [if_true, if_false, am_let, am_in_n, am_nz_n, am_nzl_n, sI_add, sI_mul, sI_cl, sI_le, sI_lt, sI_eq, sI_l, lN_add, lN_mul, lN_i, sg_gt, sg_le, sg_eq, sg_ge, sI_rem, sI_div, sI_rem2, sL_rem, sL_div, sL_rem2, sI_sub, sI_m1, sI_m1n, sI_or, if_pos, if_neg, Option.bind_some, am_call2_e, am_call3_e, am_call4_e, am_call5_e, am_call6_e, am_call7_e, am_call8_e, am_call9_e, am_call10_e, am_call11_e, am_call12_e, am_call13_e, am_call14_e, li_0, li_1, li_2, li_3, li_4, li_5, li_6, li_7, li_8, li_9, li_10, li_11, li_12, li_13, li_14, li_15, li_16, li_19, li_20, li_21, li_22, li_23, li_32, li_36, li_48, li_50, li_60, li_63, li_74, li_75, li_98, li_99, li_100, li_199, li_200, li_256, li_7919, li_65537, li_1000000, li_1000001, li_10000000, ll_0, ll_1, ll_100, ll_65535]) 0 (Nat.zero_le _) am_fuel (by rw [fuelE]; omega) g a ⟨h2g, fun _ _ => rfl, fun k hk => absurd hk (Nat.not_lt_zero k)⟩
  exact ⟨f9, a', h2, h1, h1', e⟩
theorem l_ahead {w : Nat → Int32} {N i : Nat} {v : Nat → Nat} (K : Int32 → Option ((Nat → Int32) × (Nat → Int32))) (hN : N ≤ 12) (hi : i < N) (hw : ∀ k, k < N → w k = nI (v k)) (hb : ∀ k, k < N → v k ≤ 1000000) (hS : 0 < sumN v N) : am_loop2 (F_L_choose_B219 (nI N) K (lN (sumN v N)) w (lN (rsN v N i)) (nI i)) am_fuel (nI 0) (nI 0) = K (nI (rankN (rsN v N) N i)) := by
  have hS2 := (sq_le hN hb).1
  have hrs : ∀ k, rsN v N k < 2147483648 := fun k => by
    have : rsN v N k < sumN v N := Nat.mod_lt _ hS
    omega
  obtain ⟨a, ha, e⟩ := for2L (b := F_L_choose_B219 (nI N) K (lN (sumN v N)) w (lN (rsN v N i)) (nI i)) nI N (fun j a => a = nI (cntN (aheadB (rsN v N) i) j)) K (by
    rintro rec a j hj rfl
    refine ⟨_, rfl, ?_⟩
    have h1 := hrs j
    have h1' := hrs i
    have hbj := hb j hj
    have hpr : N * v j ≤ 12 * 1000000 := Nat.mul_le_mul hN hbj
    have e1 : N * v j % sumN v N = rsN v N j := rfl
    unfold F_L_choose_B219
    show _ = rec (nI (cntN (aheadB (rsN v N) i) j + (if aheadB (rsN v N) i j = true then 1 else 0))) _
    unfold aheadB
    simp only [am_let]
    by_cases h : rsN v N i < rsN v N j
    · simp (disch := omega) only [if_true, if_false, am_in_n, am_nz_n, am_nzl_n, sI_add, sI_mul, sI_cl, sI_le, sI_lt, sI_eq, sI_l, lN_add, lN_mul, lN_i, sg_gt, sg_le, sg_eq, sg_ge, sI_rem, sI_div, sI_rem2, sL_rem, sL_div, sL_rem2, sI_sub, sI_m1, sI_m1n, sI_or, if_pos, if_neg, Option.bind_some, am_call2_e, am_call3_e, am_call4_e, am_call5_e, am_call6_e, am_call7_e, am_call8_e, am_call9_e, am_call10_e, am_call11_e, am_call12_e, am_call13_e, am_call14_e, li_0, li_1, li_2, li_3, li_4, li_5, li_6, li_7, li_8, li_9, li_10, li_11, li_12, li_13, li_14, li_15, li_16, li_19, li_20, li_21, li_22, li_23, li_32, li_36, li_48, li_50, li_60, li_63, li_74, li_75, li_98, li_99, li_100, li_199, li_200, li_256, li_7919, li_65537, li_1000000, li_1000001, li_10000000, ll_0, ll_1, ll_100, ll_65535, hw j hj, e1, h, decide_true, Bool.true_or]
    · by_cases h2 : rsN v N j = rsN v N i
      · by_cases h3 : j < i
        · simp (disch := omega) only [if_true, if_false, am_in_n, am_nz_n, am_nzl_n, sI_add, sI_mul, sI_cl, sI_le, sI_lt, sI_eq, sI_l, lN_add, lN_mul, lN_i, sg_gt, sg_le, sg_eq, sg_ge, sI_rem, sI_div, sI_rem2, sL_rem, sL_div, sL_rem2, sI_sub, sI_m1, sI_m1n, sI_or, if_pos, if_neg, Option.bind_some, am_call2_e, am_call3_e, am_call4_e, am_call5_e, am_call6_e, am_call7_e, am_call8_e, am_call9_e, am_call10_e, am_call11_e, am_call12_e, am_call13_e, am_call14_e, li_0, li_1, li_2, li_3, li_4, li_5, li_6, li_7, li_8, li_9, li_10, li_11, li_12, li_13, li_14, li_15, li_16, li_19, li_20, li_21, li_22, li_23, li_32, li_36, li_48, li_50, li_60, li_63, li_74, li_75, li_98, li_99, li_100, li_199, li_200, li_256, li_7919, li_65537, li_1000000, li_1000001, li_10000000, ll_0, ll_1, ll_100, ll_65535, hw j hj, e1, h, h2, h3, decide_true, decide_false, Bool.true_or, Bool.false_or, Bool.true_and, Nat.lt_irrefl]
        · simp (disch := omega) only [if_true, if_false, am_in_n, am_nz_n, am_nzl_n, sI_add, sI_mul, sI_cl, sI_le, sI_lt, sI_eq, sI_l, lN_add, lN_mul, lN_i, sg_gt, sg_le, sg_eq, sg_ge, sI_rem, sI_div, sI_rem2, sL_rem, sL_div, sL_rem2, sI_sub, sI_m1, sI_m1n, sI_or, if_pos, if_neg, Option.bind_some, am_call2_e, am_call3_e, am_call4_e, am_call5_e, am_call6_e, am_call7_e, am_call8_e, am_call9_e, am_call10_e, am_call11_e, am_call12_e, am_call13_e, am_call14_e, li_0, li_1, li_2, li_3, li_4, li_5, li_6, li_7, li_8, li_9, li_10, li_11, li_12, li_13, li_14, li_15, li_16, li_19, li_20, li_21, li_22, li_23, li_32, li_36, li_48, li_50, li_60, li_63, li_74, li_75, li_98, li_99, li_100, li_199, li_200, li_256, li_7919, li_65537, li_1000000, li_1000001, li_10000000, ll_0, ll_1, ll_100, ll_65535, hw j hj, e1, h, h2, h3, decide_true, decide_false, Bool.true_or, Bool.false_or, Bool.true_and, Nat.lt_irrefl, Bool.false_eq_true, Nat.add_zero]
      · simp (disch := omega) only [if_true, if_false, am_in_n, am_nz_n, am_nzl_n, sI_add, sI_mul, sI_cl, sI_le, sI_lt, sI_eq, sI_l, lN_add, lN_mul, lN_i, sg_gt, sg_le, sg_eq, sg_ge, sI_rem, sI_div, sI_rem2, sL_rem, sL_div, sL_rem2, sI_sub, sI_m1, sI_m1n, sI_or, if_pos, if_neg, Option.bind_some, am_call2_e, am_call3_e, am_call4_e, am_call5_e, am_call6_e, am_call7_e, am_call8_e, am_call9_e, am_call10_e, am_call11_e, am_call12_e, am_call13_e, am_call14_e, li_0, li_1, li_2, li_3, li_4, li_5, li_6, li_7, li_8, li_9, li_10, li_11, li_12, li_13, li_14, li_15, li_16, li_19, li_20, li_21, li_22, li_23, li_32, li_36, li_48, li_50, li_60, li_63, li_74, li_75, li_98, li_99, li_100, li_199, li_200, li_256, li_7919, li_65537, li_1000000, li_1000001, li_10000000, ll_0, ll_1, ll_100, ll_65535, hw j hj, e1, h, h2, decide_true, decide_false, Bool.true_or, Bool.false_or, Bool.false_and, Bool.false_eq_true, Nat.add_zero]) (by
    rintro rec a rfl
    unfold F_L_choose_B219
    simp (disch := omega) only [if_true, if_false, am_let, am_in_n, am_nz_n, am_nzl_n, sI_add, sI_mul, sI_cl, sI_le, sI_lt, sI_eq, sI_l, lN_add, lN_mul, lN_i, sg_gt, sg_le, sg_eq, sg_ge, sI_rem, sI_div, sI_rem2, sL_rem, sL_div, sL_rem2, sI_sub, sI_m1, sI_m1n, sI_or, if_pos, if_neg, Option.bind_some, am_call2_e, am_call3_e, am_call4_e, am_call5_e, am_call6_e, am_call7_e, am_call8_e, am_call9_e, am_call10_e, am_call11_e, am_call12_e, am_call13_e, am_call14_e, li_0, li_1, li_2, li_3, li_4, li_5, li_6, li_7, li_8, li_9, li_10, li_11, li_12, li_13, li_14, li_15, li_16, li_19, li_20, li_21, li_22, li_23, li_32, li_36, li_48, li_50, li_60, li_63, li_74, li_75, li_98, li_99, li_100, li_199, li_200, li_256, li_7919, li_65537, li_1000000, li_1000001, li_10000000, ll_0, ll_1, ll_100, ll_65535]) 0 (Nat.zero_le _) am_fuel (by rw [fuelE]; omega) (nI 0) rfl
  rw [e, ha]
  rfl
theorem l_shares {g w a : Nat → Int32} {N : Nat} {v : Nat → Nat} (hN : N ≤ 12) (hw : ∀ k, k < N → w k = nI (v k)) (hb : ∀ k, k < N → v k ≤ 1000000) (hS : 0 < sumN v N) : ∃ a', (∀ k, k < N → a' k = nI (faR (tmN v N) 1 k N)) ∧ am_loop2 (F_L_choose_B143 (nI N) (fun x4 => am_loop3 (F_L_choose_B177 (nI N) (fun f6 => some (g, f6)) (lN (sumN v N)) w x4) am_fuel (nI 0) (nI 0) a) (lN (sumN v N)) w) am_fuel (nI 0) (nI 0) = some (g, a') := by
  have hS2 := (sq_le hN hb).1
  have hfl := fl_le hS
  have htm := tm_sum hS
  have hpr : ∀ k, k < N → N * v k ≤ 12 * 1000000 := fun k hk => Nat.mul_le_mul hN (hb k hk)
  have hts : ∀ k, k < N → tmN v N k ≤ N := by
    intro k hk
    have h1 : sumN (tmN v N) (k + 1) ≤ sumN (tmN v N) N := sumN_mono (by omega)
    have h2 : sumN (tmN v N) (k + 1) = sumN (tmN v N) k + tmN v N k := rfl
    omega
  have hfs : ∀ j, j ≤ N → sumN (flN v N) j ≤ N := fun j hj => by
    have : sumN (flN v N) j ≤ sumN (flN v N) N := sumN_mono hj
    omega
  obtain ⟨x4, h4, e⟩ := for2L (b := F_L_choose_B143 (nI N) (fun x4 => am_loop3 (F_L_choose_B177 (nI N) (fun f6 => some (g, f6)) (lN (sumN v N)) w x4) am_fuel (nI 0) (nI 0) a) (lN (sumN v N)) w) nI N (fun j x => x = nI (sumN (flN v N) j)) (fun x4 => am_loop3 (F_L_choose_B177 (nI N) (fun f6 => some (g, f6)) (lN (sumN v N)) w x4) am_fuel (nI 0) (nI 0) a) (by
    rintro rec x j hj rfl
    refine ⟨_, rfl, ?_⟩
    have h3 := hpr j hj
    have h4 := hb j hj
    unfold F_L_choose_B143
    simp only [am_let]
    simp (disch := omega) only [if_true, if_false, am_in_n, am_nz_n, am_nzl_n, sI_add, sI_mul, sI_cl, sI_le, sI_lt, sI_eq, sI_l, lN_add, lN_mul, lN_i, sg_gt, sg_le, sg_eq, sg_ge, sI_rem, sI_div, sI_rem2, sL_rem, sL_div, sL_rem2, sI_sub, sI_m1, sI_m1n, sI_or, if_pos, if_neg, Option.bind_some, am_call2_e, am_call3_e, am_call4_e, am_call5_e, am_call6_e, am_call7_e, am_call8_e, am_call9_e, am_call10_e, am_call11_e, am_call12_e, am_call13_e, am_call14_e, li_0, li_1, li_2, li_3, li_4, li_5, li_6, li_7, li_8, li_9, li_10, li_11, li_12, li_13, li_14, li_15, li_16, li_19, li_20, li_21, li_22, li_23, li_32, li_36, li_48, li_50, li_60, li_63, li_74, li_75, li_98, li_99, li_100, li_199, li_200, li_256, li_7919, li_65537, li_1000000, li_1000001, li_10000000, ll_0, ll_1, ll_100, ll_65535, hw j hj]
    rfl) (by
    rintro rec x -
    unfold F_L_choose_B143
    simp only [am_let]
    simp (disch := omega) only [if_true, if_false, am_in_n, am_nz_n, am_nzl_n, sI_add, sI_mul, sI_cl, sI_le, sI_lt, sI_eq, sI_l, lN_add, lN_mul, lN_i, sg_gt, sg_le, sg_eq, sg_ge, sI_rem, sI_div, sI_rem2, sL_rem, sL_div, sL_rem2, sI_sub, sI_m1, sI_m1n, sI_or, if_pos, if_neg, Option.bind_some, am_call2_e, am_call3_e, am_call4_e, am_call5_e, am_call6_e, am_call7_e, am_call8_e, am_call9_e, am_call10_e, am_call11_e, am_call12_e, am_call13_e, am_call14_e, li_0, li_1, li_2, li_3, li_4, li_5, li_6, li_7, li_8, li_9, li_10, li_11, li_12, li_13, li_14, li_15, li_16, li_19, li_20, li_21, li_22, li_23, li_32, li_36, li_48, li_50, li_60, li_63, li_74, li_75, li_98, li_99, li_100, li_199, li_200, li_256, li_7919, li_65537, li_1000000, li_1000001, li_10000000, ll_0, ll_1, ll_100, ll_65535]) 0 (Nat.zero_le _) am_fuel (by rw [fuelE]; omega) (nI 0) rfl
  rw [e]
  subst h4
  have hwant : wantN v N ≤ N := Nat.sub_le _ _
  have inner : ∀ (K : Int32 → (Nat → Int32) → Option ((Nat → Int32) × (Nat → Int32))) (k : Nat) (f : Nat → Int32), k < N → laid (tmN v N) k f → ∃ f', laid (tmN v N) (k + 1) f' ∧ am_loop3 (F_L_choose_B302 (nI (tmN v N k)) K (nI k)) am_fuel (nI (sumN (tmN v N) k)) (nI 0) f = K (nI (sumN (tmN v N) (k + 1))) f' := by
    intro K k f hk hg
    have h5 : sumN (tmN v N) (k + 1) ≤ sumN (tmN v N) N := sumN_mono (by omega)
    have h6 : sumN (tmN v N) (k + 1) = sumN (tmN v N) k + tmN v N k := rfl
    have h7 := hts k hk
    obtain ⟨x, f', ⟨hx, hg1, hg2⟩, e⟩ := for3M (b := F_L_choose_B302 (nI (tmN v N k)) K (nI k)) nI (tmN v N k) (fun j x f' => x = nI (sumN (tmN v N) k + j) ∧ (∀ i, i < sumN (tmN v N) k → f' i = f i) ∧ ∀ i, i < j → f' (sumN (tmN v N) k + i) = nI k) (fun x f' => K x f') (by
      rintro rec x f' j hj ⟨rfl, ha, hc⟩
      refine ⟨nI (sumN (tmN v N) k + (j + 1)), upd f' (sumN (tmN v N) k + j) (nI k), ⟨rfl, fun i hi => by rw [upd_n (by omega)]; exact ha i hi, fun i hi => ?_⟩, ?_⟩
      · by_cases hij : i = j
        · subst hij; exact upd_s _ _ _
        · rw [upd_n (by omega)]; exact hc i (by omega)
      · unfold F_L_choose_B302
        simp only [am_let]
        have e9 : sumN (tmN v N) k + j + 1 = sumN (tmN v N) k + (j + 1) := by omega
        simp (disch := omega) only [if_true, if_false, am_in_n, am_nz_n, am_nzl_n, sI_add, sI_mul, sI_cl, sI_le, sI_lt, sI_eq, sI_l, lN_add, lN_mul, lN_i, sg_gt, sg_le, sg_eq, sg_ge, sI_rem, sI_div, sI_rem2, sL_rem, sL_div, sL_rem2, sI_sub, sI_m1, sI_m1n, sI_or, if_pos, if_neg, Option.bind_some, am_call2_e, am_call3_e, am_call4_e, am_call5_e, am_call6_e, am_call7_e, am_call8_e, am_call9_e, am_call10_e, am_call11_e, am_call12_e, am_call13_e, am_call14_e, li_0, li_1, li_2, li_3, li_4, li_5, li_6, li_7, li_8, li_9, li_10, li_11, li_12, li_13, li_14, li_15, li_16, li_19, li_20, li_21, li_22, li_23, li_32, li_36, li_48, li_50, li_60, li_63, li_74, li_75, li_98, li_99, li_100, li_199, li_200, li_256, li_7919, li_65537, li_1000000, li_1000001, li_10000000, ll_0, ll_1, ll_100, ll_65535, e9]) (by
      rintro rec x f' ⟨rfl, -⟩
      unfold F_L_choose_B302
      simp (disch := omega) only [if_true, if_false, am_in_n, am_nz_n, am_nzl_n, sI_add, sI_mul, sI_cl, sI_le, sI_lt, sI_eq, sI_l, lN_add, lN_mul, lN_i, sg_gt, sg_le, sg_eq, sg_ge, sI_rem, sI_div, sI_rem2, sL_rem, sL_div, sL_rem2, sI_sub, sI_m1, sI_m1n, sI_or, if_pos, if_neg, Option.bind_some, am_call2_e, am_call3_e, am_call4_e, am_call5_e, am_call6_e, am_call7_e, am_call8_e, am_call9_e, am_call10_e, am_call11_e, am_call12_e, am_call13_e, am_call14_e, li_0, li_1, li_2, li_3, li_4, li_5, li_6, li_7, li_8, li_9, li_10, li_11, li_12, li_13, li_14, li_15, li_16, li_19, li_20, li_21, li_22, li_23, li_32, li_36, li_48, li_50, li_60, li_63, li_74, li_75, li_98, li_99, li_100, li_199, li_200, li_256, li_7919, li_65537, li_1000000, li_1000001, li_10000000, ll_0, ll_1, ll_100, ll_65535]) 0 (Nat.zero_le _) am_fuel (by rw [fuelE]; omega) (nI (sumN (tmN v N) k)) f ⟨rfl, fun _ _ => rfl, fun i hi => absurd hi (Nat.not_lt_zero i)⟩
    refine ⟨f', fun j hj => ?_, by rw [e, hx]; rfl⟩
    by_cases hjl : j < sumN (tmN v N) k
    · obtain ⟨e1, a1, a2, a3, a4⟩ := hg j hjl
      exact ⟨e1, by omega, by rw [hg1 j hjl]; exact a2, a3, a4⟩
    · have := hg2 (j - sumN (tmN v N) k) (by omega)
      rw [show sumN (tmN v N) k + (j - sumN (tmN v N) k) = j by omega] at this
      exact ⟨k, by omega, this, by omega, hj⟩
  obtain ⟨x, f, ⟨-, hg⟩, e2⟩ := for3M (b := F_L_choose_B177 (nI N) (fun f6 => some (g, f6)) (lN (sumN v N)) w (nI (sumN (flN v N) N))) nI N (fun j x f => x = nI (sumN (tmN v N) j) ∧ laid (tmN v N) j f) (fun x f => some (g, f)) (by
    rintro rec x f j hj ⟨rfl, hg⟩
    have h3 := hpr j hj
    have h4 := hb j hj
    have h7 := hts j hj
    have hrk : rankN (rsN v N) N j ≤ N := cntN_le N
    have hfn := hfs N (Nat.le_refl N)
    have er : N * v j % sumN v N = rsN v N j := rfl
    have ew : N - sumN (flN v N) N = wantN v N := rfl
    unfold F_L_choose_B177
    simp only [am_let]
    simp (disch := omega) only [li_0, li_1, li_2, li_3, li_4, li_5, li_6, li_7, li_8, li_9, li_10, li_11, li_12, li_13, li_14, li_15, li_16, li_19, li_20, li_21, li_22, li_23, li_32, li_36, li_48, li_50, li_60, li_63, li_74, li_75, li_98, li_99, li_100, li_199, li_200, li_256, li_7919, li_65537, li_1000000, li_1000001, li_10000000, ll_0, ll_1, ll_100, ll_65535, sI_le, if_neg, sI_cl, am_in_n, sI_l, hw j hj, lN_mul, am_nzl_n, sL_div, sL_rem2, er, lN_i, sI_sub, ew]
    rw [l_ahead _ hN hj hw hb hS]
    obtain ⟨g', hg', e3⟩ := inner (fun x17 f18 => rec x17 (nI j + nI 1) f18) j f hj hg
    refine ⟨nI (sumN (tmN v N) (j + 1)), g', ⟨rfl, hg'⟩, ?_⟩
    rw [sI_add] at e3
    by_cases hr : rankN (rsN v N) N j < wantN v N
    · have e4 : tmN v N j = N * v j / sumN v N + 1 := by unfold tmN flN; rw [if_pos hr]
      rw [if_neg (by rw [sI_le (by omega) (by omega)]; omega), sI_add, ← e4, sI_add]
      exact e3
    · have e4 : tmN v N j = N * v j / sumN v N := by unfold tmN flN; rw [if_neg hr]; rfl
      rw [if_pos (by rw [sI_le (by omega) (by omega)]; omega), sI_add, Nat.add_zero, ← e4, sI_add]
      exact e3) (by
    rintro rec x f -
    unfold F_L_choose_B177
    simp only [am_let]
    simp (disch := omega) only [if_true, if_false, am_in_n, am_nz_n, am_nzl_n, sI_add, sI_mul, sI_cl, sI_le, sI_lt, sI_eq, sI_l, lN_add, lN_mul, lN_i, sg_gt, sg_le, sg_eq, sg_ge, sI_rem, sI_div, sI_rem2, sL_rem, sL_div, sL_rem2, sI_sub, sI_m1, sI_m1n, sI_or, if_pos, if_neg, Option.bind_some, am_call2_e, am_call3_e, am_call4_e, am_call5_e, am_call6_e, am_call7_e, am_call8_e, am_call9_e, am_call10_e, am_call11_e, am_call12_e, am_call13_e, am_call14_e, li_0, li_1, li_2, li_3, li_4, li_5, li_6, li_7, li_8, li_9, li_10, li_11, li_12, li_13, li_14, li_15, li_16, li_19, li_20, li_21, li_22, li_23, li_32, li_36, li_48, li_50, li_60, li_63, li_74, li_75, li_98, li_99, li_100, li_199, li_200, li_256, li_7919, li_65537, li_1000000, li_1000001, li_10000000, ll_0, ll_1, ll_100, ll_65535]) 0 (Nat.zero_le _) am_fuel (by rw [fuelE]; omega) (nI 0) a ⟨rfl, fun j hj => absurd hj (Nat.not_lt_zero j)⟩
  exact ⟨f, fun k hk => laid_at hg (by omega), e2⟩
theorem l_choose {g w a : Nat → Int32} {N z of sc : Nat} {v : Nat → Nat} (h0 : g 0 = nI N) (h2 : g 2 = nI z) (h7 : g 7 = nI of) (hz : z < 65537) (hof : of ≤ 99) (hsc : sc ≤ 2) (hN : N ≤ 12) (hw : ∀ k, k < N → w k = nI (v k)) (hb : ∀ k, k < N → v k ≤ 1000000) (hS : 0 < sumN v N) : ∃ g' a', (∀ k, k < N → a' k = nI (chW sc of N v z k)) ∧ g' 2 = nI (nzW sc N z) ∧ (∀ i, i ≠ 2 → g' i = g i) ∧ F_L_choose g w a (nI sc) = some (g', a') := by
  have hS2 := (sq_le hN hb).1
  unfold F_L_choose chW nzW
  rw [l_all h0 hN hw]
  have h3 : sc = 0 ∨ sc = 1 ∨ sc = 2 := by omega
  rcases h3 with rfl | rfl | rfl
  · obtain ⟨a', k1, k2⟩ := l_points0 (g := g) (a := a) h7 hN hof hw hb hS
    refine ⟨g, a', fun k hk => k1 k hk, h2, fun _ _ => rfl, ?_⟩
    simp only [am_let]
    simp (disch := omega) only [li_0, li_1, li_2, li_3, li_4, li_5, li_6, li_7, li_8, li_9, li_10, li_11, li_12, li_13, li_14, li_15, li_16, li_19, li_20, li_21, li_22, li_23, li_32, li_36, li_48, li_50, li_60, li_63, li_74, li_75, li_98, li_99, li_100, li_199, li_200, li_256, li_7919, li_65537, li_1000000, li_1000001, li_10000000, ll_0, ll_1, ll_100, ll_65535, sI_cl, h0, Option.bind_some, sI_l, sI_le, if_neg]
    exact k2
  · obtain ⟨g', a', k1, k2, k3, k4⟩ := l_points1 (g := g) (a := a) h2 hz hN hw hb hS
    refine ⟨g', a', fun k hk => k1 k hk, k2, k3, ?_⟩
    simp only [am_let]
    simp (disch := omega) only [li_0, li_1, li_2, li_3, li_4, li_5, li_6, li_7, li_8, li_9, li_10, li_11, li_12, li_13, li_14, li_15, li_16, li_19, li_20, li_21, li_22, li_23, li_32, li_36, li_48, li_50, li_60, li_63, li_74, li_75, li_98, li_99, li_100, li_199, li_200, li_256, li_7919, li_65537, li_1000000, li_1000001, li_10000000, ll_0, ll_1, ll_100, ll_65535, sI_cl, h0, Option.bind_some, sI_l, sI_le, if_neg]
    exact k4
  · obtain ⟨a', k1, k2⟩ := l_shares (g := g) (a := a) hN hw hb hS
    refine ⟨g, a', fun k hk => k1 k hk, h2, fun _ _ => rfl, ?_⟩
    simp only [am_let]
    simp (disch := omega) only [li_0, li_1, li_2, li_3, li_4, li_5, li_6, li_7, li_8, li_9, li_10, li_11, li_12, li_13, li_14, li_15, li_16, li_19, li_20, li_21, li_22, li_23, li_32, li_36, li_48, li_50, li_60, li_63, li_74, li_75, li_98, li_99, li_100, li_199, li_200, li_256, li_7919, li_65537, li_1000000, li_1000001, li_10000000, ll_0, ll_1, ll_100, ll_65535, sI_cl, h0, Option.bind_some, sI_l, sI_le, if_pos]
    exact k2
