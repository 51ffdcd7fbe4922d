-- the law's own numbers: sums, counts, greatest divisors, noises, unlike ones
theorem l_noise {g : Nat → Int32} {z : Nat} (h2 : g 2 = nI z) (hz : z < 65537) : F_L_noise g = some (nI ((z * 75 + 74) % 65537), upd g 2 (nI ((z * 75 + 74) % 65537))) := by
  unfold F_L_noise
  have e : (75 * z + 74) % 65537 = (z * 75 + 74) % 65537 := by rw [Nat.mul_comm]
  rw [am_let_e]
  simp (disch := omega) only [li_0, li_1, li_2, li_3, li_4, li_5, li_6, li_7, li_8, li_9, li_10, li_11, li_12, li_13, li_14, li_15, li_16, li_19, li_20, li_21, li_22, li_23, li_32, li_36, li_48, li_50, li_60, li_63, li_74, li_75, li_98, li_99, li_100, li_199, li_200, li_256, li_7919, li_65537, li_1000000, li_1000001, li_10000000, ll_0, ll_1, ll_100, ll_65535, sI_cl, h2, sI_mul, sI_add, sI_div, sI_rem2, e, upd_s]
theorem l_all {g w : Nat → Int32} {N : Nat} {v : Nat → Nat} (h0 : g 0 = nI N) (hN : N ≤ 12) (hw : ∀ k, k < N → w k = nI (v k)) : F_L_all g w = some (nI (sumN v N)) := by
  unfold F_L_all
  simp only [am_let, li_0, li_1, li_2, li_3, li_4, li_5, li_6, li_7, li_8, li_9, li_10, li_11, li_12, li_13, li_14, li_15, li_16, li_19, li_20, li_21, li_22, li_23, li_32, li_36, li_48, li_50, li_60, li_63, li_74, li_75, li_98, li_99, li_100, li_199, li_200, li_256, li_7919, li_65537, li_1000000, li_1000001, li_10000000, ll_0, ll_1, ll_100, ll_65535]
  obtain ⟨a, ha, e⟩ := for2L (b := F_L_all_B4 g (fun x1 => some x1) w) nI N (fun j a => a = nI (sumN v j)) (fun a => some a) (by
    rintro rec a j hj rfl
    refine ⟨_, rfl, ?_⟩
    unfold F_L_all_B4
    simp (disch := omega) only [if_true, if_false, am_let, am_in_n, am_nz_n, am_nzl_n, sI_add, sI_mul, sI_cl, sI_le, sI_lt, sI_eq, sI_l, lN_add, lN_mul, lN_i, sg_gt, sg_le, sg_eq, sg_ge, sI_rem, sI_div, sI_rem2, sL_rem, sL_div, sL_rem2, sI_sub, sI_m1, sI_m1n, sI_or, if_pos, if_neg, Option.bind_some, am_call2_e, am_call3_e, am_call4_e, am_call5_e, am_call6_e, am_call7_e, am_call8_e, am_call9_e, am_call10_e, am_call11_e, am_call12_e, am_call13_e, am_call14_e, li_0, li_1, li_2, li_3, li_4, li_5, li_6, li_7, li_8, li_9, li_10, li_11, li_12, li_13, li_14, li_15, li_16, li_19, li_20, li_21, li_22, li_23, li_32, li_36, li_48, li_50, li_60, li_63, li_74, li_75, li_98, li_99, li_100, li_199, li_200, li_256, li_7919, li_65537, li_1000000, li_1000001, li_10000000, ll_0, ll_1, ll_100, ll_65535, h0, hw j hj]
    rfl) (by
    rintro rec a rfl
    unfold F_L_all_B4
    simp (disch := omega) only [if_true, if_false, am_let, am_in_n, am_nz_n, am_nzl_n, sI_add, sI_mul, sI_cl, sI_le, sI_lt, sI_eq, sI_l, lN_add, lN_mul, lN_i, sg_gt, sg_le, sg_eq, sg_ge, sI_rem, sI_div, sI_rem2, sL_rem, sL_div, sL_rem2, sI_sub, sI_m1, sI_m1n, sI_or, if_pos, if_neg, Option.bind_some, am_call2_e, am_call3_e, am_call4_e, am_call5_e, am_call6_e, am_call7_e, am_call8_e, am_call9_e, am_call10_e, am_call11_e, am_call12_e, am_call13_e, am_call14_e, li_0, li_1, li_2, li_3, li_4, li_5, li_6, li_7, li_8, li_9, li_10, li_11, li_12, li_13, li_14, li_15, li_16, li_19, li_20, li_21, li_22, li_23, li_32, li_36, li_48, li_50, li_60, li_63, li_74, li_75, li_98, li_99, li_100, li_199, li_200, li_256, li_7919, li_65537, li_1000000, li_1000001, li_10000000, ll_0, ll_1, ll_100, ll_65535, h0]) 0 (Nat.zero_le _) am_fuel (by rw [fuelE]; omega) (nI 0) rfl
  rw [e, ha]
theorem l_counts {g w : Nat → Int32} {N : Nat} {v : Nat → Nat} (h0 : g 0 = nI N) (hN : N ≤ 12) (hw : ∀ k, k < N → w k = nI (v k)) (hb : ∀ k, k < N → v k ≤ 1000000) (hp : 0 < sumN v N) : F_L_counts g w = some (nI (sumN v N * sumN v N / sumN (fun k => v k * v k) N)) := by
  obtain ⟨b1, b2⟩ := sq_le hN hb
  have b3 := sq_pos hp
  unfold F_L_counts
  rw [l_all h0 hN hw]
  simp (disch := omega) only [am_let, li_0, li_1, li_2, li_3, li_4, li_5, li_6, li_7, li_8, li_9, li_10, li_11, li_12, li_13, li_14, li_15, li_16, li_19, li_20, li_21, li_22, li_23, li_32, li_36, li_48, li_50, li_60, li_63, li_74, li_75, li_98, li_99, li_100, li_199, li_200, li_256, li_7919, li_65537, li_1000000, li_1000001, li_10000000, ll_0, ll_1, ll_100, ll_65535, Option.bind_some, sI_l]
  obtain ⟨y, hy, e⟩ := for2L (b := F_L_counts_B5 g (fun x3 => am_nzl x3 (some (lN (sumN v N) * lN (sumN v N) / x3).toInt32)) w) nI N (fun j y => y = lN (sumN (fun k => v k * v k) j)) (fun x3 => am_nzl x3 (some (lN (sumN v N) * lN (sumN v N) / x3).toInt32)) (by
    rintro rec y j hj rfl
    refine ⟨_, rfl, ?_⟩
    have := hb j hj
    unfold F_L_counts_B5
    simp (disch := omega) only [if_true, if_false, am_let, am_in_n, am_nz_n, am_nzl_n, sI_add, sI_mul, sI_cl, sI_le, sI_lt, sI_eq, sI_l, lN_add, lN_mul, lN_i, sg_gt, sg_le, sg_eq, sg_ge, sI_rem, sI_div, sI_rem2, sL_rem, sL_div, sL_rem2, sI_sub, sI_m1, sI_m1n, sI_or, if_pos, if_neg, Option.bind_some, am_call2_e, am_call3_e, am_call4_e, am_call5_e, am_call6_e, am_call7_e, am_call8_e, am_call9_e, am_call10_e, am_call11_e, am_call12_e, am_call13_e, am_call14_e, li_0, li_1, li_2, li_3, li_4, li_5, li_6, li_7, li_8, li_9, li_10, li_11, li_12, li_13, li_14, li_15, li_16, li_19, li_20, li_21, li_22, li_23, li_32, li_36, li_48, li_50, li_60, li_63, li_74, li_75, li_98, li_99, li_100, li_199, li_200, li_256, li_7919, li_65537, li_1000000, li_1000001, li_10000000, ll_0, ll_1, ll_100, ll_65535, h0, hw j hj]
    rfl) (by
    rintro rec y rfl
    unfold F_L_counts_B5
    simp (disch := omega) only [if_true, if_false, am_let, am_in_n, am_nz_n, am_nzl_n, sI_add, sI_mul, sI_cl, sI_le, sI_lt, sI_eq, sI_l, lN_add, lN_mul, lN_i, sg_gt, sg_le, sg_eq, sg_ge, sI_rem, sI_div, sI_rem2, sL_rem, sL_div, sL_rem2, sI_sub, sI_m1, sI_m1n, sI_or, if_pos, if_neg, Option.bind_some, am_call2_e, am_call3_e, am_call4_e, am_call5_e, am_call6_e, am_call7_e, am_call8_e, am_call9_e, am_call10_e, am_call11_e, am_call12_e, am_call13_e, am_call14_e, li_0, li_1, li_2, li_3, li_4, li_5, li_6, li_7, li_8, li_9, li_10, li_11, li_12, li_13, li_14, li_15, li_16, li_19, li_20, li_21, li_22, li_23, li_32, li_36, li_48, li_50, li_60, li_63, li_74, li_75, li_98, li_99, li_100, li_199, li_200, li_256, li_7919, li_65537, li_1000000, li_1000001, li_10000000, ll_0, ll_1, ll_100, ll_65535, h0]) 0 (Nat.zero_le _) am_fuel (by rw [fuelE]; omega) (lN 0) rfl
  have b4 : sumN v N * sumN v N ≤ 12000000 * 12000000 := Nat.mul_le_mul b1 b1
  rw [lN_mul] at e ⊢
  rw [e, hy]
  simp (disch := omega) only [if_true, if_false, am_let, am_in_n, am_nz_n, am_nzl_n, sI_add, sI_mul, sI_cl, sI_le, sI_lt, sI_eq, sI_l, lN_add, lN_mul, lN_i, sg_gt, sg_le, sg_eq, sg_ge, sI_rem, sI_div, sI_rem2, sL_rem, sL_div, sL_rem2, sI_sub, sI_m1, sI_m1n, sI_or, if_pos, if_neg, Option.bind_some, am_call2_e, am_call3_e, am_call4_e, am_call5_e, am_call6_e, am_call7_e, am_call8_e, am_call9_e, am_call10_e, am_call11_e, am_call12_e, am_call13_e, am_call14_e, li_0, li_1, li_2, li_3, li_4, li_5, li_6, li_7, li_8, li_9, li_10, li_11, li_12, li_13, li_14, li_15, li_16, li_19, li_20, li_21, li_22, li_23, li_32, li_36, li_48, li_50, li_60, li_63, li_74, li_75, li_98, li_99, li_100, li_199, li_200, li_256, li_7919, li_65537, li_1000000, li_1000001, li_10000000, ll_0, ll_1, ll_100, ll_65535]
theorem l_euclid (K : Int32 → Option (Int32 × (Nat → Int32))) (a b : Nat) (ha : a < 2147483648) (hb : b < 2147483648) : am_loop2 (F_L_thins_B21 K) am_fuel (nI a) (nI b) = K (nI (Nat.gcd a b)) := by
  have one : ∀ (a b n : Nat), a < 2147483648 → b < 2147483648 → am_loop2 (F_L_thins_B21 K) (n + 1) (nI a) (nI b) = if b = 0 then K (nI a) else am_loop2 (F_L_thins_B21 K) n (nI b) (nI (a % b)) := by
    intro a b n ha hb
    show F_L_thins_B21 K (am_loop2 (F_L_thins_B21 K) n) (nI a) (nI b) = _
    generalize am_loop2 (F_L_thins_B21 K) n = rec
    unfold F_L_thins_B21
    by_cases h0 : b = 0
    · simp (disch := omega) only [if_true, if_false, am_let, am_in_n, am_nz_n, am_nzl_n, sI_add, sI_mul, sI_cl, sI_le, sI_lt, sI_eq, sI_l, lN_add, lN_mul, lN_i, sg_gt, sg_le, sg_eq, sg_ge, sI_rem, sI_div, sI_rem2, sL_rem, sL_div, sL_rem2, sI_sub, sI_m1, sI_m1n, sI_or, if_pos, if_neg, Option.bind_some, am_call2_e, am_call3_e, am_call4_e, am_call5_e, am_call6_e, am_call7_e, am_call8_e, am_call9_e, am_call10_e, am_call11_e, am_call12_e, am_call13_e, am_call14_e, li_0, li_1, li_2, li_3, li_4, li_5, li_6, li_7, li_8, li_9, li_10, li_11, li_12, li_13, li_14, li_15, li_16, li_19, li_20, li_21, li_22, li_23, li_32, li_36, li_48, li_50, li_60, li_63, li_74, li_75, li_98, li_99, li_100, li_199, li_200, li_256, li_7919, li_65537, li_1000000, li_1000001, li_10000000, ll_0, ll_1, ll_100, ll_65535, h0]
    · simp (disch := omega) only [if_true, if_false, am_let, am_in_n, am_nz_n, am_nzl_n, sI_add, sI_mul, sI_cl, sI_le, sI_lt, sI_eq, sI_l, lN_add, lN_mul, lN_i, sg_gt, sg_le, sg_eq, sg_ge, sI_rem, sI_div, sI_rem2, sL_rem, sL_div, sL_rem2, sI_sub, sI_m1, sI_m1n, sI_or, if_pos, if_neg, Option.bind_some, am_call2_e, am_call3_e, am_call4_e, am_call5_e, am_call6_e, am_call7_e, am_call8_e, am_call9_e, am_call10_e, am_call11_e, am_call12_e, am_call13_e, am_call14_e, li_0, li_1, li_2, li_3, li_4, li_5, li_6, li_7, li_8, li_9, li_10, li_11, li_12, li_13, li_14, li_15, li_16, li_19, li_20, li_21, li_22, li_23, li_32, li_36, li_48, li_50, li_60, li_63, li_74, li_75, li_98, li_99, li_100, li_199, li_200, li_256, li_7919, li_65537, li_1000000, li_1000001, li_10000000, ll_0, ll_1, ll_100, ll_65535]
  have key : ∀ (k a b n : Nat), b < 2 ^ k → 2 * k < n → a < 2147483648 → b < 2147483648 → am_loop2 (F_L_thins_B21 K) n (nI a) (nI b) = K (nI (Nat.gcd a b)) := by
    intro k
    induction k with
    | zero =>
      intro a b n h1 h2 ha hb
      obtain ⟨n, rfl⟩ : ∃ m, n = m + 1 := ⟨n - 1, by omega⟩
      have h0 : b = 0 := by simpa using h1
      rw [one a b n ha hb, if_pos h0, h0, Nat.gcd_zero_right]
    | succ k ih =>
      intro a b n h1 h2 ha hb
      obtain ⟨n, rfl⟩ : ∃ m, n = m + 1 + 1 := ⟨n - 2, by omega⟩
      rw [one a b _ ha hb]
      by_cases h0 : b = 0
      · rw [if_pos h0, h0, Nat.gcd_zero_right]
      · have hm : a % b < b := Nat.mod_lt _ (by omega)
        rw [if_neg h0, one b (a % b) _ hb (by omega)]
        by_cases h3 : a % b = 0
        · rw [if_pos h3, Nat.gcd_comm, Nat.gcd_rec, h3, Nat.gcd_zero_left]
        · have h4 := half_rem (a := a) (b := b) (by omega) (by omega)
          have h5 : 2 ^ (k + 1) = 2 * 2 ^ k := by rw [Nat.pow_succ, Nat.mul_comm]
          rw [if_neg h3, ih (a % b) (b % (a % b)) n (by omega) (by omega) (by omega) (by omega), Nat.gcd_comm (a % b), ← Nat.gcd_rec, Nat.gcd_comm (a % b), Nat.gcd_comm a b, Nat.gcd_rec b a, Nat.gcd_comm]
  rw [fuelE]
  exact key 31 a b _ (by omega) (by omega) ha hb
theorem l_gcd {g w : Nat → Int32} {N : Nat} {v : Nat → Nat} (K : Int32 → Option (Int32 × (Nat → Int32))) (h0 : g 0 = nI N) (hN : N ≤ 12) (hw : ∀ k, k < N → w k = nI (v k)) (hb : ∀ k, k < N → v k < 2147483648) : am_loop2 (F_L_thins_B7 g K w) am_fuel (nI 0) (nI 0) = K (nI (gcdN v N)) := by
  obtain ⟨a, ha, e⟩ := for2L (b := F_L_thins_B7 g K w) nI N (fun j a => a = nI (gcdN v j)) K (by
    rintro rec a j hj rfl
    refine ⟨_, rfl, ?_⟩
    have h1 := hb j hj
    have h2 := gcd_lt (N := j) (w := v) (M := 2147483648) (by omega) (fun k hk => hb k (by omega))
    unfold F_L_thins_B7
    simp only [am_let]
    simp (disch := omega) only [li_0, li_1, li_2, li_3, li_4, li_5, li_6, li_7, li_8, li_9, li_10, li_11, li_12, li_13, li_14, li_15, li_16, li_19, li_20, li_21, li_22, li_23, li_32, li_36, li_48, li_50, li_60, li_63, li_74, li_75, li_98, li_99, li_100, li_199, li_200, li_256, li_7919, li_65537, li_1000000, li_1000001, li_10000000, ll_0, ll_1, ll_100, ll_65535, sI_cl, h0, sI_le, if_neg, am_in_n, hw j hj]
    rw [l_euclid _ _ _ h2 h1, sI_add]
    rfl) (by
    rintro rec a rfl
    unfold F_L_thins_B7
    simp (disch := omega) only [if_true, if_false, am_let, am_in_n, am_nz_n, am_nzl_n, sI_add, sI_mul, sI_cl, sI_le, sI_lt, sI_eq, sI_l, lN_add, lN_mul, lN_i, sg_gt, sg_le, sg_eq, sg_ge, sI_rem, sI_div, sI_rem2, sL_rem, sL_div, sL_rem2, sI_sub, sI_m1, sI_m1n, sI_or, if_pos, if_neg, Option.bind_some, am_call2_e, am_call3_e, am_call4_e, am_call5_e, am_call6_e, am_call7_e, am_call8_e, am_call9_e, am_call10_e, am_call11_e, am_call12_e, am_call13_e, am_call14_e, li_0, li_1, li_2, li_3, li_4, li_5, li_6, li_7, li_8, li_9, li_10, li_11, li_12, li_13, li_14, li_15, li_16, li_19, li_20, li_21, li_22, li_23, li_32, li_36, li_48, li_50, li_60, li_63, li_74, li_75, li_98, li_99, li_100, li_199, li_200, li_256, li_7919, li_65537, li_1000000, li_1000001, li_10000000, ll_0, ll_1, ll_100, ll_65535, h0]) 0 (Nat.zero_le _) am_fuel (by rw [fuelE]; omega) (nI 0) rfl
  rw [e, ha]
theorem l_thins {g w : Nat → Int32} {N : Nat} {v : Nat → Nat} (h0 : g 0 = nI N) (hN : N ≤ 12) (hw : ∀ k, k < N → w k = nI (v k)) (hb : ∀ k, k < N → v k < 2147483648) : ∃ f', (∀ k, k < N → f' k = nI (v k / gcdN v N)) ∧ F_L_thins g w = some (nI (maxN (fun k => v k / gcdN v N) N), f') := by
  have hg2 := gcd_lt (M := 2147483648) (by omega) hb
  have hq : ∀ k, k < N → v k / gcdN v N < 2147483648 := fun k hk => Nat.lt_of_le_of_lt (Nat.div_le_self _ _) (hb k hk)
  unfold F_L_thins
  simp only [am_let, li_0, li_1, li_2, li_3, li_4, li_5, li_6, li_7, li_8, li_9, li_10, li_11, li_12, li_13, li_14, li_15, li_16, li_19, li_20, li_21, li_22, li_23, li_32, li_36, li_48, li_50, li_60, li_63, li_74, li_75, li_98, li_99, li_100, li_199, li_200, li_256, li_7919, li_65537, li_1000000, li_1000001, li_10000000, ll_0, ll_1, ll_100, ll_65535]
  rw [l_gcd _ h0 hN hw hb]
  generalize hG : gcdN v N = G at *
  obtain ⟨x, f', ⟨hx, ha, hc⟩, e⟩ := for3M (b := F_L_thins_B51 g (fun x3 f4 => some (x3, f4)) (nI G)) nI N (fun j x f' => x = nI (maxN (fun k => v k / G) j) ∧ (∀ k, k < j → f' k = nI (v k / G)) ∧ (∀ k, j ≤ k → k < N → f' k = nI (v k))) (fun x3 f4 => some (x3, f4)) (by
    rintro rec x f' j hj ⟨rfl, ha, hc⟩
    have h1 := hb j hj
    have h3 := hq j hj
    have h2 : maxN (fun k => v k / G) j < 2147483648 := Nat.lt_of_le_of_lt (maxN_le (M := 2147483647) j (fun k hk => by have := hq k (by omega); omega)) (by omega)
    have e1 : maxN (fun k => v k / G) (j + 1) = if maxN (fun k => v k / G) j < v j / G then v j / G else maxN (fun k => v k / G) j := by
      show max (maxN (fun k => v k / G) j) (v j / G) = _
      by_cases h : maxN (fun k => v k / G) j < v j / G
      · rw [if_pos h]; omega
      · rw [if_neg h]; omega
    refine ⟨nI (maxN (fun k => v k / G) (j + 1)), upd f' j (nI (v j / G)), ⟨rfl, fun k hk => ?_, fun k hk hk2 => ?_⟩, ?_⟩
    · by_cases hkj : k = j
      · subst hkj; exact upd_s _ _ _
      · rw [upd_n (by omega)]; exact ha k (by omega)
    · rw [upd_n (by omega)]; exact hc k (by omega) hk2
    · unfold F_L_thins_B51
      rw [e1]
      by_cases hG0 : G = 0
      · have d0 : v j / G = 0 := by rw [hG0]; exact Nat.div_zero _
        rw [d0, if_neg (Nat.not_lt_zero _)]
        simp (disch := omega) only [if_true, if_false, am_let, am_in_n, am_nz_n, am_nzl_n, sI_add, sI_mul, sI_cl, sI_le, sI_lt, sI_eq, sI_l, lN_add, lN_mul, lN_i, sg_gt, sg_le, sg_eq, sg_ge, sI_rem, sI_div, sI_rem2, sL_rem, sL_div, sL_rem2, sI_sub, sI_m1, sI_m1n, sI_or, if_pos, if_neg, Option.bind_some, am_call2_e, am_call3_e, am_call4_e, am_call5_e, am_call6_e, am_call7_e, am_call8_e, am_call9_e, am_call10_e, am_call11_e, am_call12_e, am_call13_e, am_call14_e, li_0, li_1, li_2, li_3, li_4, li_5, li_6, li_7, li_8, li_9, li_10, li_11, li_12, li_13, li_14, li_15, li_16, li_19, li_20, li_21, li_22, li_23, li_32, li_36, li_48, li_50, li_60, li_63, li_74, li_75, li_98, li_99, li_100, li_199, li_200, li_256, li_7919, li_65537, li_1000000, li_1000001, li_10000000, ll_0, ll_1, ll_100, ll_65535, h0, upd_s]
      · by_cases h : maxN (fun k => v k / G) j < v j / G
        · simp (disch := omega) only [if_true, if_false, am_let, am_in_n, am_nz_n, am_nzl_n, sI_add, sI_mul, sI_cl, sI_le, sI_lt, sI_eq, sI_l, lN_add, lN_mul, lN_i, sg_gt, sg_le, sg_eq, sg_ge, sI_rem, sI_div, sI_rem2, sL_rem, sL_div, sL_rem2, sI_sub, sI_m1, sI_m1n, sI_or, if_pos, if_neg, Option.bind_some, am_call2_e, am_call3_e, am_call4_e, am_call5_e, am_call6_e, am_call7_e, am_call8_e, am_call9_e, am_call10_e, am_call11_e, am_call12_e, am_call13_e, am_call14_e, li_0, li_1, li_2, li_3, li_4, li_5, li_6, li_7, li_8, li_9, li_10, li_11, li_12, li_13, li_14, li_15, li_16, li_19, li_20, li_21, li_22, li_23, li_32, li_36, li_48, li_50, li_60, li_63, li_74, li_75, li_98, li_99, li_100, li_199, li_200, li_256, li_7919, li_65537, li_1000000, li_1000001, li_10000000, ll_0, ll_1, ll_100, ll_65535, h0, hc j (Nat.le_refl j) hj, upd_s]
        · simp (disch := omega) only [if_true, if_false, am_let, am_in_n, am_nz_n, am_nzl_n, sI_add, sI_mul, sI_cl, sI_le, sI_lt, sI_eq, sI_l, lN_add, lN_mul, lN_i, sg_gt, sg_le, sg_eq, sg_ge, sI_rem, sI_div, sI_rem2, sL_rem, sL_div, sL_rem2, sI_sub, sI_m1, sI_m1n, sI_or, if_pos, if_neg, Option.bind_some, am_call2_e, am_call3_e, am_call4_e, am_call5_e, am_call6_e, am_call7_e, am_call8_e, am_call9_e, am_call10_e, am_call11_e, am_call12_e, am_call13_e, am_call14_e, li_0, li_1, li_2, li_3, li_4, li_5, li_6, li_7, li_8, li_9, li_10, li_11, li_12, li_13, li_14, li_15, li_16, li_19, li_20, li_21, li_22, li_23, li_32, li_36, li_48, li_50, li_60, li_63, li_74, li_75, li_98, li_99, li_100, li_199, li_200, li_256, li_7919, li_65537, li_1000000, li_1000001, li_10000000, ll_0, ll_1, ll_100, ll_65535, h0, hc j (Nat.le_refl j) hj, upd_s]) (by
    rintro rec x f' ⟨rfl, ha, hc⟩
    unfold F_L_thins_B51
    simp (disch := omega) only [if_true, if_false, am_let, am_in_n, am_nz_n, am_nzl_n, sI_add, sI_mul, sI_cl, sI_le, sI_lt, sI_eq, sI_l, lN_add, lN_mul, lN_i, sg_gt, sg_le, sg_eq, sg_ge, sI_rem, sI_div, sI_rem2, sL_rem, sL_div, sL_rem2, sI_sub, sI_m1, sI_m1n, sI_or, if_pos, if_neg, Option.bind_some, am_call2_e, am_call3_e, am_call4_e, am_call5_e, am_call6_e, am_call7_e, am_call8_e, am_call9_e, am_call10_e, am_call11_e, am_call12_e, am_call13_e, am_call14_e, li_0, li_1, li_2, li_3, li_4, li_5, li_6, li_7, li_8, li_9, li_10, li_11, li_12, li_13, li_14, li_15, li_16, li_19, li_20, li_21, li_22, li_23, li_32, li_36, li_48, li_50, li_60, li_63, li_74, li_75, li_98, li_99, li_100, li_199, li_200, li_256, li_7919, li_65537, li_1000000, li_1000001, li_10000000, ll_0, ll_1, ll_100, ll_65535, h0]) 0 (Nat.zero_le _) am_fuel (by rw [fuelE]; omega) (nI 0) w ⟨rfl, fun k hk => absurd hk (Nat.not_lt_zero k), fun k _ hk => hw k hk⟩
  exact ⟨f', ha, by rw [e, hx]⟩
-- the last ones of their kind
def lastN (v : Nat → Int32) (i : Nat) : Nat → Bool
  | 0 => true
  | m + 1 => lastN v i m && (decide (m ≤ i) || decide (¬ v m = v i))
theorem lastN_iff {v : Nat → Int32} {i : Nat} : ∀ {m}, lastN v i m = true ↔ ∀ j, i < j → j < m → ¬ v j = v i
  | 0 => ⟨fun _ j _ h => absurd h (Nat.not_lt_zero j), fun _ => rfl⟩
  | m + 1 => by
    show (lastN v i m && (decide (m ≤ i) || decide (¬ v m = v i))) = true ↔ _
    rw [Bool.and_eq_true, lastN_iff, Bool.or_eq_true, decide_eq_true_eq, decide_eq_true_eq]
    constructor
    · rintro ⟨h1, h2⟩ j hj hm
      by_cases e : j = m
      · subst e
        rcases h2 with h2 | h2
        · omega
        · exact h2
      · exact h1 j hj (by omega)
    · intro h
      refine ⟨fun j hj hm => h j hj (by omega), ?_⟩
      by_cases e : m ≤ i
      · exact Or.inl e
      · exact Or.inr (h m (by omega) (by omega))
theorem cnt_hd (p : Nat → Bool) : ∀ n, cntN p (n + 1) = (if p 0 then 1 else 0) + cntN (fun k => p (k + 1)) n
  | 0 => by show 0 + (if p 0 then 1 else 0) = (if p 0 then 1 else 0) + 0; omega
  | n + 1 => by
    show cntN p (n + 1) + (if p (n + 1) then 1 else 0) = (if p 0 then 1 else 0) + (cntN (fun k => p (k + 1)) n + (if p (n + 1) then 1 else 0))
    rw [cnt_hd p n, Nat.add_assoc]
theorem cnt_rev : ∀ (n : Nat) (p : Nat → Bool), cntN p n = cntN (fun k => p (n - 1 - k)) n
  | 0, _ => rfl
  | n + 1, p => by
    rw [cnt_hd p n, cnt_rev n (fun k => p (k + 1))]
    show _ = cntN (fun k => p (n + 1 - 1 - k)) n + (if p (n + 1 - 1 - n) then 1 else 0)
    have e : n + 1 - 1 - n = 0 := by omega
    rw [e, Nat.add_comm]
    congr 1
    apply cntN_congr
    intro k hk
    congr 1
    omega
theorem last_mask {b : Nat → Nat} {N : Nat} (hb : ∀ k, k < N → b k < 12) : cntN (fun i => lastN (fun k => nI (b k)) i N) N = cntN (fun x => (maskN b N).testBit x) 12 := by
  have e1 : cntN (fun x => (maskN b N).testBit x) 12 = cntN (fun x => (maskN (fun k => b (N - 1 - k)) N).testBit x) 12 := by
    apply cntN_congr
    intro x _
    apply Bool.eq_iff_iff.mpr
    rw [mask_bit, mask_bit]
    constructor
    · rintro ⟨k, hk, e⟩
      exact ⟨N - 1 - k, by omega, by show b (N - 1 - (N - 1 - k)) = x; rw [show N - 1 - (N - 1 - k) = k by omega]; exact e⟩
    · rintro ⟨k, hk, e⟩
      exact ⟨N - 1 - k, by omega, e⟩
  rw [e1, mask_new (M := 12) (fun k hk => hb _ (by omega)) (by omega), cnt_rev N]
  show _ = cntN (fun k => nonN (fun k => nI (b (N - 1 - k))) (nI (b (N - 1 - k))) k) N
  apply cntN_congr
  intro k hk
  apply Bool.eq_iff_iff.mpr
  rw [lastN_iff]
  constructor
  · intro h
    cases h2 : nonN (fun k => nI (b (N - 1 - k))) (nI (b (N - 1 - k))) k with
    | true => rfl
    | false =>
      obtain ⟨e, h3, h4, -⟩ := nonN_f h2
      exact absurd h4 (h (N - 1 - e) (by omega) (by omega))
  · intro h j hj hN
    have h2 := nonN_t h (N - 1 - j) (by omega)
    have e : N - 1 - (N - 1 - j) = j := by omega
    simp only [e] at h2
    exact h2
theorem l_unlike {a : Nat → Int32} {b : Nat → Nat} {N : Nat} (hN : N ≤ 12) (ha : ∀ k, k < N → a k = nI (b k)) (hb : ∀ k, k < N → b k < 12) : F_L_unlike a (nI N) = some (nI (cntN (fun x => (maskN b N).testBit x) 12)) := by
  have inner : ∀ (K : Int32 → Option Int32) (i : Nat), i < N → am_loop2 (F_L_unlike_B17 (nI N) K (nI i) a) am_fuel (nI 1) (nI (i + 1)) = K (if lastN (fun k => nI (b k)) i N then nI 1 else nI 0) := by
    intro K i hi
    have h0 : lastN (fun k => nI (b k)) i (i + 1) = true := lastN_iff.mpr (fun j h1 h2 => by omega)
    obtain ⟨x, hx, e⟩ := for2L (b := F_L_unlike_B17 (nI N) K (nI i) a) nI N (fun j x => i < j ∧ x = if lastN (fun k => nI (b k)) i j then nI 1 else nI 0) K (by
      rintro rec x j hj ⟨hij, rfl⟩
      refine ⟨_, ⟨by omega, rfl⟩, ?_⟩
      unfold F_L_unlike_B17
      show _ = rec (if (lastN (fun k => nI (b k)) i j && (decide (j ≤ i) || decide (¬ nI (b j) = nI (b i)))) = true then nI 1 else nI 0) _
      rw [decide_eq_false (show ¬ j ≤ i by omega), Bool.false_or]
      have h1 := ha j hj
      have h2 := ha i hi
      have h3 := hb j hj
      have h4 := hb i hi
      cases h : lastN (fun k => nI (b k)) i j with
      | true =>
        by_cases h5 : b j = b i
        · simp (disch := omega) only [if_true, if_false, am_let, am_in_n, am_nz_n, am_nzl_n, sI_add, sI_mul, sI_cl, sI_le, sI_lt, sI_eq, sI_l, lN_add, lN_mul, lN_i, sg_gt, sg_le, sg_eq, sg_ge, sI_rem, sI_div, sI_rem2, sL_rem, sL_div, sL_rem2, sI_sub, sI_m1, sI_m1n, sI_or, if_pos, if_neg, Option.bind_some, am_call2_e, am_call3_e, am_call4_e, am_call5_e, am_call6_e, am_call7_e, am_call8_e, am_call9_e, am_call10_e, am_call11_e, am_call12_e, am_call13_e, am_call14_e, li_0, li_1, li_2, li_3, li_4, li_5, li_6, li_7, li_8, li_9, li_10, li_11, li_12, li_13, li_14, li_15, li_16, li_19, li_20, li_21, li_22, li_23, li_32, li_36, li_48, li_50, li_60, li_63, li_74, li_75, li_98, li_99, li_100, li_199, li_200, li_256, li_7919, li_65537, li_1000000, li_1000001, li_10000000, ll_0, ll_1, ll_100, ll_65535, h1, h2, h5, Bool.true_and, not_true_eq_false, decide_false, Bool.false_eq_true]
        · simp (disch := omega) only [if_true, if_false, am_let, am_in_n, am_nz_n, am_nzl_n, sI_add, sI_mul, sI_cl, sI_le, sI_lt, sI_eq, sI_l, lN_add, lN_mul, lN_i, sg_gt, sg_le, sg_eq, sg_ge, sI_rem, sI_div, sI_rem2, sL_rem, sL_div, sL_rem2, sI_sub, sI_m1, sI_m1n, sI_or, if_pos, if_neg, Option.bind_some, am_call2_e, am_call3_e, am_call4_e, am_call5_e, am_call6_e, am_call7_e, am_call8_e, am_call9_e, am_call10_e, am_call11_e, am_call12_e, am_call13_e, am_call14_e, li_0, li_1, li_2, li_3, li_4, li_5, li_6, li_7, li_8, li_9, li_10, li_11, li_12, li_13, li_14, li_15, li_16, li_19, li_20, li_21, li_22, li_23, li_32, li_36, li_48, li_50, li_60, li_63, li_74, li_75, li_98, li_99, li_100, li_199, li_200, li_256, li_7919, li_65537, li_1000000, li_1000001, li_10000000, ll_0, ll_1, ll_100, ll_65535, h1, h2, h5, Bool.true_and, not_false_eq_true, decide_true]
      | false => simp (disch := omega) only [if_true, if_false, am_let, am_in_n, am_nz_n, am_nzl_n, sI_add, sI_mul, sI_cl, sI_le, sI_lt, sI_eq, sI_l, lN_add, lN_mul, lN_i, sg_gt, sg_le, sg_eq, sg_ge, sI_rem, sI_div, sI_rem2, sL_rem, sL_div, sL_rem2, sI_sub, sI_m1, sI_m1n, sI_or, if_pos, if_neg, Option.bind_some, am_call2_e, am_call3_e, am_call4_e, am_call5_e, am_call6_e, am_call7_e, am_call8_e, am_call9_e, am_call10_e, am_call11_e, am_call12_e, am_call13_e, am_call14_e, li_0, li_1, li_2, li_3, li_4, li_5, li_6, li_7, li_8, li_9, li_10, li_11, li_12, li_13, li_14, li_15, li_16, li_19, li_20, li_21, li_22, li_23, li_32, li_36, li_48, li_50, li_60, li_63, li_74, li_75, li_98, li_99, li_100, li_199, li_200, li_256, li_7919, li_65537, li_1000000, li_1000001, li_10000000, ll_0, ll_1, ll_100, ll_65535, Bool.false_and, Bool.false_eq_true]) (by
      rintro rec x ⟨-, rfl⟩
      unfold F_L_unlike_B17
      simp (disch := omega) only [if_true, if_false, am_let, am_in_n, am_nz_n, am_nzl_n, sI_add, sI_mul, sI_cl, sI_le, sI_lt, sI_eq, sI_l, lN_add, lN_mul, lN_i, sg_gt, sg_le, sg_eq, sg_ge, sI_rem, sI_div, sI_rem2, sL_rem, sL_div, sL_rem2, sI_sub, sI_m1, sI_m1n, sI_or, if_pos, if_neg, Option.bind_some, am_call2_e, am_call3_e, am_call4_e, am_call5_e, am_call6_e, am_call7_e, am_call8_e, am_call9_e, am_call10_e, am_call11_e, am_call12_e, am_call13_e, am_call14_e, li_0, li_1, li_2, li_3, li_4, li_5, li_6, li_7, li_8, li_9, li_10, li_11, li_12, li_13, li_14, li_15, li_16, li_19, li_20, li_21, li_22, li_23, li_32, li_36, li_48, li_50, li_60, li_63, li_74, li_75, li_98, li_99, li_100, li_199, li_200, li_256, li_7919, li_65537, li_1000000, li_1000001, li_10000000, ll_0, ll_1, ll_100, ll_65535]) (i + 1) (by omega) am_fuel (by rw [fuelE]; omega) (nI 1) ⟨by omega, by rw [h0]; rfl⟩
    rw [e, hx.2]
  unfold F_L_unlike
  simp only [am_let, li_0, li_1, li_2, li_3, li_4, li_5, li_6, li_7, li_8, li_9, li_10, li_11, li_12, li_13, li_14, li_15, li_16, li_19, li_20, li_21, li_22, li_23, li_32, li_36, li_48, li_50, li_60, li_63, li_74, li_75, li_98, li_99, li_100, li_199, li_200, li_256, li_7919, li_65537, li_1000000, li_1000001, li_10000000, ll_0, ll_1, ll_100, ll_65535]
  rw [← last_mask hb]
  obtain ⟨x, hx, e⟩ := for2L (b := F_L_unlike_B4 (nI N) (fun x1 => some x1) a) nI N (fun j x => x = nI (cntN (fun i => lastN (fun k => nI (b k)) i N) j)) (fun x => some x) (by
    rintro rec x j hj rfl
    refine ⟨_, rfl, ?_⟩
    unfold F_L_unlike_B4
    show _ = rec (nI (cntN (fun i => lastN (fun k => nI (b k)) i N) j + (if lastN (fun k => nI (b k)) j N = true then 1 else 0))) _
    simp (disch := omega) only [am_let, li_0, li_1, li_2, li_3, li_4, li_5, li_6, li_7, li_8, li_9, li_10, li_11, li_12, li_13, li_14, li_15, li_16, li_19, li_20, li_21, li_22, li_23, li_32, li_36, li_48, li_50, li_60, li_63, li_74, li_75, li_98, li_99, li_100, li_199, li_200, li_256, li_7919, li_65537, li_1000000, li_1000001, li_10000000, ll_0, ll_1, ll_100, ll_65535, sI_le, if_neg, sI_add, inner _ j hj]
    cases h : lastN (fun k => nI (b k)) j N with
    | true => simp (disch := omega) only [if_true, if_false, am_let, am_in_n, am_nz_n, am_nzl_n, sI_add, sI_mul, sI_cl, sI_le, sI_lt, sI_eq, sI_l, lN_add, lN_mul, lN_i, sg_gt, sg_le, sg_eq, sg_ge, sI_rem, sI_div, sI_rem2, sL_rem, sL_div, sL_rem2, sI_sub, sI_m1, sI_m1n, sI_or, if_pos, if_neg, Option.bind_some, am_call2_e, am_call3_e, am_call4_e, am_call5_e, am_call6_e, am_call7_e, am_call8_e, am_call9_e, am_call10_e, am_call11_e, am_call12_e, am_call13_e, am_call14_e, li_0, li_1, li_2, li_3, li_4, li_5, li_6, li_7, li_8, li_9, li_10, li_11, li_12, li_13, li_14, li_15, li_16, li_19, li_20, li_21, li_22, li_23, li_32, li_36, li_48, li_50, li_60, li_63, li_74, li_75, li_98, li_99, li_100, li_199, li_200, li_256, li_7919, li_65537, li_1000000, li_1000001, li_10000000, ll_0, ll_1, ll_100, ll_65535]
    | false => simp (disch := omega) only [if_true, if_false, am_let, am_in_n, am_nz_n, am_nzl_n, sI_add, sI_mul, sI_cl, sI_le, sI_lt, sI_eq, sI_l, lN_add, lN_mul, lN_i, sg_gt, sg_le, sg_eq, sg_ge, sI_rem, sI_div, sI_rem2, sL_rem, sL_div, sL_rem2, sI_sub, sI_m1, sI_m1n, sI_or, if_pos, if_neg, Option.bind_some, am_call2_e, am_call3_e, am_call4_e, am_call5_e, am_call6_e, am_call7_e, am_call8_e, am_call9_e, am_call10_e, am_call11_e, am_call12_e, am_call13_e, am_call14_e, li_0, li_1, li_2, li_3, li_4, li_5, li_6, li_7, li_8, li_9, li_10, li_11, li_12, li_13, li_14, li_15, li_16, li_19, li_20, li_21, li_22, li_23, li_32, li_36, li_48, li_50, li_60, li_63, li_74, li_75, li_98, li_99, li_100, li_199, li_200, li_256, li_7919, li_65537, li_1000000, li_1000001, li_10000000, ll_0, ll_1, ll_100, ll_65535, Bool.false_eq_true, Nat.add_zero]) (by
    rintro rec x rfl
    unfold F_L_unlike_B4
    simp (disch := omega) only [if_true, if_false, am_let, am_in_n, am_nz_n, am_nzl_n, sI_add, sI_mul, sI_cl, sI_le, sI_lt, sI_eq, sI_l, lN_add, lN_mul, lN_i, sg_gt, sg_le, sg_eq, sg_ge, sI_rem, sI_div, sI_rem2, sL_rem, sL_div, sL_rem2, sI_sub, sI_m1, sI_m1n, sI_or, if_pos, if_neg, Option.bind_some, am_call2_e, am_call3_e, am_call4_e, am_call5_e, am_call6_e, am_call7_e, am_call8_e, am_call9_e, am_call10_e, am_call11_e, am_call12_e, am_call13_e, am_call14_e, li_0, li_1, li_2, li_3, li_4, li_5, li_6, li_7, li_8, li_9, li_10, li_11, li_12, li_13, li_14, li_15, li_16, li_19, li_20, li_21, li_22, li_23, li_32, li_36, li_48, li_50, li_60, li_63, li_74, li_75, li_98, li_99, li_100, li_199, li_200, li_256, li_7919, li_65537, li_1000000, li_1000001, li_10000000, ll_0, ll_1, ll_100, ll_65535]) 0 (Nat.zero_le _) am_fuel (by rw [fuelE]; omega) (nI 0) rfl
  rw [e, hx]
