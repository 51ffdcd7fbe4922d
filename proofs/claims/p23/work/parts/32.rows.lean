-- rows, weights in lowest terms, ancestors
theorem fat {n i : Nat} {f : Nat → Int32} (h : i < n) (hn : n < 2147483648) : F_X2_at n f (nI i) = some (f i) := by
  unfold F_X2_at
  simp (disch := omega) only [if_true, if_false, am_let, am_in_n, am_nz_n, am_nzl_n, sI_add, sI_mul, sI_cl, sI_le, sI_lt, sI_eq, sI_l, lN_add, lN_mul, lN_i, sg_gt, sg_le, sg_eq, sg_ge, sI_rem, sI_div, sI_rem2, sL_rem, sL_div, sL_rem2, sI_sub, sI_m1, sI_m1n, sI_or, if_pos, if_neg, Option.bind_some, am_call2_e, am_call3_e, am_call4_e, am_call5_e, am_call6_e, am_call7_e, am_call8_e, am_call9_e, am_call10_e, am_call11_e, am_call12_e, am_call13_e, am_call14_e, li_0, li_1, li_2, li_3, li_4, li_5, li_6, li_7, li_8, li_9, li_10, li_11, li_12, li_13, li_14, li_15, li_16, li_19, li_20, li_21, li_22, li_23, li_32, li_36, li_48, li_50, li_60, li_63, li_74, li_75, li_98, li_99, li_100, li_199, li_200, li_256, li_7919, li_65537, li_1000000, li_1000001, li_10000000, ll_0, ll_1, ll_100, ll_65535]
theorem fput {n i : Nat} {f : Nat → Int32} {v : Int32} (h : i < n) (hn : n < 2147483648) : F_X2_put n f (nI i) v = some (upd f i v) := by
  unfold F_X2_put
  simp (disch := omega) only [if_true, if_false, am_let, am_in_n, am_nz_n, am_nzl_n, sI_add, sI_mul, sI_cl, sI_le, sI_lt, sI_eq, sI_l, lN_add, lN_mul, lN_i, sg_gt, sg_le, sg_eq, sg_ge, sI_rem, sI_div, sI_rem2, sL_rem, sL_div, sL_rem2, sI_sub, sI_m1, sI_m1n, sI_or, if_pos, if_neg, Option.bind_some, am_call2_e, am_call3_e, am_call4_e, am_call5_e, am_call6_e, am_call7_e, am_call8_e, am_call9_e, am_call10_e, am_call11_e, am_call12_e, am_call13_e, am_call14_e, li_0, li_1, li_2, li_3, li_4, li_5, li_6, li_7, li_8, li_9, li_10, li_11, li_12, li_13, li_14, li_15, li_16, li_19, li_20, li_21, li_22, li_23, li_32, li_36, li_48, li_50, li_60, li_63, li_74, li_75, li_98, li_99, li_100, li_199, li_200, li_256, li_7919, li_65537, li_1000000, li_1000001, li_10000000, ll_0, ll_1, ll_100, ll_65535]
theorem fweightOf {i : Nat} {f : Nat → Int32} (h : i < 12) : F_X5_weightOf f (nI i) = some (f i) := by
  unfold F_X5_weightOf
  simp (disch := omega) only [if_true, if_false, am_let, am_in_n, am_nz_n, am_nzl_n, sI_add, sI_mul, sI_cl, sI_le, sI_lt, sI_eq, sI_l, lN_add, lN_mul, lN_i, sg_gt, sg_le, sg_eq, sg_ge, sI_rem, sI_div, sI_rem2, sL_rem, sL_div, sL_rem2, sI_sub, sI_m1, sI_m1n, sI_or, if_pos, if_neg, Option.bind_some, am_call2_e, am_call3_e, am_call4_e, am_call5_e, am_call6_e, am_call7_e, am_call8_e, am_call9_e, am_call10_e, am_call11_e, am_call12_e, am_call13_e, am_call14_e, li_0, li_1, li_2, li_3, li_4, li_5, li_6, li_7, li_8, li_9, li_10, li_11, li_12, li_13, li_14, li_15, li_16, li_19, li_20, li_21, li_22, li_23, li_32, li_36, li_48, li_50, li_60, li_63, li_74, li_75, li_98, li_99, li_100, li_199, li_200, li_256, li_7919, li_65537, li_1000000, li_1000001, li_10000000, ll_0, ll_1, ll_100, ll_65535]
theorem fputWeight {i : Nat} {f : Nat → Int32} {v : Int32} (h : i < 12) : F_X5_putWeight f (nI i) v = some (upd f i v) := by
  unfold F_X5_putWeight
  simp (disch := omega) only [if_true, if_false, am_let, am_in_n, am_nz_n, am_nzl_n, sI_add, sI_mul, sI_cl, sI_le, sI_lt, sI_eq, sI_l, lN_add, lN_mul, lN_i, sg_gt, sg_le, sg_eq, sg_ge, sI_rem, sI_div, sI_rem2, sL_rem, sL_div, sL_rem2, sI_sub, sI_m1, sI_m1n, sI_or, if_pos, if_neg, Option.bind_some, am_call2_e, am_call3_e, am_call4_e, am_call5_e, am_call6_e, am_call7_e, am_call8_e, am_call9_e, am_call10_e, am_call11_e, am_call12_e, am_call13_e, am_call14_e, li_0, li_1, li_2, li_3, li_4, li_5, li_6, li_7, li_8, li_9, li_10, li_11, li_12, li_13, li_14, li_15, li_16, li_19, li_20, li_21, li_22, li_23, li_32, li_36, li_48, li_50, li_60, li_63, li_74, li_75, li_98, li_99, li_100, li_199, li_200, li_256, li_7919, li_65537, li_1000000, li_1000001, li_10000000, ll_0, ll_1, ll_100, ll_65535]
theorem upd_s (f : Nat → Int32) (k : Nat) (x : Int32) : upd f k x k = x := pk_us
theorem upd_n {f : Nat → Int32} {k j : Nat} {x : Int32} (h : j ≠ k) : upd f k x j = f j := pk_un h
theorem fcopyRow (n : Nat) (hn : n < 1000000) (f g : Nat → Int32) : ∃ f', (∀ k, k < n → f' k = g k) ∧ F_X2_copyRow n n f g = some f' := by
  unfold F_X2_copyRow
  simp only [am_let, li_0, li_1, li_2, li_3, li_4, li_5, li_6, li_7, li_8, li_9, li_10, li_11, li_12, li_13, li_14, li_15, li_16, li_19, li_20, li_21, li_22, li_23, li_32, li_36, li_48, li_50, li_60, li_63, li_74, li_75, li_98, li_99, li_100, li_199, li_200, li_256, li_7919, li_65537, li_1000000, li_1000001, li_10000000, ll_0, ll_1, ll_100, ll_65535]
  exact for2F (b := F_X2_copyRow_B2 n (fun f1 => some f1) n g) nI n (fun j f' => ∀ k, k < j → f' k = g k) (fun f1 => some f1) (by
    intro rec f' j hj h
    refine ⟨upd f' j (g j), fun k hk => ?_, ?_⟩
    · by_cases hkj : k = j
      · subst hkj; exact upd_s _ _ _
      · rw [upd_n hkj]; exact h k (by omega)
    · unfold F_X2_copyRow_B2
      simp (disch := omega) only [if_true, if_false, am_let, am_in_n, am_nz_n, am_nzl_n, sI_add, sI_mul, sI_cl, sI_le, sI_lt, sI_eq, sI_l, lN_add, lN_mul, lN_i, sg_gt, sg_le, sg_eq, sg_ge, sI_rem, sI_div, sI_rem2, sL_rem, sL_div, sL_rem2, sI_sub, sI_m1, sI_m1n, sI_or, if_pos, if_neg, Option.bind_some, am_call2_e, am_call3_e, am_call4_e, am_call5_e, am_call6_e, am_call7_e, am_call8_e, am_call9_e, am_call10_e, am_call11_e, am_call12_e, am_call13_e, am_call14_e, li_0, li_1, li_2, li_3, li_4, li_5, li_6, li_7, li_8, li_9, li_10, li_11, li_12, li_13, li_14, li_15, li_16, li_19, li_20, li_21, li_22, li_23, li_32, li_36, li_48, li_50, li_60, li_63, li_74, li_75, li_98, li_99, li_100, li_199, li_200, li_256, li_7919, li_65537, li_1000000, li_1000001, li_10000000, ll_0, ll_1, ll_100, ll_65535]) (by
    intro rec f' h
    unfold F_X2_copyRow_B2
    simp (disch := omega) only [if_true, if_false, am_let, am_in_n, am_nz_n, am_nzl_n, sI_add, sI_mul, sI_cl, sI_le, sI_lt, sI_eq, sI_l, lN_add, lN_mul, lN_i, sg_gt, sg_le, sg_eq, sg_ge, sI_rem, sI_div, sI_rem2, sL_rem, sL_div, sL_rem2, sI_sub, sI_m1, sI_m1n, sI_or, if_pos, if_neg, Option.bind_some, am_call2_e, am_call3_e, am_call4_e, am_call5_e, am_call6_e, am_call7_e, am_call8_e, am_call9_e, am_call10_e, am_call11_e, am_call12_e, am_call13_e, am_call14_e, li_0, li_1, li_2, li_3, li_4, li_5, li_6, li_7, li_8, li_9, li_10, li_11, li_12, li_13, li_14, li_15, li_16, li_19, li_20, li_21, li_22, li_23, li_32, li_36, li_48, li_50, li_60, li_63, li_74, li_75, li_98, li_99, li_100, li_199, li_200, li_256, li_7919, li_65537, li_1000000, li_1000001, li_10000000, ll_0, ll_1, ll_100, ll_65535]) 0 (Nat.zero_le _) am_fuel (by rw [fuelE]; omega) f (fun k hk => absurd hk (Nat.not_lt_zero k))
theorem fcopyW (many wmany : Int32) (f g : Nat → Int32) : ∃ f', (∀ k, k < 12 → f' k = g k) ∧ F_X5_copyWeights many f wmany g = some (wmany, f') := by
  unfold F_X5_copyWeights
  simp only [am_let, li_0, li_1, li_2, li_3, li_4, li_5, li_6, li_7, li_8, li_9, li_10, li_11, li_12, li_13, li_14, li_15, li_16, li_19, li_20, li_21, li_22, li_23, li_32, li_36, li_48, li_50, li_60, li_63, li_74, li_75, li_98, li_99, li_100, li_199, li_200, li_256, li_7919, li_65537, li_1000000, li_1000001, li_10000000, ll_0, ll_1, ll_100, ll_65535]
  exact for2F (b := F_X5_copyWeights_B10 (fun f1 => some (wmany, f1)) g) nI 12 (fun j f' => ∀ k, k < j → f' k = g k) (fun f1 => some (wmany, f1)) (by
    intro rec f' j hj h
    refine ⟨upd f' j (g j), fun k hk => ?_, ?_⟩
    · by_cases hkj : k = j
      · subst hkj; exact upd_s _ _ _
      · rw [upd_n hkj]; exact h k (by omega)
    · unfold F_X5_copyWeights_B10
      simp (disch := omega) only [if_true, if_false, am_let, am_in_n, am_nz_n, am_nzl_n, sI_add, sI_mul, sI_cl, sI_le, sI_lt, sI_eq, sI_l, lN_add, lN_mul, lN_i, sg_gt, sg_le, sg_eq, sg_ge, sI_rem, sI_div, sI_rem2, sL_rem, sL_div, sL_rem2, sI_sub, sI_m1, sI_m1n, sI_or, if_pos, if_neg, Option.bind_some, am_call2_e, am_call3_e, am_call4_e, am_call5_e, am_call6_e, am_call7_e, am_call8_e, am_call9_e, am_call10_e, am_call11_e, am_call12_e, am_call13_e, am_call14_e, li_0, li_1, li_2, li_3, li_4, li_5, li_6, li_7, li_8, li_9, li_10, li_11, li_12, li_13, li_14, li_15, li_16, li_19, li_20, li_21, li_22, li_23, li_32, li_36, li_48, li_50, li_60, li_63, li_74, li_75, li_98, li_99, li_100, li_199, li_200, li_256, li_7919, li_65537, li_1000000, li_1000001, li_10000000, ll_0, ll_1, ll_100, ll_65535]) (by
    intro rec f' h
    unfold F_X5_copyWeights_B10
    simp (disch := omega) only [if_true, if_false, am_let, am_in_n, am_nz_n, am_nzl_n, sI_add, sI_mul, sI_cl, sI_le, sI_lt, sI_eq, sI_l, lN_add, lN_mul, lN_i, sg_gt, sg_le, sg_eq, sg_ge, sI_rem, sI_div, sI_rem2, sL_rem, sL_div, sL_rem2, sI_sub, sI_m1, sI_m1n, sI_or, if_pos, if_neg, Option.bind_some, am_call2_e, am_call3_e, am_call4_e, am_call5_e, am_call6_e, am_call7_e, am_call8_e, am_call9_e, am_call10_e, am_call11_e, am_call12_e, am_call13_e, am_call14_e, li_0, li_1, li_2, li_3, li_4, li_5, li_6, li_7, li_8, li_9, li_10, li_11, li_12, li_13, li_14, li_15, li_16, li_19, li_20, li_21, li_22, li_23, li_32, li_36, li_48, li_50, li_60, li_63, li_74, li_75, li_98, li_99, li_100, li_199, li_200, li_256, li_7919, li_65537, li_1000000, li_1000001, li_10000000, ll_0, ll_1, ll_100, ll_65535]) 0 (Nat.zero_le _) am_fuel (by rw [fuelE]; omega) f (fun k hk => absurd hk (Nat.not_lt_zero k))
theorem fequal (many : Int32) (f : Nat → Int32) {N : Nat} (hN : N ≤ 12) : ∃ f', (∀ k, k < N → f' k = nI 1) ∧ F_X5_makeEqual many f (nI N) = some (nI N, f') := by
  have e1 : (if nI 12 < nI N then nI 12 else nI N) = nI N := by
    rw [if_neg]
    rw [sI_lt (by omega) (by omega)]
    omega
  have e2 : (if nI 0 < nI N then nI N else nI 0) = nI N := by
    by_cases h : 0 < N
    · rw [if_pos]
      rw [sI_lt (by omega) (by omega)]
      exact h
    · have : N = 0 := by omega
      subst this
      simp only [ite_self]
  unfold F_X5_makeEqual
  simp only [am_let, li_0, li_1, li_2, li_3, li_4, li_5, li_6, li_7, li_8, li_9, li_10, li_11, li_12, li_13, li_14, li_15, li_16, li_19, li_20, li_21, li_22, li_23, li_32, li_36, li_48, li_50, li_60, li_63, li_74, li_75, li_98, li_99, li_100, li_199, li_200, li_256, li_7919, li_65537, li_1000000, li_1000001, li_10000000, ll_0, ll_1, ll_100, ll_65535]
  simp only [e1, e2]
  exact for2F (b := F_X5_makeEqual_B19 (nI N) (fun f1 => some (nI N, f1))) nI N (fun j f' => ∀ k, k < j → f' k = nI 1) (fun f1 => some (nI N, f1)) (by
    intro rec f' j hj h
    refine ⟨upd f' j (nI 1), fun k hk => ?_, ?_⟩
    · by_cases hkj : k = j
      · subst hkj; exact upd_s _ _ _
      · rw [upd_n hkj]; exact h k (by omega)
    · unfold F_X5_makeEqual_B19
      simp (disch := omega) only [if_true, if_false, am_let, am_in_n, am_nz_n, am_nzl_n, sI_add, sI_mul, sI_cl, sI_le, sI_lt, sI_eq, sI_l, lN_add, lN_mul, lN_i, sg_gt, sg_le, sg_eq, sg_ge, sI_rem, sI_div, sI_rem2, sL_rem, sL_div, sL_rem2, sI_sub, sI_m1, sI_m1n, sI_or, if_pos, if_neg, Option.bind_some, am_call2_e, am_call3_e, am_call4_e, am_call5_e, am_call6_e, am_call7_e, am_call8_e, am_call9_e, am_call10_e, am_call11_e, am_call12_e, am_call13_e, am_call14_e, li_0, li_1, li_2, li_3, li_4, li_5, li_6, li_7, li_8, li_9, li_10, li_11, li_12, li_13, li_14, li_15, li_16, li_19, li_20, li_21, li_22, li_23, li_32, li_36, li_48, li_50, li_60, li_63, li_74, li_75, li_98, li_99, li_100, li_199, li_200, li_256, li_7919, li_65537, li_1000000, li_1000001, li_10000000, ll_0, ll_1, ll_100, ll_65535]) (by
    intro rec f' h
    unfold F_X5_makeEqual_B19
    simp (disch := omega) only [if_true, if_false, am_let, am_in_n, am_nz_n, am_nzl_n, sI_add, sI_mul, sI_cl, sI_le, sI_lt, sI_eq, sI_l, lN_add, lN_mul, lN_i, sg_gt, sg_le, sg_eq, sg_ge, sI_rem, sI_div, sI_rem2, sL_rem, sL_div, sL_rem2, sI_sub, sI_m1, sI_m1n, sI_or, if_pos, if_neg, Option.bind_some, am_call2_e, am_call3_e, am_call4_e, am_call5_e, am_call6_e, am_call7_e, am_call8_e, am_call9_e, am_call10_e, am_call11_e, am_call12_e, am_call13_e, am_call14_e, li_0, li_1, li_2, li_3, li_4, li_5, li_6, li_7, li_8, li_9, li_10, li_11, li_12, li_13, li_14, li_15, li_16, li_19, li_20, li_21, li_22, li_23, li_32, li_36, li_48, li_50, li_60, li_63, li_74, li_75, li_98, li_99, li_100, li_199, li_200, li_256, li_7919, li_65537, li_1000000, li_1000001, li_10000000, ll_0, ll_1, ll_100, ll_65535]) 0 (Nat.zero_le _) am_fuel (by rw [fuelE]; omega) f (fun k hk => absurd hk (Nat.not_lt_zero k))
-- lowest terms
theorem fgcdC {f : Nat → Int32} {N : Nat} {w : Nat → Nat} (hN : N ≤ 12) (hw : ∀ k, k < N → f k = nI (w k)) (hb : ∀ k, k < N → w k < 2147483648) (K : Int64 → Option (Int32 × (Nat → Int32))) : am_loop2 (F_X5_reduce_B4 (nI N) K f) am_fuel (lN 0) (nI 0) = K (lN (gcdN w N)) := by
  have hg : ∀ j, j ≤ N → gcdN w j < 2147483648 := by
    intro j
    induction j with
    | zero => intro _; show 0 < _; omega
    | succ j ih =>
      intro hj
      have h1 := ih (by omega)
      have h2 := hb j (by omega)
      show Nat.gcd (gcdN w j) (w j) < _
      by_cases h0 : w j = 0
      · rw [h0, Nat.gcd_zero_right]; exact h1
      · have := Nat.le_of_dvd (by omega) (Nat.gcd_dvd_right (gcdN w j) (w j))
        omega
  obtain ⟨a, ha, e⟩ := for2L (b := F_X5_reduce_B4 (nI N) K f) nI N (fun j a => a = lN (gcdN w j)) K (by
    rintro rec a j hj rfl
    refine ⟨_, rfl, ?_⟩
    have h1 := hb j hj
    have h2 := hg j (by omega)
    unfold F_X5_reduce_B4
    simp (disch := omega) only [if_true, if_false, am_let, am_in_n, am_nz_n, am_nzl_n, sI_add, sI_mul, sI_cl, sI_le, sI_lt, sI_eq, sI_l, lN_add, lN_mul, lN_i, sg_gt, sg_le, sg_eq, sg_ge, sI_rem, sI_div, sI_rem2, sL_rem, sL_div, sL_rem2, sI_sub, sI_m1, sI_m1n, sI_or, if_pos, if_neg, Option.bind_some, am_call2_e, am_call3_e, am_call4_e, am_call5_e, am_call6_e, am_call7_e, am_call8_e, am_call9_e, am_call10_e, am_call11_e, am_call12_e, am_call13_e, am_call14_e, li_0, li_1, li_2, li_3, li_4, li_5, li_6, li_7, li_8, li_9, li_10, li_11, li_12, li_13, li_14, li_15, li_16, li_19, li_20, li_21, li_22, li_23, li_32, li_36, li_48, li_50, li_60, li_63, li_74, li_75, li_98, li_99, li_100, li_199, li_200, li_256, li_7919, li_65537, li_1000000, li_1000001, li_10000000, ll_0, ll_1, ll_100, ll_65535, hw j hj, fcommon (gcdN w j) (w j) (by omega) (by omega)]
    rfl) (by
    rintro rec a rfl
    unfold F_X5_reduce_B4
    simp (disch := omega) only [if_true, if_false, am_let, am_in_n, am_nz_n, am_nzl_n, sI_add, sI_mul, sI_cl, sI_le, sI_lt, sI_eq, sI_l, lN_add, lN_mul, lN_i, sg_gt, sg_le, sg_eq, sg_ge, sI_rem, sI_div, sI_rem2, sL_rem, sL_div, sL_rem2, sI_sub, sI_m1, sI_m1n, sI_or, if_pos, if_neg, Option.bind_some, am_call2_e, am_call3_e, am_call4_e, am_call5_e, am_call6_e, am_call7_e, am_call8_e, am_call9_e, am_call10_e, am_call11_e, am_call12_e, am_call13_e, am_call14_e, li_0, li_1, li_2, li_3, li_4, li_5, li_6, li_7, li_8, li_9, li_10, li_11, li_12, li_13, li_14, li_15, li_16, li_19, li_20, li_21, li_22, li_23, li_32, li_36, li_48, li_50, li_60, li_63, li_74, li_75, li_98, li_99, li_100, li_199, li_200, li_256, li_7919, li_65537, li_1000000, li_1000001, li_10000000, ll_0, ll_1, ll_100, ll_65535]) 0 (Nat.zero_le _) am_fuel (by rw [fuelE]; omega) (lN 0) rfl
  rw [e, ha]
theorem gcd_lt {N : Nat} {w : Nat → Nat} {M : Nat} (hM : 0 < M) (hb : ∀ k, k < N → w k < M) : gcdN w N < M := by
  induction N with
  | zero => exact hM
  | succ j ih =>
    have h1 := ih (fun k hk => hb k (by omega))
    have h2 := hb j (by omega)
    show Nat.gcd (gcdN w j) (w j) < _
    by_cases h0 : w j = 0
    · rw [h0, Nat.gcd_zero_right]; exact h1
    · have := Nat.le_of_dvd (by omega) (Nat.gcd_dvd_right (gcdN w j) (w j))
      omega
theorem freduce0 {f : Nat → Int32} {N : Nat} {w : Nat → Nat} (hN : N ≤ 12) (hw : ∀ k, k < N → f k = nI (w k)) (hb : ∀ k, k < N → w k < 2147483648) (hg : gcdN w N = 0) : F_X5_reduce (nI N) f = some (nI 0, f) := by
  unfold F_X5_reduce
  simp only [am_let, li_0, li_1, li_2, li_3, li_4, li_5, li_6, li_7, li_8, li_9, li_10, li_11, li_12, li_13, li_14, li_15, li_16, li_19, li_20, li_21, li_22, li_23, li_32, li_36, li_48, li_50, li_60, li_63, li_74, li_75, li_98, li_99, li_100, li_199, li_200, li_256, li_7919, li_65537, li_1000000, li_1000001, li_10000000, ll_0, ll_1, ll_100, ll_65535, ll_0]
  rw [fgcdC hN hw hb]
  simp (disch := omega) only [if_true, if_false, am_let, am_in_n, am_nz_n, am_nzl_n, sI_add, sI_mul, sI_cl, sI_le, sI_lt, sI_eq, sI_l, lN_add, lN_mul, lN_i, sg_gt, sg_le, sg_eq, sg_ge, sI_rem, sI_div, sI_rem2, sL_rem, sL_div, sL_rem2, sI_sub, sI_m1, sI_m1n, sI_or, if_pos, if_neg, Option.bind_some, am_call2_e, am_call3_e, am_call4_e, am_call5_e, am_call6_e, am_call7_e, am_call8_e, am_call9_e, am_call10_e, am_call11_e, am_call12_e, am_call13_e, am_call14_e, li_0, li_1, li_2, li_3, li_4, li_5, li_6, li_7, li_8, li_9, li_10, li_11, li_12, li_13, li_14, li_15, li_16, li_19, li_20, li_21, li_22, li_23, li_32, li_36, li_48, li_50, li_60, li_63, li_74, li_75, li_98, li_99, li_100, li_199, li_200, li_256, li_7919, li_65537, li_1000000, li_1000001, li_10000000, ll_0, ll_1, ll_100, ll_65535, hg]
theorem freduce1 {f : Nat → Int32} {N : Nat} {w : Nat → Nat} (hN : N ≤ 12) (hw : ∀ k, k < N → f k = nI (w k)) (hb : ∀ k, k < N → w k < 2147483648) (hg : 0 < gcdN w N) : ∃ f', (∀ k, k < N → f' k = nI (w k / gcdN w N)) ∧ F_X5_reduce (nI N) f = some (nI 1, f') := by
  have hg2 := gcd_lt (M := 2147483648) (by omega) hb
  unfold F_X5_reduce
  simp only [am_let, li_0, li_1, li_2, li_3, li_4, li_5, li_6, li_7, li_8, li_9, li_10, li_11, li_12, li_13, li_14, li_15, li_16, li_19, li_20, li_21, li_22, li_23, li_32, li_36, li_48, li_50, li_60, li_63, li_74, li_75, li_98, li_99, li_100, li_199, li_200, li_256, li_7919, li_65537, li_1000000, li_1000001, li_10000000, ll_0, ll_1, ll_100, ll_65535, ll_0]
  rw [fgcdC hN hw hb]
  simp (disch := omega) only [if_true, if_false, am_let, am_in_n, am_nz_n, am_nzl_n, sI_add, sI_mul, sI_cl, sI_le, sI_lt, sI_eq, sI_l, lN_add, lN_mul, lN_i, sg_gt, sg_le, sg_eq, sg_ge, sI_rem, sI_div, sI_rem2, sL_rem, sL_div, sL_rem2, sI_sub, sI_m1, sI_m1n, sI_or, if_pos, if_neg, Option.bind_some, am_call2_e, am_call3_e, am_call4_e, am_call5_e, am_call6_e, am_call7_e, am_call8_e, am_call9_e, am_call10_e, am_call11_e, am_call12_e, am_call13_e, am_call14_e, li_0, li_1, li_2, li_3, li_4, li_5, li_6, li_7, li_8, li_9, li_10, li_11, li_12, li_13, li_14, li_15, li_16, li_19, li_20, li_21, li_22, li_23, li_32, li_36, li_48, li_50, li_60, li_63, li_74, li_75, li_98, li_99, li_100, li_199, li_200, li_256, li_7919, li_65537, li_1000000, li_1000001, li_10000000, ll_0, ll_1, ll_100, ll_65535]
  obtain ⟨f', h1, h2⟩ := for2F (b := F_X5_reduce_B49 (nI N) (fun f1 => some (nI 1, f1)) (lN (gcdN w N))) nI N (fun j f' => (∀ k, k < j → f' k = nI (w k / gcdN w N)) ∧ ∀ k, j ≤ k → f' k = f k) (fun f1 => some (nI 1, f1)) (by
    rintro rec f' j hj ⟨ha, hc⟩
    have h1 := hb j hj
    refine ⟨upd f' j (nI (w j / gcdN w N)), ⟨fun k hk => ?_, fun k hk => ?_⟩, ?_⟩
    · by_cases hkj : k = j
      · subst hkj; exact upd_s _ _ _
      · rw [upd_n hkj]; exact ha k (by omega)
    · rw [upd_n (by omega)]; exact hc k (by omega)
    · unfold F_X5_reduce_B49
      simp (disch := omega) only [if_true, if_false, am_let, am_in_n, am_nz_n, am_nzl_n, sI_add, sI_mul, sI_cl, sI_le, sI_lt, sI_eq, sI_l, lN_add, lN_mul, lN_i, sg_gt, sg_le, sg_eq, sg_ge, sI_rem, sI_div, sI_rem2, sL_rem, sL_div, sL_rem2, sI_sub, sI_m1, sI_m1n, sI_or, if_pos, if_neg, Option.bind_some, am_call2_e, am_call3_e, am_call4_e, am_call5_e, am_call6_e, am_call7_e, am_call8_e, am_call9_e, am_call10_e, am_call11_e, am_call12_e, am_call13_e, am_call14_e, li_0, li_1, li_2, li_3, li_4, li_5, li_6, li_7, li_8, li_9, li_10, li_11, li_12, li_13, li_14, li_15, li_16, li_19, li_20, li_21, li_22, li_23, li_32, li_36, li_48, li_50, li_60, li_63, li_74, li_75, li_98, li_99, li_100, li_199, li_200, li_256, li_7919, li_65537, li_1000000, li_1000001, li_10000000, ll_0, ll_1, ll_100, ll_65535, hc j (Nat.le_refl j), hw j hj]) (by
    intro rec f' h
    unfold F_X5_reduce_B49
    simp (disch := omega) only [if_true, if_false, am_let, am_in_n, am_nz_n, am_nzl_n, sI_add, sI_mul, sI_cl, sI_le, sI_lt, sI_eq, sI_l, lN_add, lN_mul, lN_i, sg_gt, sg_le, sg_eq, sg_ge, sI_rem, sI_div, sI_rem2, sL_rem, sL_div, sL_rem2, sI_sub, sI_m1, sI_m1n, sI_or, if_pos, if_neg, Option.bind_some, am_call2_e, am_call3_e, am_call4_e, am_call5_e, am_call6_e, am_call7_e, am_call8_e, am_call9_e, am_call10_e, am_call11_e, am_call12_e, am_call13_e, am_call14_e, li_0, li_1, li_2, li_3, li_4, li_5, li_6, li_7, li_8, li_9, li_10, li_11, li_12, li_13, li_14, li_15, li_16, li_19, li_20, li_21, li_22, li_23, li_32, li_36, li_48, li_50, li_60, li_63, li_74, li_75, li_98, li_99, li_100, li_199, li_200, li_256, li_7919, li_65537, li_1000000, li_1000001, li_10000000, ll_0, ll_1, ll_100, ll_65535]) 0 (Nat.zero_le _) am_fuel (by rw [fuelE]; omega) f ⟨fun k hk => absurd hk (Nat.not_lt_zero k), fun _ _ => rfl⟩
  exact ⟨f', h1.1, h2⟩
-- the first one whose sum is above a point
theorem ffirst {f : Nat → Int32} {N e : Nat} {w : Nat → Nat} {p : Nat} (hN : N ≤ 12) (he : e < N) (hw : ∀ k, k < N → f k = nI (w k)) (hb : ∀ k, k < N → w k ≤ 1000000) (hp : p < 1000000000000) (h1 : p < N * sumN w (e + 1)) (h2 : ∀ i, i < e → N * sumN w (i + 1) ≤ p) : F_X5_firstAbove (nI N) f (lN p) = some (nI e) := by
  have hs : ∀ j, j ≤ N → N * sumN w j ≤ 12 * 12000000 := by
    intro j hj
    have h3 : sumN w j ≤ sumN w N := sumN_mono hj
    have h4 := (sq_le hN hb).1
    exact Nat.mul_le_mul hN (by omega)
  have hs2 : ∀ j, j ≤ N → sumN w j ≤ 12000000 := by
    intro j hj
    have h3 : sumN w j ≤ sumN w N := sumN_mono hj
    have h4 := (sq_le hN hb).1
    omega
  unfold F_X5_firstAbove
  simp only [am_let, li_0, li_1, li_2, li_3, li_4, li_5, li_6, li_7, li_8, li_9, li_10, li_11, li_12, li_13, li_14, li_15, li_16, li_19, li_20, li_21, li_22, li_23, li_32, li_36, li_48, li_50, li_60, li_63, li_74, li_75, li_98, li_99, li_100, li_199, li_200, li_256, li_7919, li_65537, li_1000000, li_1000001, li_10000000, ll_0, ll_1, ll_100, ll_65535]
  obtain ⟨a, ha, e1⟩ := for2L (b := F_X5_firstAbove_B5 (nI N) (some (nI 0)) f (lN p)) nI e (fun j a => a = lN (sumN w j)) (fun _ => some (nI e)) (by
    rintro rec a j hj rfl
    refine ⟨_, rfl, ?_⟩
    have h3 := hb j (by omega)
    have h4 := hs (j + 1) (by omega)
    have h5 := h2 j hj
    have h6 := hs2 j (by omega)
    have e2 : sumN w j + w j = sumN w (j + 1) := rfl
    unfold F_X5_firstAbove_B5
    simp (disch := omega) only [if_true, if_false, am_let, am_in_n, am_nz_n, am_nzl_n, sI_add, sI_mul, sI_cl, sI_le, sI_lt, sI_eq, sI_l, lN_add, lN_mul, lN_i, sg_gt, sg_le, sg_eq, sg_ge, sI_rem, sI_div, sI_rem2, sL_rem, sL_div, sL_rem2, sI_sub, sI_m1, sI_m1n, sI_or, if_pos, if_neg, Option.bind_some, am_call2_e, am_call3_e, am_call4_e, am_call5_e, am_call6_e, am_call7_e, am_call8_e, am_call9_e, am_call10_e, am_call11_e, am_call12_e, am_call13_e, am_call14_e, li_0, li_1, li_2, li_3, li_4, li_5, li_6, li_7, li_8, li_9, li_10, li_11, li_12, li_13, li_14, li_15, li_16, li_19, li_20, li_21, li_22, li_23, li_32, li_36, li_48, li_50, li_60, li_63, li_74, li_75, li_98, li_99, li_100, li_199, li_200, li_256, li_7919, li_65537, li_1000000, li_1000001, li_10000000, ll_0, ll_1, ll_100, ll_65535, hw j (by omega), e2]) (by
    rintro rec a rfl
    have h3 := hb e he
    have h4 := hs (e + 1) (by omega)
    have h6 := hs2 e (by omega)
    have e2 : sumN w e + w e = sumN w (e + 1) := rfl
    unfold F_X5_firstAbove_B5
    simp (disch := omega) only [if_true, if_false, am_let, am_in_n, am_nz_n, am_nzl_n, sI_add, sI_mul, sI_cl, sI_le, sI_lt, sI_eq, sI_l, lN_add, lN_mul, lN_i, sg_gt, sg_le, sg_eq, sg_ge, sI_rem, sI_div, sI_rem2, sL_rem, sL_div, sL_rem2, sI_sub, sI_m1, sI_m1n, sI_or, if_pos, if_neg, Option.bind_some, am_call2_e, am_call3_e, am_call4_e, am_call5_e, am_call6_e, am_call7_e, am_call8_e, am_call9_e, am_call10_e, am_call11_e, am_call12_e, am_call13_e, am_call14_e, li_0, li_1, li_2, li_3, li_4, li_5, li_6, li_7, li_8, li_9, li_10, li_11, li_12, li_13, li_14, li_15, li_16, li_19, li_20, li_21, li_22, li_23, li_32, li_36, li_48, li_50, li_60, li_63, li_74, li_75, li_98, li_99, li_100, li_199, li_200, li_256, li_7919, li_65537, li_1000000, li_1000001, li_10000000, ll_0, ll_1, ll_100, ll_65535, hw e he, e2]) 0 (Nat.zero_le _) am_fuel (by rw [fuelE]; omega) (lN 0) rfl
  exact e1
theorem first_ex {w : Nat → Nat} {p c : Nat} : ∀ N, p < c * sumN w N → ∃ e, e < N ∧ p < c * sumN w (e + 1) ∧ ∀ i, i < e → c * sumN w (i + 1) ≤ p
  | 0, h => by have e : sumN w 0 = 0 := rfl
               rw [e, Nat.mul_zero] at h; omega
  | N + 1, h => by
    by_cases h1 : p < c * sumN w N
    · obtain ⟨e, h2, h3, h4⟩ := first_ex N h1
      exact ⟨e, by omega, h3, h4⟩
    · refine ⟨N, by omega, h, fun i hi => ?_⟩
      have h2 : sumN w (i + 1) ≤ sumN w N := sumN_mono (by omega)
      have h3 : c * sumN w (i + 1) ≤ c * sumN w N := Nat.mul_le_mul_left _ h2
      omega

