-- a new beginning, a weight
theorem fnear {x : Nat} (hx : x < 2147483648) : F_X6_nearestPlace (nI x) = some (nI (if x ≤ 99 then x else 99)) := by
  unfold F_X6_nearestPlace
  simp only [am_let]
  by_cases h : x ≤ 99
  · rw [if_pos h]
    by_cases h2 : x < 99
    · by_cases h3 : 0 < x
      · simp (disch := omega) only [if_true, if_false, am_in_n, am_nz_n, am_nzl_n, sI_add, sI_mul, sI_cl, sI_le, sI_lt, sI_eq, sI_l, lN_add, lN_mul, lN_i, sg_gt, sg_le, sg_eq, sg_ge, sI_rem, sI_div, sI_rem2, sL_rem, sL_div, sL_rem2, sI_sub, sI_m1, sI_m1n, sI_or, if_pos, if_neg, Option.bind_some, am_call2_e, am_call3_e, am_call4_e, am_call5_e, am_call6_e, am_call7_e, am_call8_e, am_call9_e, am_call10_e, am_call11_e, am_call12_e, am_call13_e, am_call14_e, li_0, li_1, li_2, li_3, li_4, li_5, li_6, li_7, li_8, li_9, li_10, li_12, li_16, li_20, li_21, li_22, li_32, li_33, li_44, li_45, li_48, li_57, li_59, li_60, li_63, li_74, li_75, li_99, li_100, li_109, li_111, li_114, li_126, li_200, li_340, li_580, li_1740, li_65537, li_1000000, ll_0, ll_1, ll_100]
      · have : x = 0 := by omega
        subst this
        rfl
    · have : x = 99 := by omega
      subst this
      rfl
  · rw [if_neg h]
    simp (disch := omega) only [if_true, if_false, am_in_n, am_nz_n, am_nzl_n, sI_add, sI_mul, sI_cl, sI_le, sI_lt, sI_eq, sI_l, lN_add, lN_mul, lN_i, sg_gt, sg_le, sg_eq, sg_ge, sI_rem, sI_div, sI_rem2, sL_rem, sL_div, sL_rem2, sI_sub, sI_m1, sI_m1n, sI_or, if_pos, if_neg, Option.bind_some, am_call2_e, am_call3_e, am_call4_e, am_call5_e, am_call6_e, am_call7_e, am_call8_e, am_call9_e, am_call10_e, am_call11_e, am_call12_e, am_call13_e, am_call14_e, li_0, li_1, li_2, li_3, li_4, li_5, li_6, li_7, li_8, li_9, li_10, li_12, li_16, li_20, li_21, li_22, li_32, li_33, li_44, li_45, li_48, li_57, li_59, li_60, li_63, li_74, li_75, li_99, li_100, li_109, li_111, li_114, li_126, li_200, li_340, li_580, li_1740, li_65537, li_1000000, ll_0, ll_1, ll_100]
theorem fstart (many gens : Int32) (plf ogf : Nat → Int32) {n a b : Nat} (hn : n ≤ 12) (ha : a ≤ 99) (hb : b ≤ 99) : ∃ f2 f1, (∀ k, k < n → f2 k = nI (if a + k * b ≤ 99 then a + k * b else 99)) ∧ f1 0 = nI 0 ∧ F_X1_startWith many gens plf ogf (nI n) (nI a) (nI b) = some (nI n, nI 1, f2, f1) := by
  unfold F_X1_startWith
  simp only [am_let]
  simp (disch := omega) only [li_0, li_1, li_2, li_3, li_4, li_5, li_6, li_7, li_8, li_9, li_10, li_12, li_16, li_20, li_21, li_22, li_32, li_33, li_44, li_45, li_48, li_57, li_59, li_60, li_63, li_74, li_75, li_99, li_100, li_109, li_111, li_114, li_126, li_200, li_340, li_580, li_1740, li_65537, li_1000000, ll_0, ll_1, ll_100, fput (n := 20) (i := 0) (f := ogf) (v := nI 0) (by omega) (by omega), Option.bind_some]
  obtain ⟨f2, h1, e⟩ := for2F (b := F_X1_startWith_B22 (nI n) (fun f2 => some (nI n, nI 1, f2, upd ogf 0 (nI 0))) (nI a) (nI b)) nI n (fun j f => ∀ k, k < j → f k = nI (if a + k * b ≤ 99 then a + k * b else 99)) (fun f2 => some (nI n, nI 1, f2, upd ogf 0 (nI 0))) (by
    intro rec f j hj h
    have hjb : j * b ≤ 12 * 99 := Nat.mul_le_mul (by omega) hb
    refine ⟨upd f j (nI (if a + j * b ≤ 99 then a + j * b else 99)), fun k hk => ?_, ?_⟩
    · by_cases hkj : k = j
      · subst hkj; exact upd_s _ _ _
      · rw [upd_n hkj]; exact h k (by omega)
    · unfold F_X1_startWith_B22
      simp only [am_let]
      simp (disch := omega) only [li_0, li_1, li_2, li_3, li_4, li_5, li_6, li_7, li_8, li_9, li_10, li_12, li_16, li_20, li_21, li_22, li_32, li_33, li_44, li_45, li_48, li_57, li_59, li_60, li_63, li_74, li_75, li_99, li_100, li_109, li_111, li_114, li_126, li_200, li_340, li_580, li_1740, li_65537, li_1000000, ll_0, ll_1, ll_100, sI_le, if_neg, sI_mul, sI_add, fnear (x := a + j * b) (by omega), Option.bind_some, fput (n := 240) (i := j) (f := f) (by omega) (by omega)]) (by
    rintro rec f -
    unfold F_X1_startWith_B22
    simp only [am_let]
    simp (disch := omega) only [if_true, if_false, am_in_n, am_nz_n, am_nzl_n, sI_add, sI_mul, sI_cl, sI_le, sI_lt, sI_eq, sI_l, lN_add, lN_mul, lN_i, sg_gt, sg_le, sg_eq, sg_ge, sI_rem, sI_div, sI_rem2, sL_rem, sL_div, sL_rem2, sI_sub, sI_m1, sI_m1n, sI_or, if_pos, if_neg, Option.bind_some, am_call2_e, am_call3_e, am_call4_e, am_call5_e, am_call6_e, am_call7_e, am_call8_e, am_call9_e, am_call10_e, am_call11_e, am_call12_e, am_call13_e, am_call14_e, li_0, li_1, li_2, li_3, li_4, li_5, li_6, li_7, li_8, li_9, li_10, li_12, li_16, li_20, li_21, li_22, li_32, li_33, li_44, li_45, li_48, li_57, li_59, li_60, li_63, li_74, li_75, li_99, li_100, li_109, li_111, li_114, li_126, li_200, li_340, li_580, li_1740, li_65537, li_1000000, ll_0, ll_1, ll_100]) 0 (Nat.zero_le _) am_fuel (by rw [fuelE]; omega) plf (fun k hk => absurd hk (Nat.not_lt_zero k))
  exact ⟨f2, upd ogf 0 (nI 0), h1, upd_s _ _ _, e⟩
theorem flays (s : Nat → Int32) {n a b : Nat} (hn : n ≤ 12) (ha : a ≤ 99) (hb : b ≤ 99) : ∃ s', (s' 0 = nI n ∧ s' 1 = nI 1 ∧ s' 2 = nI 1 ∧ s' 3 = nI 0 ∧ s' 4 = nI 0 ∧ s' 20 = nI 0 ∧ ∀ i, 5 ≤ i → i < 8 → s' i = s i) ∧ (∀ k, k < 12 → s' (8 + k) = (if k < n then nI 1 else nI 0) ∧ s' (100 + k) = -1000004 ∧ s' (340 + k) = nI (if a + k * b ≤ 99 then a + k * b else 99)) ∧ F_X7_lays s (nI n) (nI a) (nI b) = some s' := by
  unfold F_X7_lays
  simp only [am_let]
  simp (disch := omega) only [li_0, li_1, li_2, li_3, li_4, li_5, li_6, li_7, li_8, li_9, li_10, li_12, li_16, li_20, li_21, li_22, li_32, li_33, li_44, li_45, li_48, li_57, li_59, li_60, li_63, li_74, li_75, li_99, li_100, li_109, li_111, li_114, li_126, li_200, li_340, li_580, li_1740, li_65537, li_1000000, ll_0, ll_1, ll_100, sI_cl]
  obtain ⟨t, ht⟩ : ∃ t, t = upd (upd (upd (upd (upd s 0 (nI n)) 1 (nI 1)) 2 (nI 1)) 3 (nI 0)) 4 (nI 0) := ⟨_, rfl⟩
  rw [← ht]
  have t0 : t 0 = nI n := by rw [ht, upd_n (by omega), upd_n (by omega), upd_n (by omega), upd_n (by omega), upd_s]
  have t1 : t 1 = nI 1 := by rw [ht, upd_n (by omega), upd_n (by omega), upd_n (by omega), upd_s]
  have t2 : t 2 = nI 1 := by rw [ht, upd_n (by omega), upd_n (by omega), upd_s]
  have t3 : t 3 = nI 0 := by rw [ht, upd_n (by omega), upd_s]
  have t4 : t 4 = nI 0 := by rw [ht, upd_s]
  have tr : ∀ i, 5 ≤ i → t i = s i := fun i hi => by rw [ht, upd_n (by omega), upd_n (by omega), upd_n (by omega), upd_n (by omega), upd_n (by omega)]
  obtain ⟨f, ⟨h1, h2⟩, e1⟩ := for2F (b := F_X7_lays_B38 (fun f6 => am_loop2 (F_X7_lays_B64 (fun f8 => some f8) (nI a) (nI b) (nI n)) am_fuel (nI 0) f6)) nI 4 (fun j f => (∀ k, k < j → f (20 + k) = nI 0) ∧ ∀ i, i < 20 → f i = t i) (fun f6 => am_loop2 (F_X7_lays_B64 (fun f8 => some f8) (nI a) (nI b) (nI n)) am_fuel (nI 0) f6) (by
    rintro rec f j hj ⟨h1, h2⟩
    refine ⟨upd f (20 + j) (nI 0), ⟨fun k hk => ?_, fun i hi => by rw [upd_n (by omega)]; exact h2 i hi⟩, ?_⟩
    · by_cases hkj : k = j
      · subst hkj; exact upd_s _ _ _
      · rw [upd_n (by omega)]; exact h1 k (by omega)
    · unfold F_X7_lays_B38
      simp only [am_let]
      simp (disch := omega) only [if_true, if_false, am_in_n, am_nz_n, am_nzl_n, sI_add, sI_mul, sI_cl, sI_le, sI_lt, sI_eq, sI_l, lN_add, lN_mul, lN_i, sg_gt, sg_le, sg_eq, sg_ge, sI_rem, sI_div, sI_rem2, sL_rem, sL_div, sL_rem2, sI_sub, sI_m1, sI_m1n, sI_or, if_pos, if_neg, Option.bind_some, am_call2_e, am_call3_e, am_call4_e, am_call5_e, am_call6_e, am_call7_e, am_call8_e, am_call9_e, am_call10_e, am_call11_e, am_call12_e, am_call13_e, am_call14_e, li_0, li_1, li_2, li_3, li_4, li_5, li_6, li_7, li_8, li_9, li_10, li_12, li_16, li_20, li_21, li_22, li_32, li_33, li_44, li_45, li_48, li_57, li_59, li_60, li_63, li_74, li_75, li_99, li_100, li_109, li_111, li_114, li_126, li_200, li_340, li_580, li_1740, li_65537, li_1000000, ll_0, ll_1, ll_100]) (by
    rintro rec f -
    unfold F_X7_lays_B38
    simp only [am_let]
    simp (disch := omega) only [li_0, li_1, li_2, li_3, li_4, li_5, li_6, li_7, li_8, li_9, li_10, li_12, li_16, li_20, li_21, li_22, li_32, li_33, li_44, li_45, li_48, li_57, li_59, li_60, li_63, li_74, li_75, li_99, li_100, li_109, li_111, li_114, li_126, li_200, li_340, li_580, li_1740, li_65537, li_1000000, ll_0, ll_1, ll_100, sI_le, if_pos]) 0 (Nat.zero_le _) am_fuel (by rw [fuelE]; omega) t ⟨fun k hk => absurd hk (Nat.not_lt_zero k), fun _ _ => rfl⟩
  obtain ⟨g, ⟨h3, h4⟩, e2⟩ := for2F (b := F_X7_lays_B64 (fun f8 => some f8) (nI a) (nI b) (nI n)) nI 12 (fun j g => (∀ k, k < j → g (8 + k) = (if k < n then nI 1 else nI 0) ∧ g (100 + k) = -1000004 ∧ g (340 + k) = nI (if a + k * b ≤ 99 then a + k * b else 99)) ∧ ∀ i, i < 8 ∨ (20 ≤ i ∧ i < 100) → g i = f i) (fun f8 => some f8) (by
    rintro rec g j hj ⟨h3, h4⟩
    have hjb : j * b ≤ 12 * 99 := Nat.mul_le_mul (by omega) hb
    refine ⟨upd (upd (upd g (8 + j) (if j < n then nI 1 else nI 0)) (100 + j) (-1000004)) (340 + j) (nI (if a + j * b ≤ 99 then a + j * b else 99)), ⟨fun k hk => ?_, fun i hi => by rw [upd_n (by omega), upd_n (by omega), upd_n (by omega)]; exact h4 i hi⟩, ?_⟩
    · by_cases hkj : k = j
      · subst hkj
        exact ⟨by rw [upd_n (by omega), upd_n (by omega), upd_s], by rw [upd_n (by omega), upd_s], upd_s _ _ _⟩
      · obtain ⟨a1, a2, a3⟩ := h3 k (by omega)
        exact ⟨by rw [upd_n (by omega), upd_n (by omega), upd_n (by omega)]; exact a1, by rw [upd_n (by omega), upd_n (by omega), upd_n (by omega)]; exact a2, by rw [upd_n (by omega), upd_n (by omega), upd_n (by omega)]; exact a3⟩
    · unfold F_X7_lays_B64
      simp only [am_let]
      by_cases h5 : j < n
      · by_cases h6 : a + j * b ≤ 99
        · simp (disch := omega) only [if_true, if_false, am_in_n, am_nz_n, am_nzl_n, sI_add, sI_mul, sI_cl, sI_le, sI_lt, sI_eq, sI_l, lN_add, lN_mul, lN_i, sg_gt, sg_le, sg_eq, sg_ge, sI_rem, sI_div, sI_rem2, sL_rem, sL_div, sL_rem2, sI_sub, sI_m1, sI_m1n, sI_or, if_pos, if_neg, Option.bind_some, am_call2_e, am_call3_e, am_call4_e, am_call5_e, am_call6_e, am_call7_e, am_call8_e, am_call9_e, am_call10_e, am_call11_e, am_call12_e, am_call13_e, am_call14_e, li_0, li_1, li_2, li_3, li_4, li_5, li_6, li_7, li_8, li_9, li_10, li_12, li_16, li_20, li_21, li_22, li_32, li_33, li_44, li_45, li_48, li_57, li_59, li_60, li_63, li_74, li_75, li_99, li_100, li_109, li_111, li_114, li_126, li_200, li_340, li_580, li_1740, li_65537, li_1000000, ll_0, ll_1, ll_100, h5, h6]
        · simp (disch := omega) only [if_true, if_false, am_in_n, am_nz_n, am_nzl_n, sI_add, sI_mul, sI_cl, sI_le, sI_lt, sI_eq, sI_l, lN_add, lN_mul, lN_i, sg_gt, sg_le, sg_eq, sg_ge, sI_rem, sI_div, sI_rem2, sL_rem, sL_div, sL_rem2, sI_sub, sI_m1, sI_m1n, sI_or, if_pos, if_neg, Option.bind_some, am_call2_e, am_call3_e, am_call4_e, am_call5_e, am_call6_e, am_call7_e, am_call8_e, am_call9_e, am_call10_e, am_call11_e, am_call12_e, am_call13_e, am_call14_e, li_0, li_1, li_2, li_3, li_4, li_5, li_6, li_7, li_8, li_9, li_10, li_12, li_16, li_20, li_21, li_22, li_32, li_33, li_44, li_45, li_48, li_57, li_59, li_60, li_63, li_74, li_75, li_99, li_100, li_109, li_111, li_114, li_126, li_200, li_340, li_580, li_1740, li_65537, li_1000000, ll_0, ll_1, ll_100, h5, h6]
      · by_cases h6 : a + j * b ≤ 99
        · simp (disch := omega) only [if_true, if_false, am_in_n, am_nz_n, am_nzl_n, sI_add, sI_mul, sI_cl, sI_le, sI_lt, sI_eq, sI_l, lN_add, lN_mul, lN_i, sg_gt, sg_le, sg_eq, sg_ge, sI_rem, sI_div, sI_rem2, sL_rem, sL_div, sL_rem2, sI_sub, sI_m1, sI_m1n, sI_or, if_pos, if_neg, Option.bind_some, am_call2_e, am_call3_e, am_call4_e, am_call5_e, am_call6_e, am_call7_e, am_call8_e, am_call9_e, am_call10_e, am_call11_e, am_call12_e, am_call13_e, am_call14_e, li_0, li_1, li_2, li_3, li_4, li_5, li_6, li_7, li_8, li_9, li_10, li_12, li_16, li_20, li_21, li_22, li_32, li_33, li_44, li_45, li_48, li_57, li_59, li_60, li_63, li_74, li_75, li_99, li_100, li_109, li_111, li_114, li_126, li_200, li_340, li_580, li_1740, li_65537, li_1000000, ll_0, ll_1, ll_100, h5, h6]
        · simp (disch := omega) only [if_true, if_false, am_in_n, am_nz_n, am_nzl_n, sI_add, sI_mul, sI_cl, sI_le, sI_lt, sI_eq, sI_l, lN_add, lN_mul, lN_i, sg_gt, sg_le, sg_eq, sg_ge, sI_rem, sI_div, sI_rem2, sL_rem, sL_div, sL_rem2, sI_sub, sI_m1, sI_m1n, sI_or, if_pos, if_neg, Option.bind_some, am_call2_e, am_call3_e, am_call4_e, am_call5_e, am_call6_e, am_call7_e, am_call8_e, am_call9_e, am_call10_e, am_call11_e, am_call12_e, am_call13_e, am_call14_e, li_0, li_1, li_2, li_3, li_4, li_5, li_6, li_7, li_8, li_9, li_10, li_12, li_16, li_20, li_21, li_22, li_32, li_33, li_44, li_45, li_48, li_57, li_59, li_60, li_63, li_74, li_75, li_99, li_100, li_109, li_111, li_114, li_126, li_200, li_340, li_580, li_1740, li_65537, li_1000000, ll_0, ll_1, ll_100, h5, h6]) (by
    rintro rec g -
    unfold F_X7_lays_B64
    simp only [am_let]
    simp (disch := omega) only [if_true, if_false, am_in_n, am_nz_n, am_nzl_n, sI_add, sI_mul, sI_cl, sI_le, sI_lt, sI_eq, sI_l, lN_add, lN_mul, lN_i, sg_gt, sg_le, sg_eq, sg_ge, sI_rem, sI_div, sI_rem2, sL_rem, sL_div, sL_rem2, sI_sub, sI_m1, sI_m1n, sI_or, if_pos, if_neg, Option.bind_some, am_call2_e, am_call3_e, am_call4_e, am_call5_e, am_call6_e, am_call7_e, am_call8_e, am_call9_e, am_call10_e, am_call11_e, am_call12_e, am_call13_e, am_call14_e, li_0, li_1, li_2, li_3, li_4, li_5, li_6, li_7, li_8, li_9, li_10, li_12, li_16, li_20, li_21, li_22, li_32, li_33, li_44, li_45, li_48, li_57, li_59, li_60, li_63, li_74, li_75, li_99, li_100, li_109, li_111, li_114, li_126, li_200, li_340, li_580, li_1740, li_65537, li_1000000, ll_0, ll_1, ll_100]) 0 (Nat.zero_le _) am_fuel (by rw [fuelE]; omega) f ⟨fun k hk => absurd hk (Nat.not_lt_zero k), fun _ _ => rfl⟩
  refine ⟨g, ⟨?_, ?_, ?_, ?_, ?_, ?_, ?_⟩, h3, e1.trans e2⟩
  · rw [h4 0 (by omega), h2 0 (by omega), t0]
  · rw [h4 1 (by omega), h2 1 (by omega), t1]
  · rw [h4 2 (by omega), h2 2 (by omega), t2]
  · rw [h4 3 (by omega), h2 3 (by omega), t3]
  · rw [h4 4 (by omega), h2 4 (by omega), t4]
  · rw [h4 20 (by omega)]; exact h1 0 (by omega)
  · intro i h5 h6
    rw [h4 i (by omega), h2 i (by omega), tr i h5]
theorem sum_one : ∀ n, sumN (fun _ => 1) n = n
  | 0 => rfl
  | n + 1 => by show sumN (fun _ => 1) n + 1 = n + 1; rw [sum_one n]
section Anew
variable {N G z th sc of : Nat} {w : Nat → Nat} {pl pa : Nat → Nat → Nat} {s : Nat → Int32} {noi obs res lmany lgens : Int32} {lplf lpaf logf ldrf lspf lscf : Nat → Int32} {wmany : Int32} {wf sf : Nat → Int32}
theorem new_ok {s' : Nat → Int32} {n a b : Nat} {f2 lpaf f1 ldrf lspf lscf f13 sf : Nat → Int32} (hn0 : 0 < n) (hn : n ≤ 12) (h0 : s' 0 = nI n) (h1 : s' 1 = nI 1) (h2 : s' 2 = nI 1) (h3 : s' 3 = nI 0) (h4 : s' 4 = nI 0) (h20 : s' 20 = nI 0) (hk : ∀ k, k < 12 → s' (8 + k) = (if k < n then nI 1 else nI 0) ∧ s' (100 + k) = -1000004 ∧ s' (340 + k) = nI (if a + k * b ≤ 99 then a + k * b else 99)) (hth : th ≤ 12) (hsc : sc ≤ 2) (hof : of ≤ 99) (q5 : s' 5 = nI th) (q6 : s' 6 = nI sc) (q7 : s' 7 = nI of) (e5 : sf 0 = s' 5) (e6 : sf 1 = s' 6) (e7 : sf 2 = s' 7) (hf2 : ∀ k, k < n → f2 k = nI (if a + k * b ≤ 99 then a + k * b else 99)) (hf1 : f1 0 = nI 0) (hf13 : ∀ k, k < n → f13 k = nI 1) : ∃ w' pl' pa', Good n 1 1 th sc of w' pl' pa' s' ∧ Rel n 1 (nI 1) (nI 0) (nI 0) (nI n) (nI 1) f2 lpaf f1 ldrf lspf lscf (nI n) f13 sf s' := by
  refine ⟨fun _ => 1, fun _ k => if a + k * b ≤ 99 then a + k * b else 99, fun _ _ => 0, ⟨⟨hn0, hn, by omega, by omega, by omega, hth, hsc, hof⟩, ⟨h0, h1, h2, q5, q6, q7⟩, ⟨fun k hk2 => ?_, fun _ _ => (by show 1 ≤ 1000000; omega), by rw [sum_one]; exact hn0⟩, ⟨fun g k hg hk2 => ?_, fun g k hg hk2 => ?_⟩, fun g k h5 h6 _ => absurd h6 (by omega), fun g k h5 h6 _ => absurd h6 (by omega), fun k hk2 => (hk k (by omega)).2.1⟩, ⟨⟨rfl, rfl, rfl, h2.symm, h3.symm, h4.symm, e5, e6, e7⟩, fun k hk2 => ?_, fun g hg => ?_, fun g k hg hk2 => ?_, fun g k h5 h6 _ => absurd h6 (by omega)⟩⟩
  · rw [(hk k (by omega)).1, if_pos hk2]
  · have : g = 0 := by omega
    subst this
    rw [show 340 + 12 * 0 + k = 340 + k by omega]
    exact (hk k (by omega)).2.2
  · show (if a + k * b ≤ 99 then a + k * b else 99) ≤ 99
    split <;> omega
  · rw [(hk k (by omega)).1, if_pos hk2, hf13 k hk2]
  · have : g = 0 := by omega
    subst this
    have h : s' (20 + 4 * 0) = nI 0 := h20
    rw [h]
    refine ⟨hf1, fun h => absurd h (by decide), fun h => absurd h (by decide)⟩
  · have : g = 0 := by omega
    subst this
    rw [show 340 + 12 * 0 + k = 340 + k by omega, show 0 * 12 + k = k by omega, hf2 k hk2]
    exact (hk k (by omega)).2.2.symm
theorem o_begin (hG : Good N G z th sc of w pl pa s) (hR : Rel N G noi obs res lmany lgens lplf lpaf logf ldrf lspf lscf wmany wf sf s) {mpasts mruns up : Int32} {mpast fp : Nat → Int32} (hc : F_X7_changes mpasts mruns s mpast = some (up, fp)) (p0 p1 p2 : Int32) : ∃ r noi' obs' res' lmany' lgens' lplf' logf' wmany' wf', F_X4_beginAnew noi obs res lmany lgens lplf logf wmany wf p0 p1 p2 = some (r, noi', obs', res', lmany', lgens', lplf', logf', wmany', wf') ∧ ((¬ 0 ≤ r ∧ F_X7_begin mpasts mruns s mpast p0 p1 p2 = some (r, mpasts, s, mpast)) ∨ (0 ≤ r ∧ ∃ N' G' z' w' pl' pa' s', F_X7_begin mpasts mruns s mpast p0 p1 p2 = some (r, up, s', fp) ∧ Good N' G' z' th sc of w' pl' pa' s' ∧ Rel N' G' noi' obs' res' lmany' lgens' lplf' lpaf logf' ldrf lspf lscf wmany' wf' sf s')) := by
  obtain ⟨⟨n0, n1, g0, g1, hz, hth, hsc, hof⟩, ⟨s0, s1, s2, s5, s6, s7⟩, -, -, -⟩ := hG
  obtain ⟨⟨rfl, rfl, rfl, rfl, rfl, rfl, r5, r6, r7⟩, rw_, rg, rpl, rpa⟩ := hR
  unfold F_X4_beginAnew F_X7_begin F_X1_generations F_X4_startAnew
  rw [inEq]
  rcases inN p0 (a := 1) (b := 12) (by omega) (by omega) with ⟨n, hn0, hn, rfl, c1⟩ | ⟨-, c1⟩
  · rcases inN p1 (a := 0) (b := 99) (by omega) (by omega) with ⟨a, -, ha, rfl, c2⟩ | ⟨-, c2⟩
    · rcases inN p2 (a := 0) (b := 99) (by omega) (by omega) with ⟨b, -, hb, rfl, c3⟩ | ⟨-, c3⟩
      · obtain ⟨f2, f1, a1, a2, a3⟩ := fstart (nI N) (nI G) lplf logf hn ha hb
        obtain ⟨f13, a4, a5⟩ := fequal (nI N) wf hn
        obtain ⟨s', ⟨b0, b1, b2, b3, b4, b20, bs⟩, b5, b6⟩ := flays s hn ha hb
        obtain ⟨w', pl', pa', k1, k2⟩ := new_ok (th := th) (sc := sc) (of := of) (lpaf := lpaf) (ldrf := ldrf) (lspf := lspf) (lscf := lscf) (sf := sf) hn0 hn b0 b1 b2 b3 b4 b20 b5 hth hsc hof ((bs 5 (by omega) (by omega)).trans s5) ((bs 6 (by omega) (by omega)).trans s6) ((bs 7 (by omega) (by omega)).trans s7) (r5.trans (bs 5 (by omega) (by omega)).symm) (r6.trans (bs 6 (by omega) (by omega)).symm) (r7.trans (bs 7 (by omega) (by omega)).symm) a1 a2 a4
        refine ⟨nI G, nI 1, nI 0, nI 0, nI n, nI 1, f2, f1, nI n, f13, ?_, Or.inr ⟨nI_nn (by omega), n, 1, 1, w', pl', pa', s', ?_, k1, k2⟩⟩
        · simp (disch := omega) only [li_0, li_1, li_2, li_3, li_4, li_5, li_6, li_7, li_8, li_9, li_10, li_12, li_16, li_20, li_21, li_22, li_32, li_33, li_44, li_45, li_48, li_57, li_59, li_60, li_63, li_74, li_75, li_99, li_100, li_109, li_111, li_114, li_126, li_200, li_340, li_580, li_1740, li_65537, li_1000000, ll_0, ll_1, ll_100, c1, c2, c3, Option.bind_some, sI_eq, if_neg, a3, a5, am_call4_e, am_call2_e, am_call9_e]
        · simp only [am_let]
          simp (disch := omega) only [li_0, li_1, li_2, li_3, li_4, li_5, li_6, li_7, li_8, li_9, li_10, li_12, li_16, li_20, li_21, li_22, li_32, li_33, li_44, li_45, li_48, li_57, li_59, li_60, li_63, li_74, li_75, li_99, li_100, li_109, li_111, li_114, li_126, li_200, li_340, li_580, li_1740, li_65537, li_1000000, ll_0, ll_1, ll_100, c1, c2, c3, Option.bind_some, sI_eq, if_neg, hc, am_call2_e, b6, sI_cl, s1]
      · refine ⟨-1000001, s 2, s 3, s 4, nI N, nI G, lplf, logf, nI N, wf, ?_, Or.inl ⟨inv_neg, ?_⟩⟩ <;> simp (disch := omega) only [li_0, li_1, li_2, li_3, li_4, li_5, li_6, li_7, li_8, li_9, li_10, li_12, li_16, li_20, li_21, li_22, li_32, li_33, li_44, li_45, li_48, li_57, li_59, li_60, li_63, li_74, li_75, li_99, li_100, li_109, li_111, li_114, li_126, li_200, li_340, li_580, li_1740, li_65537, li_1000000, ll_0, ll_1, ll_100, c1, c2, c3, Option.bind_some, sI_eq, if_neg, if_true]
    · refine ⟨-1000001, s 2, s 3, s 4, nI N, nI G, lplf, logf, nI N, wf, ?_, Or.inl ⟨inv_neg, ?_⟩⟩ <;> simp (disch := omega) only [li_0, li_1, li_2, li_3, li_4, li_5, li_6, li_7, li_8, li_9, li_10, li_12, li_16, li_20, li_21, li_22, li_32, li_33, li_44, li_45, li_48, li_57, li_59, li_60, li_63, li_74, li_75, li_99, li_100, li_109, li_111, li_114, li_126, li_200, li_340, li_580, li_1740, li_65537, li_1000000, ll_0, ll_1, ll_100, c1, c2, Option.bind_some, sI_eq, if_neg, if_true]
  · refine ⟨-1000001, s 2, s 3, s 4, nI N, nI G, lplf, logf, nI N, wf, ?_, Or.inl ⟨inv_neg, ?_⟩⟩ <;> simp (disch := omega) only [li_0, li_1, li_2, li_3, li_4, li_5, li_6, li_7, li_8, li_9, li_10, li_12, li_16, li_20, li_21, li_22, li_32, li_33, li_44, li_45, li_48, li_57, li_59, li_60, li_63, li_74, li_75, li_99, li_100, li_109, li_111, li_114, li_126, li_200, li_340, li_580, li_1740, li_65537, li_1000000, ll_0, ll_1, ll_100, c1, Option.bind_some, sI_eq, if_neg, if_true]
end Anew
