-- the model's shares
theorem cmpM1 {a : Nat} (ha : a < 2147483648) : (lg_cmp (lN a) (-lN 1) ≤ nI 0) = False := by
  have h : -lN 1 < lN a := by
    rw [Int64.lt_iff_toInt_lt, lN_toInt ha]
    show (-1 : Int) < a
    omega
  unfold lg_cmp
  simp only [gt_iff_lt, h, if_true]
  decide
theorem cmpM2 {a : Nat} (ha : a < 2147483648) : (lg_cmp (-lN 1) (lN a) ≤ nI 0) = True := by
  have h : -lN 1 < lN a := by
    rw [Int64.lt_iff_toInt_lt, lN_toInt ha]
    show (-1 : Int) < a
    omega
  have h1 : ¬ lN a < -lN 1 := by
    rw [Int64.lt_iff_toInt_lt, lN_toInt ha]
    show ¬ (a : Int) < -1
    omega
  have h2 : ¬ -lN 1 = lN a := by
    intro e
    rw [e] at h
    rw [Int64.lt_iff_toInt_lt] at h
    omega
  unfold lg_cmp
  simp only [gt_iff_lt, h1, h2, if_false]
  decide
theorem cmpM3 : (lg_cmp (-lN 1) (-lN 1) ≤ nI 0) = True := by decide
theorem cmp_le {a b : Nat} (ha : a < 2147483648) (hb : b < 2147483648) (ma mb : Bool) : (lg_cmp (if ma = true then -lN 1 else lN a) (if mb = true then -lN 1 else lN b) ≤ nI 0) ↔ ¬ (ma = false ∧ (mb = true ∨ b < a)) := by
  cases ma <;> cases mb
  · simp (disch := omega) only [Bool.false_eq_true, if_false, sg_le, true_and, false_or]
    omega
  · simp only [Bool.false_eq_true, if_false, if_true, cmpM1 ha, true_and, true_or, not_true_eq_false]
  · simp only [Bool.false_eq_true, if_false, if_true, cmpM2 hb, Bool.true_eq_false, false_and, not_false_eq_true]
  · simp only [if_true, cmpM3, Bool.true_eq_false, false_and, not_false_eq_true]
def betB (m : Nat → Bool) (r : Nat → Nat) (k b : Nat) : Prop := m k = false ∧ (m b = true ∨ r b < r k)
theorem fbest {f : Nat → Int64} {N : Nat} {r : Nat → Nat} {m : Nat → Bool} (K : Int32 → Option ((Nat → Int32) × (Nat → Int32) × (Nat → Int64))) (hN0 : 0 < N) (hN : N ≤ 12) (hf : ∀ k, k < N → f k = if m k = true then -lN 1 else lN (r k)) (hb : ∀ k, k < N → r k < 2147483648) : ∃ b, b < N ∧ (∀ k, k < N → ¬ betB m r k b) ∧ (∀ k, k < b → betB m r b k) ∧ am_loop2 (F_X7_byTimes_B106 (nI N) K f) am_fuel (nI 0) (nI 1) = K (nI b) := by
  obtain ⟨x, ⟨b, hx, h1, h2, h3⟩, e⟩ := for2L (b := F_X7_byTimes_B106 (nI N) K f) nI N (fun j x => ∃ b, x = nI b ∧ b < j ∧ (∀ k, k < j → ¬ betB m r k b) ∧ ∀ k, k < b → betB m r b k) K (by
    rintro rec x j hj ⟨b, rfl, h1, h2, h3⟩
    have c := cmp_le (hb j hj) (hb b (by omega)) (m j) (m b)
    by_cases hbt : betB m r j b
    · have c1 : ¬ lg_cmp (if m j = true then -lN 1 else lN (r j)) (if m b = true then -lN 1 else lN (r b)) ≤ nI 0 := fun h => (c.mp h) hbt
      refine ⟨nI j, ⟨j, rfl, by omega, fun k hk hkj => ?_, fun k hk => ?_⟩, ?_⟩
      · by_cases hkj2 : k = j
        · subst hkj2
          obtain ⟨g1, g2 | g2⟩ := hkj
          · rw [g1] at g2; cases g2
          · omega
        · obtain ⟨g1, g2 | g2⟩ := hkj
          · rw [hbt.1] at g2; cases g2
          · refine h2 k (by omega) ⟨g1, ?_⟩
            rcases hbt.2 with g3 | g3
            · exact Or.inl g3
            · exact Or.inr (by omega)
      · refine ⟨hbt.1, ?_⟩
        cases hmk : m k with
        | true => exact Or.inl rfl
        | false =>
          right
          have g := h2 k hk
          have g1 : ¬ (m b = true ∨ r b < r k) := fun h => g ⟨hmk, h⟩
          rcases hbt.2 with g3 | g3
          · exact absurd (Or.inl g3) g1
          · have : ¬ r b < r k := fun h => g1 (Or.inr h)
            omega
      · unfold F_X7_byTimes_B106
        simp only [am_let]
        simp (disch := omega) only [li_0, li_1, li_2, li_3, li_4, li_5, li_6, li_7, li_8, li_9, li_10, li_12, li_16, li_20, li_21, li_22, li_32, li_33, li_44, li_45, li_48, li_57, li_59, li_60, li_63, li_74, li_75, li_99, li_100, li_109, li_111, li_114, li_126, li_200, li_340, li_580, li_1740, li_65537, li_1000000, ll_0, ll_1, ll_100, sI_le, if_neg, am_in_n, sI_cl, hf j hj, hf b (by omega), sI_add]
        try rw [if_neg c1]
    · have c1 : lg_cmp (if m j = true then -lN 1 else lN (r j)) (if m b = true then -lN 1 else lN (r b)) ≤ nI 0 := c.mpr hbt
      refine ⟨nI b, ⟨b, rfl, by omega, fun k hk => ?_, h3⟩, ?_⟩
      · by_cases hkj2 : k = j
        · subst hkj2; exact hbt
        · exact h2 k (by omega)
      · unfold F_X7_byTimes_B106
        simp only [am_let]
        simp (disch := omega) only [li_0, li_1, li_2, li_3, li_4, li_5, li_6, li_7, li_8, li_9, li_10, li_12, li_16, li_20, li_21, li_22, li_32, li_33, li_44, li_45, li_48, li_57, li_59, li_60, li_63, li_74, li_75, li_99, li_100, li_109, li_111, li_114, li_126, li_200, li_340, li_580, li_1740, li_65537, li_1000000, ll_0, ll_1, ll_100, sI_le, if_neg, am_in_n, sI_cl, hf j hj, hf b (by omega), sI_add]
        try rw [if_pos c1]) (by
    rintro rec x -
    unfold F_X7_byTimes_B106
    simp only [am_let]
    simp (disch := omega) only [if_true, if_false, am_in_n, am_nz_n, am_nzl_n, sI_add, sI_mul, sI_cl, sI_le, sI_lt, sI_eq, sI_l, lN_add, lN_mul, lN_i, sg_gt, sg_le, sg_eq, sg_ge, sI_rem, sI_div, sI_rem2, sL_rem, sL_div, sL_rem2, sI_sub, sI_m1, sI_m1n, sI_or, if_pos, if_neg, Option.bind_some, am_call2_e, am_call3_e, am_call4_e, am_call5_e, am_call6_e, am_call7_e, am_call8_e, am_call9_e, am_call10_e, am_call11_e, am_call12_e, am_call13_e, am_call14_e, li_0, li_1, li_2, li_3, li_4, li_5, li_6, li_7, li_8, li_9, li_10, li_12, li_16, li_20, li_21, li_22, li_32, li_33, li_44, li_45, li_48, li_57, li_59, li_60, li_63, li_74, li_75, li_99, li_100, li_109, li_111, li_114, li_126, li_200, li_340, li_580, li_1740, li_65537, li_1000000, ll_0, ll_1, ll_100]) 1 (by omega) am_fuel (by rw [fuelE]; omega) (nI 0) ⟨0, rfl, by omega, fun k hk => by
      have : k = 0 := by omega
      subst this
      rintro ⟨g1, g2 | g2⟩
      · rw [g1] at g2; cases g2
      · omega, fun k hk => absurd hk (Nat.not_lt_zero k)⟩
  exact ⟨b, h1, h2, h3, by rw [e, hx]⟩
theorem fsharesM {s : Nat → Int32} {N : Nat} {w : Nat → Nat} (ch ti : Nat → Int32) (re : Nat → Int64) (h0 : s 0 = nI N) (hN0 : 0 < N) (hN : N ≤ 12) (hw : ∀ k, k < N → s (8 + k) = nI (w k)) (hb : ∀ k, k < N → w k ≤ 1000000) (hS : 0 < sumN w N) : ∃ a' t' r', (∀ k, k < N → a' k = nI (faR (tmN w N) 1 k N)) ∧ F_X7_byTimes s ch ti re = some (a', t', r') := by
  have hS2 := (sq_le hN hb).1
  have hfl := fl_le hS
  have htm := tm_sum hS
  have hpr : ∀ k, k < N → N * w k ≤ 12 * 1000000 := fun k hk => Nat.mul_le_mul hN (hb k hk)
  have hrs : ∀ k, k < N → rsN w N k < 2147483648 := fun k hk => by
    have : rsN w N k < sumN w N := Nat.mod_lt _ hS
    omega
  have hts : ∀ k, k < N → tmN w N k ≤ N := by
    intro k hk
    have h1 : sumN (tmN w N) (k + 1) ≤ sumN (tmN w N) N := sumN_mono (by omega)
    have h2 : sumN (tmN w N) (k + 1) = sumN (tmN w N) k + tmN w N k := rfl
    omega
  have hfs : ∀ k, k < N → flN w N k ≤ N := by
    intro k hk
    have h1 : sumN (flN w N) (k + 1) ≤ sumN (flN w N) N := sumN_mono (by omega)
    have h2 : sumN (flN w N) (k + 1) = sumN (flN w N) k + flN w N k := rfl
    omega
  have hwant : wantN w N ≤ N := Nat.sub_le _ _
  -- the last loop
  have inner : ∀ (K : Int32 → (Nat → Int32) → Option ((Nat → Int32) × (Nat → Int32) × (Nat → Int64))) (t : Nat → Int32) (k : Nat) (g : Nat → Int32), k < N → t k = nI (tmN w N k) → laid (tmN w N) k g → ∃ g', laid (tmN w N) (k + 1) g' ∧ am_loop3 (F_X7_byTimes_B187 (nI k) t K) am_fuel (nI (sumN (tmN w N) k)) (nI 0) g = K (nI (sumN (tmN w N) (k + 1))) g' := by
    intro K t k g hk ht hg
    have h5 : sumN (tmN w N) (k + 1) ≤ sumN (tmN w N) N := sumN_mono (by omega)
    have h6 : sumN (tmN w N) (k + 1) = sumN (tmN w N) k + tmN w N k := rfl
    have h7 := hts k hk
    obtain ⟨x, g', ⟨hx, hg1, hg2⟩, e⟩ := for3M (b := F_X7_byTimes_B187 (nI k) t K) nI (tmN w N k) (fun j x g' => x = nI (sumN (tmN w N) k + j) ∧ (∀ i, i < sumN (tmN w N) k → g' i = g i) ∧ ∀ i, i < j → g' (sumN (tmN w N) k + i) = nI k) (fun x g' => K x g') (by
      rintro rec x g' j hj ⟨rfl, ha, hc⟩
      refine ⟨nI (sumN (tmN w N) k + (j + 1)), upd g' (sumN (tmN w N) k + j) (nI k), ⟨rfl, fun i hi => by rw [upd_n (by omega)]; exact ha i hi, fun i hi => ?_⟩, ?_⟩
      · by_cases hij : i = j
        · subst hij; exact upd_s _ _ _
        · rw [upd_n (by omega)]; exact hc i (by omega)
      · unfold F_X7_byTimes_B187
        simp only [am_let]
        have e9 : sumN (tmN w N) k + j + 1 = sumN (tmN w N) k + (j + 1) := by omega
        simp (disch := omega) only [if_true, if_false, am_in_n, am_nz_n, am_nzl_n, sI_add, sI_mul, sI_cl, sI_le, sI_lt, sI_eq, sI_l, lN_add, lN_mul, lN_i, sg_gt, sg_le, sg_eq, sg_ge, sI_rem, sI_div, sI_rem2, sL_rem, sL_div, sL_rem2, sI_sub, sI_m1, sI_m1n, sI_or, if_pos, if_neg, Option.bind_some, am_call2_e, am_call3_e, am_call4_e, am_call5_e, am_call6_e, am_call7_e, am_call8_e, am_call9_e, am_call10_e, am_call11_e, am_call12_e, am_call13_e, am_call14_e, li_0, li_1, li_2, li_3, li_4, li_5, li_6, li_7, li_8, li_9, li_10, li_12, li_16, li_20, li_21, li_22, li_32, li_33, li_44, li_45, li_48, li_57, li_59, li_60, li_63, li_74, li_75, li_99, li_100, li_109, li_111, li_114, li_126, li_200, li_340, li_580, li_1740, li_65537, li_1000000, ll_0, ll_1, ll_100, ht, e9]) (by
      rintro rec x g' ⟨rfl, -⟩
      unfold F_X7_byTimes_B187
      simp only [am_let]
      simp (disch := omega) only [if_true, if_false, am_in_n, am_nz_n, am_nzl_n, sI_add, sI_mul, sI_cl, sI_le, sI_lt, sI_eq, sI_l, lN_add, lN_mul, lN_i, sg_gt, sg_le, sg_eq, sg_ge, sI_rem, sI_div, sI_rem2, sL_rem, sL_div, sL_rem2, sI_sub, sI_m1, sI_m1n, sI_or, if_pos, if_neg, Option.bind_some, am_call2_e, am_call3_e, am_call4_e, am_call5_e, am_call6_e, am_call7_e, am_call8_e, am_call9_e, am_call10_e, am_call11_e, am_call12_e, am_call13_e, am_call14_e, li_0, li_1, li_2, li_3, li_4, li_5, li_6, li_7, li_8, li_9, li_10, li_12, li_16, li_20, li_21, li_22, li_32, li_33, li_44, li_45, li_48, li_57, li_59, li_60, li_63, li_74, li_75, li_99, li_100, li_109, li_111, li_114, li_126, li_200, li_340, li_580, li_1740, li_65537, li_1000000, ll_0, ll_1, ll_100, ht]) 0 (Nat.zero_le _) am_fuel (by rw [fuelE]; omega) (nI (sumN (tmN w N) k)) g ⟨rfl, fun _ _ => rfl, fun i hi => absurd hi (Nat.not_lt_zero i)⟩
    refine ⟨g', fun j hj => ?_, by rw [e, hx]; rfl⟩
    by_cases hjl : j < sumN (tmN w N) k
    · obtain ⟨e1, a1, a2, a3, a4⟩ := hg j hjl
      exact ⟨e1, by omega, by rw [hg1 j hjl]; exact a2, a3, a4⟩
    · have := hg2 (j - sumN (tmN w N) k) (by omega)
      rw [show sumN (tmN w N) k + (j - sumN (tmN w N) k) = j by omega] at this
      exact ⟨k, by omega, this, by omega, hj⟩
  have last : ∀ (t : Nat → Int32) (r : Nat → Int64), (∀ k, k < N → t k = nI (tmN w N k)) → ∃ g, laid (tmN w N) N g ∧ am_loop3 (F_X7_byTimes_B178 (nI N) (fun f11 => some (f11, t, r)) t) am_fuel (nI 0) (nI 0) ch = some (g, t, r) := by
    intro t r ht
    obtain ⟨x, g, ⟨-, hg⟩, e⟩ := for3M (b := F_X7_byTimes_B178 (nI N) (fun f11 => some (f11, t, r)) t) nI N (fun j x g => x = nI (sumN (tmN w N) j) ∧ laid (tmN w N) j g) (fun x g => some (g, t, r)) (by
      rintro rec x g j hj ⟨rfl, hg⟩
      unfold F_X7_byTimes_B178
      simp only [am_let]
      simp (disch := omega) only [li_0, li_1, li_2, li_3, li_4, li_5, li_6, li_7, li_8, li_9, li_10, li_12, li_16, li_20, li_21, li_22, li_32, li_33, li_44, li_45, li_48, li_57, li_59, li_60, li_63, li_74, li_75, li_99, li_100, li_109, li_111, li_114, li_126, li_200, li_340, li_580, li_1740, li_65537, li_1000000, ll_0, ll_1, ll_100, sI_le, if_neg]
      obtain ⟨g', hg', e3⟩ := inner (fun x17 f18 => rec x17 (nI j + nI 1) f18) t j g hj (ht j hj) hg
      refine ⟨nI (sumN (tmN w N) (j + 1)), g', ⟨rfl, hg'⟩, ?_⟩
      rw [sI_add] at e3 ⊢
      exact e3) (by
      rintro rec x g -
      unfold F_X7_byTimes_B178
      simp only [am_let]
      simp (disch := omega) only [if_true, if_false, am_in_n, am_nz_n, am_nzl_n, sI_add, sI_mul, sI_cl, sI_le, sI_lt, sI_eq, sI_l, lN_add, lN_mul, lN_i, sg_gt, sg_le, sg_eq, sg_ge, sI_rem, sI_div, sI_rem2, sL_rem, sL_div, sL_rem2, sI_sub, sI_m1, sI_m1n, sI_or, if_pos, if_neg, Option.bind_some, am_call2_e, am_call3_e, am_call4_e, am_call5_e, am_call6_e, am_call7_e, am_call8_e, am_call9_e, am_call10_e, am_call11_e, am_call12_e, am_call13_e, am_call14_e, li_0, li_1, li_2, li_3, li_4, li_5, li_6, li_7, li_8, li_9, li_10, li_12, li_16, li_20, li_21, li_22, li_32, li_33, li_44, li_45, li_48, li_57, li_59, li_60, li_63, li_74, li_75, li_99, li_100, li_109, li_111, li_114, li_126, li_200, li_340, li_580, li_1740, li_65537, li_1000000, ll_0, ll_1, ll_100]) 0 (Nat.zero_le _) am_fuel (by rw [fuelE]; omega) (nI 0) ch ⟨rfl, fun j hj => absurd hj (Nat.not_lt_zero j)⟩
    exact ⟨g, hg, e⟩
  unfold F_X7_byTimes
  rw [fsumM h0 hN hw]
  simp only [am_let]
  simp (disch := omega) only [li_0, li_1, li_2, li_3, li_4, li_5, li_6, li_7, li_8, li_9, li_10, li_12, li_16, li_20, li_21, li_22, li_32, li_33, li_44, li_45, li_48, li_57, li_59, li_60, li_63, li_74, li_75, li_99, li_100, li_109, li_111, li_114, li_126, li_200, li_340, li_580, li_1740, li_65537, li_1000000, ll_0, ll_1, ll_100, Option.bind_some, sI_l, sI_cl, h0]
  -- the first loop
  obtain ⟨x4, t5, r6, ⟨hx4, ht5, hr6⟩, e⟩ := for4M (b := F_X7_byTimes_B19 (nI N) (fun x4 f5 f6 => am_loop3 (F_X7_byTimes_B93 x4 (fun f8 f9 => am_loop3 (F_X7_byTimes_B178 (nI N) (fun f11 => some (f11, f8, f9)) f8) am_fuel (nI 0) (nI 0) ch) (nI N)) am_fuel (nI 0) f5 f6) (lN (sumN w N)) s) nI N (fun j x t r => x = nI (N - sumN (flN w N) j) ∧ (∀ k, k < j → t k = nI (flN w N k)) ∧ ∀ k, k < j → r k = lN (rsN w N k)) (fun x4 f5 f6 => am_loop3 (F_X7_byTimes_B93 x4 (fun f8 f9 => am_loop3 (F_X7_byTimes_B178 (nI N) (fun f11 => some (f11, f8, f9)) f8) am_fuel (nI 0) (nI 0) ch) (nI N)) am_fuel (nI 0) f5 f6) (by
    rintro rec x t r j hj ⟨rfl, h1, h2⟩
    have h3 := hpr j hj
    have h4 := hb j hj
    have h5 : sumN (flN w N) (j + 1) ≤ sumN (flN w N) N := sumN_mono (by omega)
    have h6 : sumN (flN w N) (j + 1) = sumN (flN w N) j + N * w j / sumN w N := rfl
    have e1 : nI (N - sumN (flN w N) j) - nI (N * w j / sumN w N) = nI (N - sumN (flN w N) (j + 1)) := by
      rw [sI_sub (by omega), h6, Nat.sub_sub]
    refine ⟨nI (N - sumN (flN w N) (j + 1)), upd t j (nI (flN w N j)), vp_updL r j (lN (rsN w N j)), ⟨rfl, fun k hk => ?_, fun k hk => ?_⟩, ?_⟩
    · by_cases hkj : k = j
      · subst hkj; exact upd_s _ _ _
      · rw [upd_n hkj]; exact h1 k (by omega)
    · by_cases hkj : k = j
      · subst hkj; exact updL_s _ _ _
      · rw [updL_n hkj]; exact h2 k (by omega)
    · unfold F_X7_byTimes_B19
      simp only [am_let]
      simp (disch := omega) only [if_true, if_false, am_in_n, am_nz_n, am_nzl_n, sI_add, sI_mul, sI_cl, sI_le, sI_lt, sI_eq, sI_l, lN_add, lN_mul, lN_i, sg_gt, sg_le, sg_eq, sg_ge, sI_rem, sI_div, sI_rem2, sL_rem, sL_div, sL_rem2, sI_sub, sI_m1, sI_m1n, sI_or, if_pos, if_neg, Option.bind_some, am_call2_e, am_call3_e, am_call4_e, am_call5_e, am_call6_e, am_call7_e, am_call8_e, am_call9_e, am_call10_e, am_call11_e, am_call12_e, am_call13_e, am_call14_e, li_0, li_1, li_2, li_3, li_4, li_5, li_6, li_7, li_8, li_9, li_10, li_12, li_16, li_20, li_21, li_22, li_32, li_33, li_44, li_45, li_48, li_57, li_59, li_60, li_63, li_74, li_75, li_99, li_100, li_109, li_111, li_114, li_126, li_200, li_340, li_580, li_1740, li_65537, li_1000000, ll_0, ll_1, ll_100, hw j hj, upd_s, e1]
      rfl) (by
    rintro rec x t r -
    unfold F_X7_byTimes_B19
    simp only [am_let]
    simp (disch := omega) only [if_true, if_false, am_in_n, am_nz_n, am_nzl_n, sI_add, sI_mul, sI_cl, sI_le, sI_lt, sI_eq, sI_l, lN_add, lN_mul, lN_i, sg_gt, sg_le, sg_eq, sg_ge, sI_rem, sI_div, sI_rem2, sL_rem, sL_div, sL_rem2, sI_sub, sI_m1, sI_m1n, sI_or, if_pos, if_neg, Option.bind_some, am_call2_e, am_call3_e, am_call4_e, am_call5_e, am_call6_e, am_call7_e, am_call8_e, am_call9_e, am_call10_e, am_call11_e, am_call12_e, am_call13_e, am_call14_e, li_0, li_1, li_2, li_3, li_4, li_5, li_6, li_7, li_8, li_9, li_10, li_12, li_16, li_20, li_21, li_22, li_32, li_33, li_44, li_45, li_48, li_57, li_59, li_60, li_63, li_74, li_75, li_99, li_100, li_109, li_111, li_114, li_126, li_200, li_340, li_580, li_1740, li_65537, li_1000000, ll_0, ll_1, ll_100]) 0 (Nat.zero_le _) am_fuel (by rw [fuelE]; omega) (nI N) ti re ⟨rfl, fun k hk => absurd hk (Nat.not_lt_zero k), fun k hk => absurd hk (Nat.not_lt_zero k)⟩
  rw [e]
  subst hx4
  have e0 : N - sumN (flN w N) N = wantN w N := rfl
  rw [e0]
  -- the loop of those that are wanting
  obtain ⟨t8, r9, ⟨ht8, -⟩, e2⟩ := for3F (b := F_X7_byTimes_B93 (nI (wantN w N)) (fun f8 f9 => am_loop3 (F_X7_byTimes_B178 (nI N) (fun f11 => some (f11, f8, f9)) f8) am_fuel (nI 0) (nI 0) ch) (nI N)) nI (wantN w N) (fun i t r => (∀ k, k < N → t k = nI (flN w N k + (if rankN (rsN w N) N k < i then 1 else 0))) ∧ ∀ k, k < N → r k = if decide (rankN (rsN w N) N k < i) = true then -lN 1 else lN (rsN w N k)) (fun f8 f9 => am_loop3 (F_X7_byTimes_B178 (nI N) (fun f11 => some (f11, f8, f9)) f8) am_fuel (nI 0) (nI 0) ch) (by
    rintro rec t r i hi ⟨h1, h2⟩
    unfold F_X7_byTimes_B93
    simp only [am_let]
    obtain ⟨b, g1, g2, g3, g4⟩ := fbest (m := fun k => decide (rankN (rsN w N) N k < i)) (fun x32 => am_in x32 12 (am_in x32 12 (am_in x32 12 (rec (nI i + nI 1) (upd t x32.toNatClampNeg (t x32.toNatClampNeg + nI 1)) (vp_updL r x32.toNatClampNeg (-lN 1)))))) hN0 hN h2 hrs
    have hcnt := rank_cnt (r := rsN w N) (N := N) i (by omega)
    have hex : ∃ k, k < N ∧ i ≤ rankN (rsN w N) N k := by
      apply Classical.byContradiction
      intro hno
      have h3 : ∀ k, k < N → (fun _ => true : Nat → Bool) k = true → decide (rankN (rsN w N) N k < i) = true := by
        intro k hk _
        rw [decide_eq_true_eq]
        apply Classical.byContradiction
        intro h4
        exact hno ⟨k, hk, by omega⟩
      have h4 := cnt_mono N h3
      have h5 : ∀ M, cntN (fun _ => true) M = M := by
        intro M
        induction M with
        | zero => rfl
        | succ M ih => show cntN (fun _ => true) M + 1 = M + 1; rw [ih]
      rw [h5, hcnt] at h4
      omega
    have hub : i ≤ rankN (rsN w N) N b := by
      apply Classical.byContradiction
      intro hm
      obtain ⟨u, hu1, hu2⟩ := hex
      exact g2 u hu1 ⟨decide_eq_false (by omega), Or.inl (decide_eq_true (by omega))⟩
    have hrb := rank_next g1 hcnt hub (fun k hk hku hkb => by
      have h3 : ¬ rsN w N b < rsN w N k := fun h => g2 k hk ⟨decide_eq_false (by omega), Or.inr h⟩
      unfold aheadB
      simp only [Bool.or_eq_true, Bool.and_eq_true, decide_eq_true_eq]
      by_cases h4 : rsN w N k < rsN w N b
      · exact Or.inl h4
      · right
        refine ⟨by omega, ?_⟩
        apply Classical.byContradiction
        intro h5
        obtain ⟨-, h6 | h6⟩ := g3 k (by omega)
        · have := of_decide_eq_true h6
          omega
        · omega)
    refine ⟨upd t b (t b + nI 1), vp_updL r b (-lN 1), ⟨fun k hk => ?_, fun k hk => ?_⟩, ?_⟩
    · by_cases hkb : k = b
      · subst hkb
        rw [upd_s, h1 k hk, hrb, if_neg (Nat.lt_irrefl i), if_pos (Nat.lt_succ_self i), sI_add]
      · have h3 : ¬ rankN (rsN w N) N k = i := fun h => hkb (rank_inj (r := rsN w N) hk g1 (by omega))
        rw [upd_n hkb, h1 k hk]
        by_cases h4 : rankN (rsN w N) N k < i
        · rw [if_pos h4, if_pos (show rankN (rsN w N) N k < i + 1 by omega)]
        · rw [if_neg h4, if_neg (show ¬ rankN (rsN w N) N k < i + 1 by omega)]
    · by_cases hkb : k = b
      · subst hkb
        rw [updL_s, decide_eq_true (show rankN (rsN w N) N k < i + 1 by omega), if_pos rfl]
      · have h3 : ¬ rankN (rsN w N) N k = i := fun h => hkb (rank_inj (r := rsN w N) hk g1 (by omega))
        rw [updL_n hkb, h2 k hk]
        by_cases h4 : rankN (rsN w N) N k < i
        · rw [decide_eq_true h4, decide_eq_true (show rankN (rsN w N) N k < i + 1 by omega)]
        · rw [decide_eq_false h4, decide_eq_false (show ¬ rankN (rsN w N) N k < i + 1 by omega)]
    · simp (disch := omega) only [li_0, li_1, li_2, li_3, li_4, li_5, li_6, li_7, li_8, li_9, li_10, li_12, li_16, li_20, li_21, li_22, li_32, li_33, li_44, li_45, li_48, li_57, li_59, li_60, li_63, li_74, li_75, li_99, li_100, li_109, li_111, li_114, li_126, li_200, li_340, li_580, li_1740, li_65537, li_1000000, ll_0, ll_1, ll_100, sI_le, if_neg]
      rw [g4]
      simp (disch := omega) only [if_true, if_false, am_in_n, am_nz_n, am_nzl_n, sI_add, sI_mul, sI_cl, sI_le, sI_lt, sI_eq, sI_l, lN_add, lN_mul, lN_i, sg_gt, sg_le, sg_eq, sg_ge, sI_rem, sI_div, sI_rem2, sL_rem, sL_div, sL_rem2, sI_sub, sI_m1, sI_m1n, sI_or, if_pos, if_neg, Option.bind_some, am_call2_e, am_call3_e, am_call4_e, am_call5_e, am_call6_e, am_call7_e, am_call8_e, am_call9_e, am_call10_e, am_call11_e, am_call12_e, am_call13_e, am_call14_e, li_0, li_1, li_2, li_3, li_4, li_5, li_6, li_7, li_8, li_9, li_10, li_12, li_16, li_20, li_21, li_22, li_32, li_33, li_44, li_45, li_48, li_57, li_59, li_60, li_63, li_74, li_75, li_99, li_100, li_109, li_111, li_114, li_126, li_200, li_340, li_580, li_1740, li_65537, li_1000000, ll_0, ll_1, ll_100]) (by
    rintro rec t r -
    unfold F_X7_byTimes_B93
    simp only [am_let]
    simp (disch := omega) only [li_0, li_1, li_2, li_3, li_4, li_5, li_6, li_7, li_8, li_9, li_10, li_12, li_16, li_20, li_21, li_22, li_32, li_33, li_44, li_45, li_48, li_57, li_59, li_60, li_63, li_74, li_75, li_99, li_100, li_109, li_111, li_114, li_126, li_200, li_340, li_580, li_1740, li_65537, li_1000000, ll_0, ll_1, ll_100, sI_le, if_pos]) 0 (Nat.zero_le _) am_fuel (by rw [fuelE]; omega) t5 r6 ⟨fun k hk => by rw [ht5 k hk, if_neg (Nat.not_lt_zero _)]; rfl, fun k hk => by rw [hr6 k hk, decide_eq_false (Nat.not_lt_zero _)]; rfl⟩
  rw [e2]
  obtain ⟨g, hg, e3⟩ := last t8 r9 (fun k hk => ht8 k hk)
  exact ⟨g, t8, r9, fun k hk => laid_at hg (by omega), e3⟩
-- both sides, all schemes
def chW (sch off N : Nat) (w : Nat → Nat) (z k : Nat) : Nat := if sch = 0 then faR w N (k * sumN w N + off * sumN w N / 100) N else if sch = 1 then faR w N (k * sumN w N + nzk z (k + 1) % sumN w N) N else faR (tmN w N) 1 k N
def nzW (sch N z : Nat) : Nat := if sch = 1 then nzk z N else z
theorem chW_lt {sch off N z k : Nat} {w : Nat → Nat} (hoff : off ≤ 99) (hS : 0 < sumN w N) (hk : k < N) : chW sch off N w z k < N := by
  unfold chW
  split
  · exact (faR_s N (pt_lt hk (off_lt hoff hS))).1
  · split
    · exact (faR_s N (pt_lt hk (Nat.mod_lt _ hS))).1
    · exact (faR_s N (by rw [tm_sum hS]; omega)).1
theorem nzW_lt {sch N z : Nat} (hz : z < 65537) : nzW sch N z < 65537 := by
  unfold nzW
  split
  · exact nzk_lt hz N
  · exact hz
theorem fchooseC {f : Nat → Int32} {N off sch z : Nat} {w : Nat → Nat} (n0 : Int32) (anc : Nat → Int32) (rst : Nat → Int64) (hN : N ≤ 12) (hoff : off ≤ 99) (hsch : sch ≤ 2) (hz : z < 65537) (hw : ∀ k, k < N → f k = nI (w k)) (hb : ∀ k, k < N → w k ≤ 1000000) (hS : 0 < sumN w N) : ∃ a' r', (∀ k, k < N → a' k = nI (chW sch off N w z k)) ∧ F_X0_choose n0 anc rst (nI N) f (nI sch) (nI off) (nI z) = some (nI (nzW sch N z), a', r') := by
  unfold F_X0_choose chW nzW
  have h3 : sch = 0 ∨ sch = 1 ∨ sch = 2 := by omega
  rcases h3 with rfl | rfl | rfl
  · obtain ⟨a', h1, h2⟩ := foffsetC anc hN hoff hw hb hS
    exact ⟨a', rst, h1, by simp (disch := omega) only [if_true, if_false, am_in_n, am_nz_n, am_nzl_n, sI_add, sI_mul, sI_cl, sI_le, sI_lt, sI_eq, sI_l, lN_add, lN_mul, lN_i, sg_gt, sg_le, sg_eq, sg_ge, sI_rem, sI_div, sI_rem2, sL_rem, sL_div, sL_rem2, sI_sub, sI_m1, sI_m1n, sI_or, if_pos, if_neg, Option.bind_some, am_call2_e, am_call3_e, am_call4_e, am_call5_e, am_call6_e, am_call7_e, am_call8_e, am_call9_e, am_call10_e, am_call11_e, am_call12_e, am_call13_e, am_call14_e, li_0, li_1, li_2, li_3, li_4, li_5, li_6, li_7, li_8, li_9, li_10, li_12, li_16, li_20, li_21, li_22, li_32, li_33, li_44, li_45, li_48, li_57, li_59, li_60, li_63, li_74, li_75, li_99, li_100, li_109, li_111, li_114, li_126, li_200, li_340, li_580, li_1740, li_65537, li_1000000, ll_0, ll_1, ll_100, h2]⟩
  · obtain ⟨a', h1, h2⟩ := fnoisesC anc hN hz hw hb hS
    exact ⟨a', rst, h1, by simp (disch := omega) only [if_true, if_false, am_in_n, am_nz_n, am_nzl_n, sI_add, sI_mul, sI_cl, sI_le, sI_lt, sI_eq, sI_l, lN_add, lN_mul, lN_i, sg_gt, sg_le, sg_eq, sg_ge, sI_rem, sI_div, sI_rem2, sL_rem, sL_div, sL_rem2, sI_sub, sI_m1, sI_m1n, sI_or, if_pos, if_neg, Option.bind_some, am_call2_e, am_call3_e, am_call4_e, am_call5_e, am_call6_e, am_call7_e, am_call8_e, am_call9_e, am_call10_e, am_call11_e, am_call12_e, am_call13_e, am_call14_e, li_0, li_1, li_2, li_3, li_4, li_5, li_6, li_7, li_8, li_9, li_10, li_12, li_16, li_20, li_21, li_22, li_32, li_33, li_44, li_45, li_48, li_57, li_59, li_60, li_63, li_74, li_75, li_99, li_100, li_109, li_111, li_114, li_126, li_200, li_340, li_580, li_1740, li_65537, li_1000000, ll_0, ll_1, ll_100, h2]⟩
  · obtain ⟨a', r', h1, h2⟩ := fsharesC anc rst hN hw hb hS
    exact ⟨a', r', h1, by simp (disch := omega) only [if_true, if_false, am_in_n, am_nz_n, am_nzl_n, sI_add, sI_mul, sI_cl, sI_le, sI_lt, sI_eq, sI_l, lN_add, lN_mul, lN_i, sg_gt, sg_le, sg_eq, sg_ge, sI_rem, sI_div, sI_rem2, sL_rem, sL_div, sL_rem2, sI_sub, sI_m1, sI_m1n, sI_or, if_pos, if_neg, Option.bind_some, am_call2_e, am_call3_e, am_call4_e, am_call5_e, am_call6_e, am_call7_e, am_call8_e, am_call9_e, am_call10_e, am_call11_e, am_call12_e, am_call13_e, am_call14_e, li_0, li_1, li_2, li_3, li_4, li_5, li_6, li_7, li_8, li_9, li_10, li_12, li_16, li_20, li_21, li_22, li_32, li_33, li_44, li_45, li_48, li_57, li_59, li_60, li_63, li_74, li_75, li_99, li_100, li_109, li_111, li_114, li_126, li_200, li_340, li_580, li_1740, li_65537, li_1000000, ll_0, ll_1, ll_100, h2]⟩
theorem fchooseM {s : Nat → Int32} {N off sch z : Nat} {w : Nat → Nat} (ch ti : Nat → Int32) (re : Nat → Int64) (h0 : s 0 = nI N) (h2s : s 2 = nI z) (h7 : s 7 = nI off) (hN0 : 0 < N) (hN : N ≤ 12) (hoff : off ≤ 99) (hsch : sch ≤ 2) (hz : z < 65537) (hw : ∀ k, k < N → s (8 + k) = nI (w k)) (hb : ∀ k, k < N → w k ≤ 1000000) (hS : 0 < sumN w N) : ∃ s' a' t' r', (s' 2 = nI (nzW sch N z) ∧ ∀ i, i ≠ 2 → s' i = s i) ∧ (∀ k, k < N → a' k = nI (chW sch off N w z k)) ∧ F_X7_chooses s ch ti re (nI sch) = some (s', a', t', r') := by
  unfold F_X7_chooses chW nzW
  have h3 : sch = 0 ∨ sch = 1 ∨ sch = 2 := by omega
  rcases h3 with rfl | rfl | rfl
  · obtain ⟨a', h1, h2⟩ := foffsetM ch h0 h7 hN0 hN hoff hw hb hS
    exact ⟨s, a', ti, re, ⟨h2s, fun _ _ => rfl⟩, h1, by simp (disch := omega) only [if_true, if_false, am_in_n, am_nz_n, am_nzl_n, sI_add, sI_mul, sI_cl, sI_le, sI_lt, sI_eq, sI_l, lN_add, lN_mul, lN_i, sg_gt, sg_le, sg_eq, sg_ge, sI_rem, sI_div, sI_rem2, sL_rem, sL_div, sL_rem2, sI_sub, sI_m1, sI_m1n, sI_or, if_pos, if_neg, Option.bind_some, am_call2_e, am_call3_e, am_call4_e, am_call5_e, am_call6_e, am_call7_e, am_call8_e, am_call9_e, am_call10_e, am_call11_e, am_call12_e, am_call13_e, am_call14_e, li_0, li_1, li_2, li_3, li_4, li_5, li_6, li_7, li_8, li_9, li_10, li_12, li_16, li_20, li_21, li_22, li_32, li_33, li_44, li_45, li_48, li_57, li_59, li_60, li_63, li_74, li_75, li_99, li_100, li_109, li_111, li_114, li_126, li_200, li_340, li_580, li_1740, li_65537, li_1000000, ll_0, ll_1, ll_100, h2]⟩
  · obtain ⟨s', a', h4, h1, h2⟩ := fnoisesM ch h0 h2s hN0 hN hz hw hb hS
    exact ⟨s', a', ti, re, h4, h1, by simp (disch := omega) only [if_true, if_false, am_in_n, am_nz_n, am_nzl_n, sI_add, sI_mul, sI_cl, sI_le, sI_lt, sI_eq, sI_l, lN_add, lN_mul, lN_i, sg_gt, sg_le, sg_eq, sg_ge, sI_rem, sI_div, sI_rem2, sL_rem, sL_div, sL_rem2, sI_sub, sI_m1, sI_m1n, sI_or, if_pos, if_neg, Option.bind_some, am_call2_e, am_call3_e, am_call4_e, am_call5_e, am_call6_e, am_call7_e, am_call8_e, am_call9_e, am_call10_e, am_call11_e, am_call12_e, am_call13_e, am_call14_e, li_0, li_1, li_2, li_3, li_4, li_5, li_6, li_7, li_8, li_9, li_10, li_12, li_16, li_20, li_21, li_22, li_32, li_33, li_44, li_45, li_48, li_57, li_59, li_60, li_63, li_74, li_75, li_99, li_100, li_109, li_111, li_114, li_126, li_200, li_340, li_580, li_1740, li_65537, li_1000000, ll_0, ll_1, ll_100, h2]⟩
  · obtain ⟨a', t', r', h1, h2⟩ := fsharesM ch ti re h0 hN0 hN hw hb hS
    exact ⟨s, a', t', r', ⟨h2s, fun _ _ => rfl⟩, h1, by simp (disch := omega) only [if_true, if_false, am_in_n, am_nz_n, am_nzl_n, sI_add, sI_mul, sI_cl, sI_le, sI_lt, sI_eq, sI_l, lN_add, lN_mul, lN_i, sg_gt, sg_le, sg_eq, sg_ge, sI_rem, sI_div, sI_rem2, sL_rem, sL_div, sL_rem2, sI_sub, sI_m1, sI_m1n, sI_or, if_pos, if_neg, Option.bind_some, am_call2_e, am_call3_e, am_call4_e, am_call5_e, am_call6_e, am_call7_e, am_call8_e, am_call9_e, am_call10_e, am_call11_e, am_call12_e, am_call13_e, am_call14_e, li_0, li_1, li_2, li_3, li_4, li_5, li_6, li_7, li_8, li_9, li_10, li_12, li_16, li_20, li_21, li_22, li_32, li_33, li_44, li_45, li_48, li_57, li_59, li_60, li_63, li_74, li_75, li_99, li_100, li_109, li_111, li_114, li_126, li_200, li_340, li_580, li_1740, li_65537, li_1000000, ll_0, ll_1, ll_100, h2]⟩
