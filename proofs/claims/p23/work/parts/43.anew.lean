-- a new beginning, a weight
theorem fnear {x : Nat} (hx : x < 2147483648) : F_X6_nearestPlace (nI x) = some (nI (if x ≤ 99 then x else 99)) := by
  unfold F_X6_nearestPlace
  simp only [am_let]
  by_cases h : x ≤ 99
  · rw [if_pos h]
    by_cases h2 : x < 99
    · by_cases h3 : 0 < x
      · simp (disch := omega) only [if_true, if_false, am_in_n, am_nz_n, am_nzl_n, sI_add, sI_mul, sI_cl, sI_le, sI_lt, sI_eq, sI_l, lN_add, lN_mul, lN_i, sg_gt, sg_le, sg_eq, sg_ge, sI_rem, sI_div, sI_rem2, sL_rem, sL_div, sL_rem2, sI_sub, sI_m1, sI_m1n, sI_or, if_pos, if_neg, Option.bind_some, am_call2_e, am_call3_e, am_call4_e, am_call5_e, am_call6_e, am_call7_e, am_call8_e, am_call9_e, am_call10_e, am_call11_e, am_call12_e, am_call13_e, am_call14_e, li_0, li_1, li_2, li_3, li_4, li_5, li_6, li_7, li_8, li_9, li_10, li_11, li_12, li_13, li_14, li_15, li_16, li_19, li_20, li_21, li_22, li_23, li_32, li_36, li_48, li_50, li_60, li_63, li_74, li_75, li_98, li_99, li_100, li_199, li_200, li_256, li_7919, li_65537, li_1000000, li_1000001, li_10000000, ll_0, ll_1, ll_100, ll_65535]
      · have : x = 0 := by omega
        subst this
        rfl
    · have : x = 99 := by omega
      subst this
      rfl
  · rw [if_neg h]
    simp (disch := omega) only [if_true, if_false, am_in_n, am_nz_n, am_nzl_n, sI_add, sI_mul, sI_cl, sI_le, sI_lt, sI_eq, sI_l, lN_add, lN_mul, lN_i, sg_gt, sg_le, sg_eq, sg_ge, sI_rem, sI_div, sI_rem2, sL_rem, sL_div, sL_rem2, sI_sub, sI_m1, sI_m1n, sI_or, if_pos, if_neg, Option.bind_some, am_call2_e, am_call3_e, am_call4_e, am_call5_e, am_call6_e, am_call7_e, am_call8_e, am_call9_e, am_call10_e, am_call11_e, am_call12_e, am_call13_e, am_call14_e, li_0, li_1, li_2, li_3, li_4, li_5, li_6, li_7, li_8, li_9, li_10, li_11, li_12, li_13, li_14, li_15, li_16, li_19, li_20, li_21, li_22, li_23, li_32, li_36, li_48, li_50, li_60, li_63, li_74, li_75, li_98, li_99, li_100, li_199, li_200, li_256, li_7919, li_65537, li_1000000, li_1000001, li_10000000, ll_0, ll_1, ll_100, ll_65535]
theorem fstart (many gens : Int32) (plf ogf : Nat → Int32) {n a b : Nat} (hn : n ≤ 12) (ha : a ≤ 99) (hb : b ≤ 99) : ∃ f2 f1, (∀ k, k < n → f2 k = nI (if a + k * b ≤ 99 then a + k * b else 99)) ∧ f1 0 = nI 0 ∧ F_X1_startWith many gens plf ogf (nI n) (nI a) (nI b) = some (nI n, nI 1, f2, f1) := by
  unfold F_X1_startWith
  simp only [am_let]
  simp (disch := omega) only [li_0, li_1, li_2, li_3, li_4, li_5, li_6, li_7, li_8, li_9, li_10, li_11, li_12, li_13, li_14, li_15, li_16, li_19, li_20, li_21, li_22, li_23, li_32, li_36, li_48, li_50, li_60, li_63, li_74, li_75, li_98, li_99, li_100, li_199, li_200, li_256, li_7919, li_65537, li_1000000, li_1000001, li_10000000, ll_0, ll_1, ll_100, ll_65535, fput (n := 20) (i := 0) (f := ogf) (v := nI 0) (by omega) (by omega), Option.bind_some]
  obtain ⟨f2, h1, e⟩ := for2F (b := F_X1_startWith_B22 (nI n) (fun f2 => some (nI n, nI 1, f2, upd ogf 0 (nI 0))) (nI a) (nI b)) nI n (fun j f => ∀ k, k < j → f k = nI (if a + k * b ≤ 99 then a + k * b else 99)) (fun f2 => some (nI n, nI 1, f2, upd ogf 0 (nI 0))) (by
    intro rec f j hj h
    have hjb : j * b ≤ 12 * 99 := Nat.mul_le_mul (by omega) hb
    refine ⟨upd f j (nI (if a + j * b ≤ 99 then a + j * b else 99)), fun k hk => ?_, ?_⟩
    · by_cases hkj : k = j
      · subst hkj; exact upd_s _ _ _
      · rw [upd_n hkj]; exact h k (by omega)
    · unfold F_X1_startWith_B22
      simp only [am_let]
      simp (disch := omega) only [li_0, li_1, li_2, li_3, li_4, li_5, li_6, li_7, li_8, li_9, li_10, li_11, li_12, li_13, li_14, li_15, li_16, li_19, li_20, li_21, li_22, li_23, li_32, li_36, li_48, li_50, li_60, li_63, li_74, li_75, li_98, li_99, li_100, li_199, li_200, li_256, li_7919, li_65537, li_1000000, li_1000001, li_10000000, ll_0, ll_1, ll_100, ll_65535, sI_le, if_neg, sI_mul, sI_add, fnear (x := a + j * b) (by omega), Option.bind_some, fput (n := 240) (i := j) (f := f) (by omega) (by omega)]) (by
    rintro rec f -
    unfold F_X1_startWith_B22
    simp only [am_let]
    simp (disch := omega) only [if_true, if_false, am_in_n, am_nz_n, am_nzl_n, sI_add, sI_mul, sI_cl, sI_le, sI_lt, sI_eq, sI_l, lN_add, lN_mul, lN_i, sg_gt, sg_le, sg_eq, sg_ge, sI_rem, sI_div, sI_rem2, sL_rem, sL_div, sL_rem2, sI_sub, sI_m1, sI_m1n, sI_or, if_pos, if_neg, Option.bind_some, am_call2_e, am_call3_e, am_call4_e, am_call5_e, am_call6_e, am_call7_e, am_call8_e, am_call9_e, am_call10_e, am_call11_e, am_call12_e, am_call13_e, am_call14_e, li_0, li_1, li_2, li_3, li_4, li_5, li_6, li_7, li_8, li_9, li_10, li_11, li_12, li_13, li_14, li_15, li_16, li_19, li_20, li_21, li_22, li_23, li_32, li_36, li_48, li_50, li_60, li_63, li_74, li_75, li_98, li_99, li_100, li_199, li_200, li_256, li_7919, li_65537, li_1000000, li_1000001, li_10000000, ll_0, ll_1, ll_100, ll_65535]) 0 (Nat.zero_le _) am_fuel (by rw [fuelE]; omega) plf (fun k hk => absurd hk (Nat.not_lt_zero k))
  exact ⟨f2, upd ogf 0 (nI 0), h1, upd_s _ _ _, e⟩
theorem sum_one : ∀ n, sumN (fun _ => 1) n = n
  | 0 => rfl
  | n + 1 => by show sumN (fun _ => 1) n + 1 = n + 1; rw [sum_one n]
section Anew
variable {N G z th sc of : Nat} {w : Nat → Nat} {pl pa : Nat → Nat → Nat} {s : Nat → Int32} {noi obs res lmany lgens : Int32} {lplf lpaf logf ldrf lspf lscf : Nat → Int32} {wmany : Int32} {wf sf : Nat → Int32}
theorem new_ok {s' : Nat → Int32} {n a b : Nat} {f2 lpaf f1 ldrf lspf lscf f13 sf : Nat → Int32} (hn0 : 0 < n) (hn : n ≤ 12) (h0 : s' 0 = nI n) (h1 : s' 1 = nI 1) (h2 : s' 2 = nI 1) (h3 : s' 3 = nI 0) (h4 : s' 4 = nI 0) (h20 : s' 20 = nI 0) (hk : ∀ k, k < 12 → s' (8 + k) = (if k < n then nI 1 else nI 0) ∧ s' (100 + k) = -1000004 ∧ s' (340 + k) = nI (if a + k * b ≤ 99 then a + k * b else 99)) (hth : th ≤ 12) (hsc : sc ≤ 2) (hof : of ≤ 99) (q5 : s' 5 = nI th) (q6 : s' 6 = nI sc) (q7 : s' 7 = nI of) (e5 : sf 0 = s' 5) (e6 : sf 1 = s' 6) (e7 : sf 2 = s' 7) (hf2 : ∀ k, k < n → f2 k = nI (if a + k * b ≤ 99 then a + k * b else 99)) (hf1 : f1 0 = nI 0) (hf13 : ∀ k, k < n → f13 k = nI 1) : ∃ w' pl' pa', Good n 1 1 th sc of w' pl' pa' s' ∧ Rel n 1 (nI 1) (nI 0) (nI 0) (nI n) (nI 1) f2 lpaf f1 ldrf lspf lscf (nI n) f13 sf s' := by
  refine ⟨fun _ => 1, fun _ k => if a + k * b ≤ 99 then a + k * b else 99, fun _ _ => 0, ⟨⟨hn0, hn, by omega, by omega, by omega, hth, hsc, hof⟩, ⟨h0, h1, h2, q5, q6, q7⟩, ⟨fun k hk2 => ?_, fun _ _ => (by show 1 ≤ 1000000; omega), by rw [sum_one]; exact hn0⟩, ⟨fun g k hg hk2 => ?_, fun g k hg hk2 => ?_⟩, fun g k h5 h6 _ => absurd h6 (by omega), fun g k h5 h6 _ => absurd h6 (by omega), fun k hk2 => (hk k (by omega)).2.1⟩, ⟨⟨rfl, rfl, rfl, h2.symm, h3.symm, h4.symm, e5, e6, e7⟩, fun k hk2 => ?_, fun g hg => ?_, fun g k hg hk2 => ?_, fun g k h5 h6 _ => absurd h6 (by omega)⟩⟩
  · rw [(hk k (by omega)).1, if_pos hk2]
  · have : g = 0 := by omega
    subst this
    rw [show 340 + 12 * 0 + k = 340 + k by omega]
    exact (hk k (by omega)).2.2
  · show (if a + k * b ≤ 99 then a + k * b else 99) ≤ 99
    split <;> omega
  · rw [(hk k (by omega)).1, if_pos hk2, hf13 k hk2]
  · have : g = 0 := by omega
    subst this
    have h : s' (20 + 4 * 0) = nI 0 := h20
    rw [h]
    refine ⟨hf1, fun h => absurd h (by decide), fun h => absurd h (by decide)⟩
  · have : g = 0 := by omega
    subst this
    rw [show 340 + 12 * 0 + k = 340 + k by omega, show 0 * 12 + k = k by omega, hf2 k hk2]
    exact (hk k (by omega)).2.2.symm
end Anew

