-- ancestors, like and unlike places, common ancestors
theorem flateC {G : Nat} (hG : 1 ≤ G) : F_X1_latest (nI G) = some (nI (G - 1)) := by
  unfold F_X1_latest
  simp (disch := omega) only [if_true, if_false, am_let, am_in_n, am_nz_n, am_nzl_n, sI_add, sI_mul, sI_cl, sI_le, sI_lt, sI_eq, sI_l, lN_add, lN_mul, lN_i, sg_gt, sg_le, sg_eq, sg_ge, sI_rem, sI_div, sI_rem2, sL_rem, sL_div, sL_rem2, sI_sub, sI_m1, sI_m1n, sI_or, if_pos, if_neg, Option.bind_some, am_call2_e, am_call3_e, am_call4_e, am_call5_e, am_call6_e, am_call7_e, am_call8_e, am_call9_e, am_call10_e, am_call11_e, am_call12_e, am_call13_e, am_call14_e, li_0, li_1, li_2, li_3, li_4, li_5, li_6, li_7, li_8, li_9, li_10, li_11, li_12, li_13, li_14, li_15, li_16, li_19, li_20, li_21, li_22, li_23, li_32, li_36, li_48, li_50, li_60, li_63, li_74, li_75, li_98, li_99, li_100, li_199, li_200, li_256, li_7919, li_65537, li_1000000, li_1000001, li_10000000, ll_0, ll_1, ll_100, ll_65535]
theorem fplaceC {f : Nat → Int32} {g k : Nat} (hg : g < 20) (hk : k < 12) : F_X1_placeIn f (nI g) (nI k) = some (f (g * 12 + k)) := by
  unfold F_X1_placeIn
  simp (disch := omega) only [if_true, if_false, am_let, am_in_n, am_nz_n, am_nzl_n, sI_add, sI_mul, sI_cl, sI_le, sI_lt, sI_eq, sI_l, lN_add, lN_mul, lN_i, sg_gt, sg_le, sg_eq, sg_ge, sI_rem, sI_div, sI_rem2, sL_rem, sL_div, sL_rem2, sI_sub, sI_m1, sI_m1n, sI_or, if_pos, if_neg, Option.bind_some, am_call2_e, am_call3_e, am_call4_e, am_call5_e, am_call6_e, am_call7_e, am_call8_e, am_call9_e, am_call10_e, am_call11_e, am_call12_e, am_call13_e, am_call14_e, li_0, li_1, li_2, li_3, li_4, li_5, li_6, li_7, li_8, li_9, li_10, li_11, li_12, li_13, li_14, li_15, li_16, li_19, li_20, li_21, li_22, li_23, li_32, li_36, li_48, li_50, li_60, li_63, li_74, li_75, li_98, li_99, li_100, li_199, li_200, li_256, li_7919, li_65537, li_1000000, li_1000001, li_10000000, ll_0, ll_1, ll_100, ll_65535, fat (n := 240) (i := g * 12 + k) (f := f) (by omega) (by omega)]
theorem fparC {f : Nat → Int32} {g k : Nat} (hg : g < 20) (hk : k < 12) : F_X1_parentIn f (nI g) (nI k) = some (f (g * 12 + k)) := by
  unfold F_X1_parentIn
  simp (disch := omega) only [if_true, if_false, am_let, am_in_n, am_nz_n, am_nzl_n, sI_add, sI_mul, sI_cl, sI_le, sI_lt, sI_eq, sI_l, lN_add, lN_mul, lN_i, sg_gt, sg_le, sg_eq, sg_ge, sI_rem, sI_div, sI_rem2, sL_rem, sL_div, sL_rem2, sI_sub, sI_m1, sI_m1n, sI_or, if_pos, if_neg, Option.bind_some, am_call2_e, am_call3_e, am_call4_e, am_call5_e, am_call6_e, am_call7_e, am_call8_e, am_call9_e, am_call10_e, am_call11_e, am_call12_e, am_call13_e, am_call14_e, li_0, li_1, li_2, li_3, li_4, li_5, li_6, li_7, li_8, li_9, li_10, li_11, li_12, li_13, li_14, li_15, li_16, li_19, li_20, li_21, li_22, li_23, li_32, li_36, li_48, li_50, li_60, li_63, li_74, li_75, li_98, li_99, li_100, li_199, li_200, li_256, li_7919, li_65537, li_1000000, li_1000001, li_10000000, ll_0, ll_1, ll_100, ll_65535, fat (n := 240) (i := g * 12 + k) (f := f) (by omega) (by omega)]
def ancN (pa : Nat → Nat → Nat) (L k : Nat) : Nat → Nat
  | 0 => k
  | d + 1 => pa (L - d) (ancN pa L k d)
theorem ancN_lt {pa : Nat → Nat → Nat} {L N k : Nat} (hk : k < N) (h : ∀ g k, 0 < g → g ≤ L → k < N → pa g k < N) : ∀ d, d ≤ L → ancN pa L k d < N
  | 0, _ => hk
  | d + 1, hd => h _ _ (by omega) (by omega) (ancN_lt hk h d (by omega))
theorem fancC {f : Nat → Int32} {pa : Nat → Nat → Nat} {N G g k : Nat} (hN : N ≤ 12) (hG0 : 1 ≤ G) (hG : G ≤ 20) (hg : g < G) (hk : k < N) (hp : ∀ g k, 0 < g → g < G → k < N → f (g * 12 + k) = nI (pa g k)) (hb : ∀ g k, 0 < g → g < G → k < N → pa g k < N) : F_X1_ancestorIn (nI G) f (nI g) (nI k) = some (nI (ancN pa (G - 1) k (G - 1 - g))) := by
  unfold F_X1_ancestorIn
  rw [flateC hG0]
  simp only [am_let, Option.bind_some]
  obtain ⟨a, ha, e⟩ := for2L (b := F_X1_ancestorIn_B8 (nI g) (fun x2 => some x2) f) (fun d => nI (G - 1 - d)) (G - 1 - g) (fun d a => a = nI (ancN pa (G - 1) k d)) (fun x2 => some x2) (by
    rintro rec a d hd rfl
    refine ⟨_, rfl, ?_⟩
    have h1 := ancN_lt (pa := pa) (L := G - 1) hk (fun g k h1 h2 h3 => hb g k h1 (by omega) h3) d (by omega)
    have e1 : ∀ a, a < N → F_X2_at 240 f (nI ((G - 1 - d) * 12 + a)) = some (nI (pa (G - 1 - d) a)) := by
      intro a ha
      rw [fat (by omega) (by omega), hp _ _ (by omega) (by omega) ha]
    have e2 : G - 1 - d - 1 = G - 1 - (d + 1) := by omega
    have e3 : ancN pa (G - 1) k (d + 1) = pa (G - 1 - d) (ancN pa (G - 1) k d) := rfl
    unfold F_X1_ancestorIn_B8
    simp (disch := omega) only [if_true, if_false, am_let, am_in_n, am_nz_n, am_nzl_n, sI_add, sI_mul, sI_cl, sI_le, sI_lt, sI_eq, sI_l, lN_add, lN_mul, lN_i, sg_gt, sg_le, sg_eq, sg_ge, sI_rem, sI_div, sI_rem2, sL_rem, sL_div, sL_rem2, sI_sub, sI_m1, sI_m1n, sI_or, if_pos, if_neg, Option.bind_some, am_call2_e, am_call3_e, am_call4_e, am_call5_e, am_call6_e, am_call7_e, am_call8_e, am_call9_e, am_call10_e, am_call11_e, am_call12_e, am_call13_e, am_call14_e, li_0, li_1, li_2, li_3, li_4, li_5, li_6, li_7, li_8, li_9, li_10, li_11, li_12, li_13, li_14, li_15, li_16, li_19, li_20, li_21, li_22, li_23, li_32, li_36, li_48, li_50, li_60, li_63, li_74, li_75, li_98, li_99, li_100, li_199, li_200, li_256, li_7919, li_65537, li_1000000, li_1000001, li_10000000, ll_0, ll_1, ll_100, ll_65535, e1 _ h1, e2, e3]) (by
    rintro rec a rfl
    unfold F_X1_ancestorIn_B8
    have e1 : G - 1 - (G - 1 - g) = g := by omega
    simp (disch := omega) only [if_true, if_false, am_let, am_in_n, am_nz_n, am_nzl_n, sI_add, sI_mul, sI_cl, sI_le, sI_lt, sI_eq, sI_l, lN_add, lN_mul, lN_i, sg_gt, sg_le, sg_eq, sg_ge, sI_rem, sI_div, sI_rem2, sL_rem, sL_div, sL_rem2, sI_sub, sI_m1, sI_m1n, sI_or, if_pos, if_neg, Option.bind_some, am_call2_e, am_call3_e, am_call4_e, am_call5_e, am_call6_e, am_call7_e, am_call8_e, am_call9_e, am_call10_e, am_call11_e, am_call12_e, am_call13_e, am_call14_e, li_0, li_1, li_2, li_3, li_4, li_5, li_6, li_7, li_8, li_9, li_10, li_11, li_12, li_13, li_14, li_15, li_16, li_19, li_20, li_21, li_22, li_23, li_32, li_36, li_48, li_50, li_60, li_63, li_74, li_75, li_98, li_99, li_100, li_199, li_200, li_256, li_7919, li_65537, li_1000000, li_1000001, li_10000000, ll_0, ll_1, ll_100, ll_65535, e1]) 0 (Nat.zero_le _) am_fuel (by rw [fuelE]; omega) (nI k) rfl
  rw [Nat.sub_zero] at e
  rw [e, ha]
theorem flikeC {f : Nat → Int32} {N g : Nat} (x : Int32) (hN : N ≤ 12) (hg : g < 20) : F_X1_howManyAt (nI N) f (nI g) x = some (nI (cntN (fun k => decide (f (g * 12 + k) = x)) N)) := by
  unfold F_X1_howManyAt
  simp only [am_let, li_0, li_1, li_2, li_3, li_4, li_5, li_6, li_7, li_8, li_9, li_10, li_11, li_12, li_13, li_14, li_15, li_16, li_19, li_20, li_21, li_22, li_23, li_32, li_36, li_48, li_50, li_60, li_63, li_74, li_75, li_98, li_99, li_100, li_199, li_200, li_256, li_7919, li_65537, li_1000000, li_1000001, li_10000000, ll_0, ll_1, ll_100, ll_65535]
  obtain ⟨a, ha, e⟩ := for2L (b := F_X1_howManyAt_B5 (nI N) (fun x1 => some x1) f (nI g) x) nI N (fun j a => a = nI (cntN (fun k => decide (f (g * 12 + k) = x)) j)) (fun a => some a) (by
    rintro rec a j hj rfl
    refine ⟨_, rfl, ?_⟩
    unfold F_X1_howManyAt_B5
    show _ = rec (nI (cntN (fun k => decide (f (g * 12 + k) = x)) j + (if decide (f (g * 12 + j) = x) = true then 1 else 0))) _
    by_cases h : f (g * 12 + j) = x
    · simp (disch := omega) only [if_true, if_false, am_let, am_in_n, am_nz_n, am_nzl_n, sI_add, sI_mul, sI_cl, sI_le, sI_lt, sI_eq, sI_l, lN_add, lN_mul, lN_i, sg_gt, sg_le, sg_eq, sg_ge, sI_rem, sI_div, sI_rem2, sL_rem, sL_div, sL_rem2, sI_sub, sI_m1, sI_m1n, sI_or, if_pos, if_neg, Option.bind_some, am_call2_e, am_call3_e, am_call4_e, am_call5_e, am_call6_e, am_call7_e, am_call8_e, am_call9_e, am_call10_e, am_call11_e, am_call12_e, am_call13_e, am_call14_e, li_0, li_1, li_2, li_3, li_4, li_5, li_6, li_7, li_8, li_9, li_10, li_11, li_12, li_13, li_14, li_15, li_16, li_19, li_20, li_21, li_22, li_23, li_32, li_36, li_48, li_50, li_60, li_63, li_74, li_75, li_98, li_99, li_100, li_199, li_200, li_256, li_7919, li_65537, li_1000000, li_1000001, li_10000000, ll_0, ll_1, ll_100, ll_65535, fplaceC hg (show j < 12 by omega), h, decide_true, decide_false]
    · simp (disch := omega) only [if_true, if_false, am_let, am_in_n, am_nz_n, am_nzl_n, sI_add, sI_mul, sI_cl, sI_le, sI_lt, sI_eq, sI_l, lN_add, lN_mul, lN_i, sg_gt, sg_le, sg_eq, sg_ge, sI_rem, sI_div, sI_rem2, sL_rem, sL_div, sL_rem2, sI_sub, sI_m1, sI_m1n, sI_or, if_pos, if_neg, Option.bind_some, am_call2_e, am_call3_e, am_call4_e, am_call5_e, am_call6_e, am_call7_e, am_call8_e, am_call9_e, am_call10_e, am_call11_e, am_call12_e, am_call13_e, am_call14_e, li_0, li_1, li_2, li_3, li_4, li_5, li_6, li_7, li_8, li_9, li_10, li_11, li_12, li_13, li_14, li_15, li_16, li_19, li_20, li_21, li_22, li_23, li_32, li_36, li_48, li_50, li_60, li_63, li_74, li_75, li_98, li_99, li_100, li_199, li_200, li_256, li_7919, li_65537, li_1000000, li_1000001, li_10000000, ll_0, ll_1, ll_100, ll_65535, fplaceC hg (show j < 12 by omega), h, decide_true, decide_false, Bool.false_eq_true, Nat.add_zero]) (by
    rintro rec a rfl
    unfold F_X1_howManyAt_B5
    simp (disch := omega) only [if_true, if_false, am_let, am_in_n, am_nz_n, am_nzl_n, sI_add, sI_mul, sI_cl, sI_le, sI_lt, sI_eq, sI_l, lN_add, lN_mul, lN_i, sg_gt, sg_le, sg_eq, sg_ge, sI_rem, sI_div, sI_rem2, sL_rem, sL_div, sL_rem2, sI_sub, sI_m1, sI_m1n, sI_or, if_pos, if_neg, Option.bind_some, am_call2_e, am_call3_e, am_call4_e, am_call5_e, am_call6_e, am_call7_e, am_call8_e, am_call9_e, am_call10_e, am_call11_e, am_call12_e, am_call13_e, am_call14_e, li_0, li_1, li_2, li_3, li_4, li_5, li_6, li_7, li_8, li_9, li_10, li_11, li_12, li_13, li_14, li_15, li_16, li_19, li_20, li_21, li_22, li_23, li_32, li_36, li_48, li_50, li_60, li_63, li_74, li_75, li_98, li_99, li_100, li_199, li_200, li_256, li_7919, li_65537, li_1000000, li_1000001, li_10000000, ll_0, ll_1, ll_100, ll_65535]) 0 (Nat.zero_le _) am_fuel (by rw [fuelE]; omega) (nI 0) rfl
  rw [e, ha]
-- whether a value is new
def nonN (v : Nat → Int32) (x : Int32) : Nat → Bool
  | 0 => true
  | j + 1 => nonN v x j && decide (¬ v j = x)
theorem nonN_t {v : Nat → Int32} {x : Int32} : ∀ {n}, nonN v x n = true → ∀ j, j < n → ¬ v j = x
  | 0, _, j, h => absurd h (Nat.not_lt_zero j)
  | n + 1, h, j, hj => by
    have h' : (nonN v x n && decide (¬ v n = x)) = true := h
    rw [Bool.and_eq_true, decide_eq_true_eq] at h'
    by_cases hjn : j = n
    · subst hjn; exact h'.2
    · exact nonN_t h'.1 j (by omega)
theorem nonN_f {v : Nat → Int32} {x : Int32} : ∀ {n}, nonN v x n = false → ∃ e, e < n ∧ v e = x ∧ ∀ j, j < e → ¬ v j = x
  | 0, h => by cases h
  | n + 1, h => by
    by_cases h1 : nonN v x n = true
    · have h' : (nonN v x n && decide (¬ v n = x)) = false := h
      rw [h1, Bool.true_and, decide_eq_false_iff_not, Decidable.not_not] at h'
      exact ⟨n, by omega, h', nonN_t h1⟩
    · obtain ⟨e, h2, h3, h4⟩ := nonN_f (n := n) (by simpa using h1)
      exact ⟨e, by omega, h3, h4⟩
theorem nonN_congr {v u : Nat → Int32} {x : Int32} : ∀ n, (∀ k, k < n → v k = u k) → nonN v x n = nonN u x n
  | 0, _ => rfl
  | n + 1, h => by
    show (nonN v x n && decide (¬ v n = x)) = (nonN u x n && decide (¬ u n = x))
    rw [nonN_congr n (fun k hk => h k (by omega)), h n (by omega)]
def newN (v : Nat → Int32) : Nat → Nat := cntN (fun k => nonN v (v k) k)
theorem newN_congr {v u : Nat → Int32} : ∀ n, (∀ k, k < n → v k = u k) → newN v n = newN u n
  | 0, _ => rfl
  | n + 1, h => by
    show newN v n + (if nonN v (v n) n then 1 else 0) = newN u n + (if nonN u (u n) n then 1 else 0)
    rw [newN_congr n (fun k hk => h k (by omega)), h n (by omega), nonN_congr n (fun k hk => h k (by omega))]
theorem fisFirst {f : Nat → Int32} {g i : Nat} (hg : g < 20) (hi : i < 12) : F_X1_isFirstAtItsPlace f (nI g) (nI i) = some (if nonN (fun k => f (g * 12 + k)) (f (g * 12 + i)) i then nI 1 else nI 0) := by
  unfold F_X1_isFirstAtItsPlace
  rw [fplaceC hg hi]
  simp only [am_let, li_0, li_1, li_2, li_3, li_4, li_5, li_6, li_7, li_8, li_9, li_10, li_11, li_12, li_13, li_14, li_15, li_16, li_19, li_20, li_21, li_22, li_23, li_32, li_36, li_48, li_50, li_60, li_63, li_74, li_75, li_98, li_99, li_100, li_199, li_200, li_256, li_7919, li_65537, li_1000000, li_1000001, li_10000000, ll_0, ll_1, ll_100, ll_65535, Option.bind_some]
  cases h : nonN (fun k => f (g * 12 + k)) (f (g * 12 + i)) i with
  | true =>
    have h1 := nonN_t h
    refine for1 (b := F_X1_isFirstAtItsPlace_B10 (nI i) (some (nI 1)) f (nI g) (f (g * 12 + i))) nI i _ (fun rec j hj => ?_) (fun rec => ?_) 0 (Nat.zero_le _) am_fuel (by rw [fuelE]; omega)
    · have h2 := h1 j hj
      unfold F_X1_isFirstAtItsPlace_B10
      simp (disch := omega) only [if_true, if_false, am_let, am_in_n, am_nz_n, am_nzl_n, sI_add, sI_mul, sI_cl, sI_le, sI_lt, sI_eq, sI_l, lN_add, lN_mul, lN_i, sg_gt, sg_le, sg_eq, sg_ge, sI_rem, sI_div, sI_rem2, sL_rem, sL_div, sL_rem2, sI_sub, sI_m1, sI_m1n, sI_or, if_pos, if_neg, Option.bind_some, am_call2_e, am_call3_e, am_call4_e, am_call5_e, am_call6_e, am_call7_e, am_call8_e, am_call9_e, am_call10_e, am_call11_e, am_call12_e, am_call13_e, am_call14_e, li_0, li_1, li_2, li_3, li_4, li_5, li_6, li_7, li_8, li_9, li_10, li_11, li_12, li_13, li_14, li_15, li_16, li_19, li_20, li_21, li_22, li_23, li_32, li_36, li_48, li_50, li_60, li_63, li_74, li_75, li_98, li_99, li_100, li_199, li_200, li_256, li_7919, li_65537, li_1000000, li_1000001, li_10000000, ll_0, ll_1, ll_100, ll_65535, fplaceC (f := f) hg (show j < 12 by omega), h2]
    · unfold F_X1_isFirstAtItsPlace_B10
      simp (disch := omega) only [if_true, if_false, am_let, am_in_n, am_nz_n, am_nzl_n, sI_add, sI_mul, sI_cl, sI_le, sI_lt, sI_eq, sI_l, lN_add, lN_mul, lN_i, sg_gt, sg_le, sg_eq, sg_ge, sI_rem, sI_div, sI_rem2, sL_rem, sL_div, sL_rem2, sI_sub, sI_m1, sI_m1n, sI_or, if_pos, if_neg, Option.bind_some, am_call2_e, am_call3_e, am_call4_e, am_call5_e, am_call6_e, am_call7_e, am_call8_e, am_call9_e, am_call10_e, am_call11_e, am_call12_e, am_call13_e, am_call14_e, li_0, li_1, li_2, li_3, li_4, li_5, li_6, li_7, li_8, li_9, li_10, li_11, li_12, li_13, li_14, li_15, li_16, li_19, li_20, li_21, li_22, li_23, li_32, li_36, li_48, li_50, li_60, li_63, li_74, li_75, li_98, li_99, li_100, li_199, li_200, li_256, li_7919, li_65537, li_1000000, li_1000001, li_10000000, ll_0, ll_1, ll_100, ll_65535]
  | false =>
    obtain ⟨e, h1, h2, h3⟩ := nonN_f h
    refine for1 (b := F_X1_isFirstAtItsPlace_B10 (nI i) (some (nI 1)) f (nI g) (f (g * 12 + i))) nI e _ (fun rec j hj => ?_) (fun rec => ?_) 0 (Nat.zero_le _) am_fuel (by rw [fuelE]; omega)
    · have h4 := h3 j hj
      unfold F_X1_isFirstAtItsPlace_B10
      simp (disch := omega) only [if_true, if_false, am_let, am_in_n, am_nz_n, am_nzl_n, sI_add, sI_mul, sI_cl, sI_le, sI_lt, sI_eq, sI_l, lN_add, lN_mul, lN_i, sg_gt, sg_le, sg_eq, sg_ge, sI_rem, sI_div, sI_rem2, sL_rem, sL_div, sL_rem2, sI_sub, sI_m1, sI_m1n, sI_or, if_pos, if_neg, Option.bind_some, am_call2_e, am_call3_e, am_call4_e, am_call5_e, am_call6_e, am_call7_e, am_call8_e, am_call9_e, am_call10_e, am_call11_e, am_call12_e, am_call13_e, am_call14_e, li_0, li_1, li_2, li_3, li_4, li_5, li_6, li_7, li_8, li_9, li_10, li_11, li_12, li_13, li_14, li_15, li_16, li_19, li_20, li_21, li_22, li_23, li_32, li_36, li_48, li_50, li_60, li_63, li_74, li_75, li_98, li_99, li_100, li_199, li_200, li_256, li_7919, li_65537, li_1000000, li_1000001, li_10000000, ll_0, ll_1, ll_100, ll_65535, fplaceC (f := f) hg (show j < 12 by omega), h4]
    · unfold F_X1_isFirstAtItsPlace_B10
      simp (disch := omega) only [if_true, if_false, am_let, am_in_n, am_nz_n, am_nzl_n, sI_add, sI_mul, sI_cl, sI_le, sI_lt, sI_eq, sI_l, lN_add, lN_mul, lN_i, sg_gt, sg_le, sg_eq, sg_ge, sI_rem, sI_div, sI_rem2, sL_rem, sL_div, sL_rem2, sI_sub, sI_m1, sI_m1n, sI_or, if_pos, if_neg, Option.bind_some, am_call2_e, am_call3_e, am_call4_e, am_call5_e, am_call6_e, am_call7_e, am_call8_e, am_call9_e, am_call10_e, am_call11_e, am_call12_e, am_call13_e, am_call14_e, li_0, li_1, li_2, li_3, li_4, li_5, li_6, li_7, li_8, li_9, li_10, li_11, li_12, li_13, li_14, li_15, li_16, li_19, li_20, li_21, li_22, li_23, li_32, li_36, li_48, li_50, li_60, li_63, li_74, li_75, li_98, li_99, li_100, li_199, li_200, li_256, li_7919, li_65537, li_1000000, li_1000001, li_10000000, ll_0, ll_1, ll_100, ll_65535, fplaceC (f := f) hg (show e < 12 by omega), h2, Bool.false_eq_true]
theorem funlikeC {f : Nat → Int32} {N g : Nat} (hN : N ≤ 12) (hg : g < 20) : F_X1_howManyUnlikePlaces (nI N) f (nI g) = some (nI (newN (fun k => f (g * 12 + k)) N)) := by
  unfold F_X1_howManyUnlikePlaces
  simp only [am_let, li_0, li_1, li_2, li_3, li_4, li_5, li_6, li_7, li_8, li_9, li_10, li_11, li_12, li_13, li_14, li_15, li_16, li_19, li_20, li_21, li_22, li_23, li_32, li_36, li_48, li_50, li_60, li_63, li_74, li_75, li_98, li_99, li_100, li_199, li_200, li_256, li_7919, li_65537, li_1000000, li_1000001, li_10000000, ll_0, ll_1, ll_100, ll_65535]
  obtain ⟨a, ha, e⟩ := for2L (b := F_X1_howManyUnlikePlaces_B4 (nI N) (fun x1 => some x1) f (nI g)) nI N (fun j a => a = nI (newN (fun k => f (g * 12 + k)) j)) (fun a => some a) (by
    rintro rec a j hj rfl
    refine ⟨_, rfl, ?_⟩
    unfold F_X1_howManyUnlikePlaces_B4
    show _ = rec (nI (newN (fun k => f (g * 12 + k)) j + (if nonN (fun k => f (g * 12 + k)) (f (g * 12 + j)) j = true then 1 else 0))) _
    rw [fisFirst hg (show j < 12 by omega)]
    cases h : nonN (fun k => f (g * 12 + k)) (f (g * 12 + j)) j with
    | true => simp (disch := omega) only [if_true, if_false, am_let, am_in_n, am_nz_n, am_nzl_n, sI_add, sI_mul, sI_cl, sI_le, sI_lt, sI_eq, sI_l, lN_add, lN_mul, lN_i, sg_gt, sg_le, sg_eq, sg_ge, sI_rem, sI_div, sI_rem2, sL_rem, sL_div, sL_rem2, sI_sub, sI_m1, sI_m1n, sI_or, if_pos, if_neg, Option.bind_some, am_call2_e, am_call3_e, am_call4_e, am_call5_e, am_call6_e, am_call7_e, am_call8_e, am_call9_e, am_call10_e, am_call11_e, am_call12_e, am_call13_e, am_call14_e, li_0, li_1, li_2, li_3, li_4, li_5, li_6, li_7, li_8, li_9, li_10, li_11, li_12, li_13, li_14, li_15, li_16, li_19, li_20, li_21, li_22, li_23, li_32, li_36, li_48, li_50, li_60, li_63, li_74, li_75, li_98, li_99, li_100, li_199, li_200, li_256, li_7919, li_65537, li_1000000, li_1000001, li_10000000, ll_0, ll_1, ll_100, ll_65535]
    | false => simp (disch := omega) only [if_true, if_false, am_let, am_in_n, am_nz_n, am_nzl_n, sI_add, sI_mul, sI_cl, sI_le, sI_lt, sI_eq, sI_l, lN_add, lN_mul, lN_i, sg_gt, sg_le, sg_eq, sg_ge, sI_rem, sI_div, sI_rem2, sL_rem, sL_div, sL_rem2, sI_sub, sI_m1, sI_m1n, sI_or, if_pos, if_neg, Option.bind_some, am_call2_e, am_call3_e, am_call4_e, am_call5_e, am_call6_e, am_call7_e, am_call8_e, am_call9_e, am_call10_e, am_call11_e, am_call12_e, am_call13_e, am_call14_e, li_0, li_1, li_2, li_3, li_4, li_5, li_6, li_7, li_8, li_9, li_10, li_11, li_12, li_13, li_14, li_15, li_16, li_19, li_20, li_21, li_22, li_23, li_32, li_36, li_48, li_50, li_60, li_63, li_74, li_75, li_98, li_99, li_100, li_199, li_200, li_256, li_7919, li_65537, li_1000000, li_1000001, li_10000000, ll_0, ll_1, ll_100, ll_65535, Bool.false_eq_true, Nat.add_zero]) (by
    rintro rec a rfl
    unfold F_X1_howManyUnlikePlaces_B4
    simp (disch := omega) only [if_true, if_false, am_let, am_in_n, am_nz_n, am_nzl_n, sI_add, sI_mul, sI_cl, sI_le, sI_lt, sI_eq, sI_l, lN_add, lN_mul, lN_i, sg_gt, sg_le, sg_eq, sg_ge, sI_rem, sI_div, sI_rem2, sL_rem, sL_div, sL_rem2, sI_sub, sI_m1, sI_m1n, sI_or, if_pos, if_neg, Option.bind_some, am_call2_e, am_call3_e, am_call4_e, am_call5_e, am_call6_e, am_call7_e, am_call8_e, am_call9_e, am_call10_e, am_call11_e, am_call12_e, am_call13_e, am_call14_e, li_0, li_1, li_2, li_3, li_4, li_5, li_6, li_7, li_8, li_9, li_10, li_11, li_12, li_13, li_14, li_15, li_16, li_19, li_20, li_21, li_22, li_23, li_32, li_36, li_48, li_50, li_60, li_63, li_74, li_75, li_98, li_99, li_100, li_199, li_200, li_256, li_7919, li_65537, li_1000000, li_1000001, li_10000000, ll_0, ll_1, ll_100, ll_65535]) 0 (Nat.zero_le _) am_fuel (by rw [fuelE]; omega) (nI 0) rfl
  rw [e, ha]
