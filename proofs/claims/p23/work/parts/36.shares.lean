-- shares: ranks of rests
theorem ahead_irr (r : Nat → Nat) (i : Nat) : aheadB r i i = false := by
  unfold aheadB
  simp only [Nat.lt_irrefl, decide_false, Bool.and_false, Bool.or_false]
theorem ahead_tri {r : Nat → Nat} {i k : Nat} (h : ¬ i = k) : aheadB r i k = true ∨ aheadB r k i = true := by
  unfold aheadB
  simp only [Bool.or_eq_true, Bool.and_eq_true, decide_eq_true_eq]
  omega
theorem ahead_asym {r : Nat → Nat} {i k : Nat} (h : aheadB r i k = true) : aheadB r k i = false := by
  rw [← Bool.not_eq_true]
  unfold aheadB at *
  simp only [Bool.or_eq_true, Bool.and_eq_true, decide_eq_true_eq] at *
  omega
theorem ahead_tr {r : Nat → Nat} {i k m : Nat} (h : aheadB r i k = true) (h2 : aheadB r k m = true) : aheadB r i m = true := by
  unfold aheadB at *
  simp only [Bool.or_eq_true, Bool.and_eq_true, decide_eq_true_eq] at *
  omega
theorem cnt_mono {p q : Nat → Bool} : ∀ n, (∀ k, k < n → p k = true → q k = true) → cntN p n ≤ cntN q n
  | 0, _ => Nat.le_refl _
  | n + 1, h => by
    have h1 := cnt_mono n (fun k hk => h k (by omega))
    have h2 := h n (by omega)
    show cntN p n + (if p n then 1 else 0) ≤ cntN q n + (if q n then 1 else 0)
    cases hp : p n with
    | false => simp only [Bool.false_eq_true, if_false]; split <;> omega
    | true => rw [h2 hp]; simp only [if_true]; omega
theorem cnt_strict {p q : Nat → Bool} {x : Nat} : ∀ n, x < n → p x = false → q x = true → (∀ k, k < n → p k = true → q k = true) → cntN p n < cntN q n
  | 0, hx, _, _, _ => absurd hx (Nat.not_lt_zero x)
  | n + 1, hx, hp, hq, h => by
    show cntN p n + (if p n then 1 else 0) < cntN q n + (if q n then 1 else 0)
    by_cases hxn : x = n
    · subst hxn
      have h1 := cnt_mono x (fun k hk => h k (by omega))
      rw [hp, hq]
      simp only [Bool.false_eq_true, if_false, if_true]
      omega
    · have h1 := cnt_strict n (by omega) hp hq (fun k hk => h k (by omega))
      have h2 := h n (by omega)
      cases hpn : p n with
      | false => simp only [Bool.false_eq_true, if_false]; split <;> omega
      | true => rw [h2 hpn]; simp only [if_true]; omega
theorem cnt_all {p : Nat → Bool} : ∀ n, cntN p n = n → ∀ k, k < n → p k = true
  | 0, _, k, hk => absurd hk (Nat.not_lt_zero k)
  | n + 1, h, k, hk => by
    have h1 := cntN_le (p := p) n
    have h2 : cntN p n + (if p n then 1 else 0) = n + 1 := h
    cases hp : p n with
    | false => rw [hp] at h2; simp only [Bool.false_eq_true, if_false] at h2; omega
    | true =>
      rw [hp] at h2
      simp only [if_true] at h2
      by_cases hkn : k = n
      · subst hkn; exact hp
      · exact cnt_all n (by omega) k (by omega)
def rankN (r : Nat → Nat) (N i : Nat) : Nat := cntN (aheadB r i) N
theorem rank_lt {r : Nat → Nat} {N i k : Nat} (hi : i < N) (h : aheadB r k i = true) : rankN r N i < rankN r N k := by
  refine cnt_strict N hi (ahead_irr r i) h (fun m _ hm => ahead_tr h hm)
theorem rank_inj {r : Nat → Nat} {N i k : Nat} (hi : i < N) (hk : k < N) (h : rankN r N i = rankN r N k) : i = k := by
  by_cases hik : i = k
  · exact hik
  · rcases ahead_tri (r := r) hik with h1 | h1
    · have := rank_lt hk h1; omega
    · have := rank_lt hi h1; omega
-- the first of the unmarked ones is the next in rank
theorem rank_next {r : Nat → Nat} {N i b : Nat} (hb : b < N) (hc : cntN (fun k => decide (rankN r N k < i)) N = i) (hu : i ≤ rankN r N b) (hf : ∀ k, k < N → i ≤ rankN r N k → ¬ k = b → aheadB r k b = true) : rankN r N b = i := by
  have e : rankN r N b = cntN (fun k => decide (rankN r N k < i)) N := by
    apply cntN_congr
    intro k hk
    by_cases hm : rankN r N k < i
    · rw [decide_eq_true hm]
      by_cases hkb : k = b
      · subst hkb; omega
      · rcases ahead_tri (r := r) (Ne.symm hkb) with h1 | h1
        · exact h1
        · have := rank_lt hb h1
          omega
    · rw [decide_eq_false hm]
      by_cases hkb : k = b
      · subst hkb; exact ahead_irr r k
      · exact ahead_asym (hf k hk (by omega) hkb)
  rw [e, hc]
theorem first_ahead {r : Nat → Nat} {p : Nat → Prop} : ∀ N, (∃ k, k < N ∧ p k) → ∃ b, b < N ∧ p b ∧ ∀ k, k < N → p k → ¬ k = b → aheadB r k b = true
  | 0, ⟨k, hk, _⟩ => absurd hk (Nat.not_lt_zero k)
  | N + 1, ⟨k, hk, hp⟩ => by
    by_cases h : ∃ k, k < N ∧ p k
    · obtain ⟨b, h1, h2, h3⟩ := first_ahead (r := r) N h
      by_cases hN : p N
      · by_cases ha : aheadB r N b = true
        · refine ⟨b, by omega, h2, fun m hm hpm hne => ?_⟩
          by_cases hmN : m = N
          · subst hmN; exact ha
          · exact h3 m (by omega) hpm hne
        · have hbN : aheadB r b N = true := by
            rcases ahead_tri (r := r) (show ¬ b = N by omega) with h4 | h4
            · exact h4
            · exact absurd h4 ha
          refine ⟨N, by omega, hN, fun m hm hpm hne => ?_⟩
          by_cases hmb : m = b
          · subst hmb; exact hbN
          · exact ahead_tr (h3 m (by omega) hpm hmb) hbN
      · refine ⟨b, by omega, h2, fun m hm hpm hne => ?_⟩
        by_cases hmN : m = N
        · subst hmN; exact absurd hpm hN
        · exact h3 m (by omega) hpm hne
    · have hkN : k = N := by
        by_cases hkn : k = N
        · exact hkn
        · exact absurd ⟨k, by omega, hp⟩ h
      subst hkN
      refine ⟨k, by omega, hp, fun m hm hpm hne => absurd ⟨m, by omega, hpm⟩ h⟩
theorem rank_cnt {r : Nat → Nat} {N : Nat} : ∀ m, m ≤ N → cntN (fun k => decide (rankN r N k < m)) N = m
  | 0, _ => by
    have e : cntN (fun k => decide (rankN r N k < 0)) N = cntN (fun _ => false) N := cntN_congr N (fun k _ => decide_eq_false (Nat.not_lt_zero _))
    rw [e]
    have : ∀ M, cntN (fun _ => false) M = 0 := by
      intro M
      induction M with
      | zero => rfl
      | succ M ih => show cntN (fun _ => false) M + 0 = 0; rw [ih]
    exact this N
  | m + 1, hm => by
    have ih := rank_cnt (r := r) (N := N) m (by omega)
    have hex : ∃ k, k < N ∧ m ≤ rankN r N k := by
      apply Classical.byContradiction
      intro hno
      have h1 : ∀ k, k < N → (fun _ => true : Nat → Bool) k = true → decide (rankN r N k < m) = true := by
        intro k hk _
        rw [decide_eq_true_eq]
        apply Classical.byContradiction
        intro h2
        exact hno ⟨k, hk, by omega⟩
      have h2 := cnt_mono N h1
      have h3 : ∀ M, cntN (fun _ => true) M = M := by
        intro M
        induction M with
        | zero => rfl
        | succ M ih => show cntN (fun _ => true) M + 1 = M + 1; rw [ih]
      rw [h3, ih] at h2
      omega
    obtain ⟨b, h1, h2, h3⟩ := first_ahead (r := r) N hex
    have hr := rank_next h1 ih h2 h3
    have e : cntN (fun k => decide (rankN r N k < m + 1)) N = cntN (fun k => decide (rankN r N k < m) || decide (b = k)) N := by
      apply cntN_congr
      intro k hk
      by_cases hkb : b = k
      · subst hkb
        rw [decide_eq_true (show rankN r N b < m + 1 by omega), decide_eq_true (rfl : b = b), Bool.or_true]
      · rw [decide_eq_false hkb, Bool.or_false]
        have h4 : ¬ rankN r N k = m := fun h => hkb (rank_inj (r := r) h1 hk (by omega))
        by_cases h5 : rankN r N k < m
        · rw [decide_eq_true h5, decide_eq_true (show rankN r N k < m + 1 by omega)]
        · rw [decide_eq_false h5, decide_eq_false (show ¬ rankN r N k < m + 1 by omega)]
    rw [e, cnt_set h1, ih, hr]
    simp only [Nat.lt_irrefl, decide_false, Bool.false_eq_true, if_false]
-- how many times each one is an ancestor
def flN (w : Nat → Nat) (N k : Nat) : Nat := N * w k / sumN w N
def rsN (w : Nat → Nat) (N k : Nat) : Nat := N * w k % sumN w N
def wantN (w : Nat → Nat) (N : Nat) : Nat := N - sumN (flN w N) N
def tmN (w : Nat → Nat) (N k : Nat) : Nat := flN w N k + (if rankN (rsN w N) N k < wantN w N then 1 else 0)
theorem sumN_mul {w : Nat → Nat} (c : Nat) : ∀ n, sumN (fun k => c * w k) n = c * sumN w n
  | 0 => (Nat.mul_zero c).symm
  | n + 1 => by
    show sumN (fun k => c * w k) n + c * w n = c * (sumN w n + w n)
    rw [sumN_mul c n, Nat.mul_add]
theorem sumN_div {v : Nat → Nat} {S : Nat} : ∀ n, S * sumN (fun k => v k / S) n ≤ sumN v n
  | 0 => by show S * 0 ≤ 0; omega
  | n + 1 => by
    have h1 := sumN_div (v := v) (S := S) n
    have h2 : S * (v n / S) ≤ v n := Nat.mul_div_le _ _
    show S * (sumN (fun k => v k / S) n + v n / S) ≤ sumN v n + v n
    rw [Nat.mul_add]
    omega
theorem fl_le {w : Nat → Nat} {N : Nat} (hS : 0 < sumN w N) : sumN (flN w N) N ≤ N := by
  have h1 := sumN_div (v := fun k => N * w k) (S := sumN w N) N
  rw [sumN_mul] at h1
  have h2 : sumN w N * sumN (flN w N) N ≤ sumN w N * N := by rw [Nat.mul_comm (sumN w N) N]; exact h1
  exact Nat.le_of_mul_le_mul_left h2 hS
theorem sumN_split {a : Nat → Nat} {p : Nat → Bool} : ∀ n, sumN (fun k => a k + (if p k then 1 else 0)) n = sumN a n + cntN p n
  | 0 => rfl
  | n + 1 => by
    show sumN (fun k => a k + (if p k then 1 else 0)) n + (a n + (if p n then 1 else 0)) = sumN a n + a n + (cntN p n + (if p n then 1 else 0))
    rw [sumN_split n]
    omega
theorem tm_sum {w : Nat → Nat} {N : Nat} (hS : 0 < sumN w N) : sumN (tmN w N) N = N := by
  have h1 : sumN (tmN w N) N = sumN (fun k => flN w N k + (if decide (rankN (rsN w N) N k < wantN w N) = true then 1 else 0)) N := by
    apply sumN_congr
    intro k _
    show flN w N k + (if rankN (rsN w N) N k < wantN w N then 1 else 0) = _
    simp only [decide_eq_true_eq]
  have h2 := fl_le hS
  have h3 : wantN w N ≤ N := Nat.sub_le _ _
  rw [h1, sumN_split, rank_cnt _ h3]
  unfold wantN
  omega
theorem updL_s (f : Nat → Int64) (k : Nat) (x : Int64) : vp_updL f k x k = x := pk_uLs
theorem updL_n {f : Nat → Int64} {k j : Nat} {x : Int64} (h : j ≠ k) : vp_updL f k x j = f j := pk_uLn h
theorem frests {f : Nat → Int64} {N i : Nat} {r : Nat → Nat} (hN : N ≤ 12) (hi : i < N) (hr : ∀ k, k < N → f k = lN (r k)) (hb : ∀ k, k < N → r k < 2147483648) : F_X0_restsAheadOf f (nI i) (lN N) = some (nI (rankN r N i)) := by
  have hbi := hb i hi
  unfold F_X0_restsAheadOf
  simp only [am_let]
  simp (disch := omega) only [if_true, if_false, am_in_n, am_nz_n, am_nzl_n, sI_add, sI_mul, sI_cl, sI_le, sI_lt, sI_eq, sI_l, lN_add, lN_mul, lN_i, sg_gt, sg_le, sg_eq, sg_ge, sI_rem, sI_div, sI_rem2, sL_rem, sL_div, sL_rem2, sI_sub, sI_m1, sI_m1n, sI_or, if_pos, if_neg, Option.bind_some, am_call2_e, am_call3_e, am_call4_e, am_call5_e, am_call6_e, am_call7_e, am_call8_e, am_call9_e, am_call10_e, am_call11_e, am_call12_e, am_call13_e, am_call14_e, li_0, li_1, li_2, li_3, li_4, li_5, li_6, li_7, li_8, li_9, li_10, li_11, li_12, li_13, li_14, li_15, li_16, li_19, li_20, li_21, li_22, li_23, li_32, li_36, li_48, li_50, li_60, li_63, li_74, li_75, li_98, li_99, li_100, li_199, li_200, li_256, li_7919, li_65537, li_1000000, li_1000001, li_10000000, ll_0, ll_1, ll_100, ll_65535, hr i hi]
  obtain ⟨a, ha, e⟩ := for2L (b := F_X0_restsAheadOf_B30 (lN N) (fun x2 => some x2) f (lN (r i)) (nI i)) nI N (fun j a => a = nI (cntN (aheadB r i) j)) (fun a => some a) (by
    rintro rec a j hj rfl
    refine ⟨_, rfl, ?_⟩
    have h1 := hb j hj
    unfold F_X0_restsAheadOf_B30
    show _ = rec (nI (cntN (aheadB r i) j + (if aheadB r i j = true then 1 else 0))) _
    unfold aheadB
    simp only [am_let]
    by_cases h : r i < r j
    · simp (disch := omega) only [if_true, if_false, am_in_n, am_nz_n, am_nzl_n, sI_add, sI_mul, sI_cl, sI_le, sI_lt, sI_eq, sI_l, lN_add, lN_mul, lN_i, sg_gt, sg_le, sg_eq, sg_ge, sI_rem, sI_div, sI_rem2, sL_rem, sL_div, sL_rem2, sI_sub, sI_m1, sI_m1n, sI_or, if_pos, if_neg, Option.bind_some, am_call2_e, am_call3_e, am_call4_e, am_call5_e, am_call6_e, am_call7_e, am_call8_e, am_call9_e, am_call10_e, am_call11_e, am_call12_e, am_call13_e, am_call14_e, li_0, li_1, li_2, li_3, li_4, li_5, li_6, li_7, li_8, li_9, li_10, li_11, li_12, li_13, li_14, li_15, li_16, li_19, li_20, li_21, li_22, li_23, li_32, li_36, li_48, li_50, li_60, li_63, li_74, li_75, li_98, li_99, li_100, li_199, li_200, li_256, li_7919, li_65537, li_1000000, li_1000001, li_10000000, ll_0, ll_1, ll_100, ll_65535, hr j hj, h, decide_true, Bool.true_or]
    · by_cases h2 : r j = r i
      · by_cases h3 : j < i
        · simp (disch := omega) only [if_true, if_false, am_in_n, am_nz_n, am_nzl_n, sI_add, sI_mul, sI_cl, sI_le, sI_lt, sI_eq, sI_l, lN_add, lN_mul, lN_i, sg_gt, sg_le, sg_eq, sg_ge, sI_rem, sI_div, sI_rem2, sL_rem, sL_div, sL_rem2, sI_sub, sI_m1, sI_m1n, sI_or, if_pos, if_neg, Option.bind_some, am_call2_e, am_call3_e, am_call4_e, am_call5_e, am_call6_e, am_call7_e, am_call8_e, am_call9_e, am_call10_e, am_call11_e, am_call12_e, am_call13_e, am_call14_e, li_0, li_1, li_2, li_3, li_4, li_5, li_6, li_7, li_8, li_9, li_10, li_11, li_12, li_13, li_14, li_15, li_16, li_19, li_20, li_21, li_22, li_23, li_32, li_36, li_48, li_50, li_60, li_63, li_74, li_75, li_98, li_99, li_100, li_199, li_200, li_256, li_7919, li_65537, li_1000000, li_1000001, li_10000000, ll_0, ll_1, ll_100, ll_65535, hr j hj, h, h2, h3, decide_true, decide_false, Bool.true_or, Bool.false_or, Bool.true_and, Nat.lt_irrefl]
        · simp (disch := omega) only [if_true, if_false, am_in_n, am_nz_n, am_nzl_n, sI_add, sI_mul, sI_cl, sI_le, sI_lt, sI_eq, sI_l, lN_add, lN_mul, lN_i, sg_gt, sg_le, sg_eq, sg_ge, sI_rem, sI_div, sI_rem2, sL_rem, sL_div, sL_rem2, sI_sub, sI_m1, sI_m1n, sI_or, if_pos, if_neg, Option.bind_some, am_call2_e, am_call3_e, am_call4_e, am_call5_e, am_call6_e, am_call7_e, am_call8_e, am_call9_e, am_call10_e, am_call11_e, am_call12_e, am_call13_e, am_call14_e, li_0, li_1, li_2, li_3, li_4, li_5, li_6, li_7, li_8, li_9, li_10, li_11, li_12, li_13, li_14, li_15, li_16, li_19, li_20, li_21, li_22, li_23, li_32, li_36, li_48, li_50, li_60, li_63, li_74, li_75, li_98, li_99, li_100, li_199, li_200, li_256, li_7919, li_65537, li_1000000, li_1000001, li_10000000, ll_0, ll_1, ll_100, ll_65535, hr j hj, h, h2, h3, decide_true, decide_false, Bool.true_or, Bool.false_or, Bool.true_and, Nat.lt_irrefl, Bool.false_eq_true, Nat.add_zero]
      · simp (disch := omega) only [if_true, if_false, am_in_n, am_nz_n, am_nzl_n, sI_add, sI_mul, sI_cl, sI_le, sI_lt, sI_eq, sI_l, lN_add, lN_mul, lN_i, sg_gt, sg_le, sg_eq, sg_ge, sI_rem, sI_div, sI_rem2, sL_rem, sL_div, sL_rem2, sI_sub, sI_m1, sI_m1n, sI_or, if_pos, if_neg, Option.bind_some, am_call2_e, am_call3_e, am_call4_e, am_call5_e, am_call6_e, am_call7_e, am_call8_e, am_call9_e, am_call10_e, am_call11_e, am_call12_e, am_call13_e, am_call14_e, li_0, li_1, li_2, li_3, li_4, li_5, li_6, li_7, li_8, li_9, li_10, li_11, li_12, li_13, li_14, li_15, li_16, li_19, li_20, li_21, li_22, li_23, li_32, li_36, li_48, li_50, li_60, li_63, li_74, li_75, li_98, li_99, li_100, li_199, li_200, li_256, li_7919, li_65537, li_1000000, li_1000001, li_10000000, ll_0, ll_1, ll_100, ll_65535, hr j hj, h, h2, decide_true, decide_false, Bool.true_or, Bool.false_or, Bool.false_and, Bool.false_eq_true, Nat.add_zero]) (by
    rintro rec a rfl
    unfold F_X0_restsAheadOf_B30
    simp (disch := omega) only [if_true, if_false, am_in_n, am_nz_n, am_nzl_n, sI_add, sI_mul, sI_cl, sI_le, sI_lt, sI_eq, sI_l, lN_add, lN_mul, lN_i, sg_gt, sg_le, sg_eq, sg_ge, sI_rem, sI_div, sI_rem2, sL_rem, sL_div, sL_rem2, sI_sub, sI_m1, sI_m1n, sI_or, if_pos, if_neg, Option.bind_some, am_call2_e, am_call3_e, am_call4_e, am_call5_e, am_call6_e, am_call7_e, am_call8_e, am_call9_e, am_call10_e, am_call11_e, am_call12_e, am_call13_e, am_call14_e, li_0, li_1, li_2, li_3, li_4, li_5, li_6, li_7, li_8, li_9, li_10, li_11, li_12, li_13, li_14, li_15, li_16, li_19, li_20, li_21, li_22, li_23, li_32, li_36, li_48, li_50, li_60, li_63, li_74, li_75, li_98, li_99, li_100, li_199, li_200, li_256, li_7919, li_65537, li_1000000, li_1000001, li_10000000, ll_0, ll_1, ll_100, ll_65535]) 0 (Nat.zero_le _) am_fuel (by rw [fuelE]; omega) (nI 0) rfl
  rw [e, ha]
  rfl
-- what is laid out, one after the other
def laid (t : Nat → Nat) (n : Nat) (f : Nat → Int32) : Prop := ∀ j, j < sumN t n → ∃ e, e < n ∧ f j = nI e ∧ sumN t e ≤ j ∧ j < sumN t (e + 1)
theorem laid_at {t : Nat → Nat} {N : Nat} {f : Nat → Int32} (h : laid t N f) {j : Nat} (hj : j < sumN t N) : f j = nI (faR t 1 j N) := by
  obtain ⟨e, h1, h2, h3, h4⟩ := h j hj
  rw [h2, faR_u h1 (by omega) (by omega)]
theorem fsharesC {f : Nat → Int32} {N : Nat} {w : Nat → Nat} (anc : Nat → Int32) (rst : Nat → Int64) (hN : N ≤ 12) (hw : ∀ k, k < N → f k = nI (w k)) (hb : ∀ k, k < N → w k ≤ 1000000) (hS : 0 < sumN w N) : ∃ a' r', (∀ k, k < N → a' k = nI (faR (tmN w N) 1 k N)) ∧ F_X0_chooseByShares anc rst (nI N) f = some (a', r') := by
  have hS2 := (sq_le hN hb).1
  have hfl := fl_le hS
  have htm := tm_sum hS
  have hpr : ∀ k, k < N → N * w k ≤ 12 * 1000000 := fun k hk => Nat.mul_le_mul hN (hb k hk)
  have hrs : ∀ k, k < N → rsN w N k < 2147483648 := fun k hk => by
    have : rsN w N k < sumN w N := Nat.mod_lt _ hS
    omega
  have hts : ∀ k, k < N → tmN w N k ≤ N := by
    intro k hk
    have h1 : sumN (tmN w N) (k + 1) ≤ sumN (tmN w N) N := sumN_mono (by omega)
    have h2 : sumN (tmN w N) (k + 1) = sumN (tmN w N) k + tmN w N k := rfl
    omega
  have hws : ∀ k, k < N → F_X5_weightOf f (nI k) = some (nI (w k)) := fun k hk => by rw [fweightOf (by omega), hw k hk]
  unfold F_X0_chooseByShares
  rw [fsumC hN hw (fun k hk => by have := hb k hk; omega)]
  simp only [am_let]
  simp (disch := omega) only [li_0, li_1, li_2, li_3, li_4, li_5, li_6, li_7, li_8, li_9, li_10, li_11, li_12, li_13, li_14, li_15, li_16, li_19, li_20, li_21, li_22, li_23, li_32, li_36, li_48, li_50, li_60, li_63, li_74, li_75, li_98, li_99, li_100, li_199, li_200, li_256, li_7919, li_65537, li_1000000, li_1000001, li_10000000, ll_0, ll_1, ll_100, ll_65535, ll_0, Option.bind_some, sg_gt, if_pos, sI_l]
  obtain ⟨x3, f4, ⟨h1, h2⟩, e⟩ := for3M (b := F_X0_chooseByShares_B26 (lN N) (fun x3 f4 => am_loop3 (F_X0_chooseByShares_B89 (lN N) (fun f6 => some (f6, f4)) f (lN (sumN w N)) f4 x3) am_fuel (nI 0) (nI 0) anc) f (lN (sumN w N))) nI N (fun j x r => x = lN (N - sumN (flN w N) j) ∧ ∀ k, k < j → r k = lN (rsN w N k)) (fun x3 f4 => am_loop3 (F_X0_chooseByShares_B89 (lN N) (fun f6 => some (f6, f4)) f (lN (sumN w N)) f4 x3) am_fuel (nI 0) (nI 0) anc) (by
    rintro rec x r j hj ⟨rfl, h⟩
    have h3 := hpr j hj
    have h4 := hb j hj
    have h5 : sumN (flN w N) (j + 1) ≤ sumN (flN w N) N := sumN_mono (by omega)
    have h6 : sumN (flN w N) (j + 1) = sumN (flN w N) j + N * w j / sumN w N := rfl
    have e1 : lN (N - sumN (flN w N) j) - lN (N * w j / sumN w N) = lN (N - sumN (flN w N) (j + 1)) := by
      rw [lN_sub (by omega), h6, Nat.sub_sub]
    refine ⟨lN (N - sumN (flN w N) (j + 1)), vp_updL r j (lN (rsN w N j)), ⟨rfl, fun k hk => ?_⟩, ?_⟩
    · by_cases hkj : k = j
      · subst hkj; exact updL_s _ _ _
      · rw [updL_n hkj]; exact h k (by omega)
    · unfold F_X0_chooseByShares_B26
      simp only [am_let]
      simp (disch := omega) only [if_true, if_false, am_in_n, am_nz_n, am_nzl_n, sI_add, sI_mul, sI_cl, sI_le, sI_lt, sI_eq, sI_l, lN_add, lN_mul, lN_i, sg_gt, sg_le, sg_eq, sg_ge, sI_rem, sI_div, sI_rem2, sL_rem, sL_div, sL_rem2, sI_sub, sI_m1, sI_m1n, sI_or, if_pos, if_neg, Option.bind_some, am_call2_e, am_call3_e, am_call4_e, am_call5_e, am_call6_e, am_call7_e, am_call8_e, am_call9_e, am_call10_e, am_call11_e, am_call12_e, am_call13_e, am_call14_e, li_0, li_1, li_2, li_3, li_4, li_5, li_6, li_7, li_8, li_9, li_10, li_11, li_12, li_13, li_14, li_15, li_16, li_19, li_20, li_21, li_22, li_23, li_32, li_36, li_48, li_50, li_60, li_63, li_74, li_75, li_98, li_99, li_100, li_199, li_200, li_256, li_7919, li_65537, li_1000000, li_1000001, li_10000000, ll_0, ll_1, ll_100, ll_65535, hws j hj, e1]
      rfl) (by
    rintro rec x r -
    unfold F_X0_chooseByShares_B26
    simp only [am_let]
    simp (disch := omega) only [if_true, if_false, am_in_n, am_nz_n, am_nzl_n, sI_add, sI_mul, sI_cl, sI_le, sI_lt, sI_eq, sI_l, lN_add, lN_mul, lN_i, sg_gt, sg_le, sg_eq, sg_ge, sI_rem, sI_div, sI_rem2, sL_rem, sL_div, sL_rem2, sI_sub, sI_m1, sI_m1n, sI_or, if_pos, if_neg, Option.bind_some, am_call2_e, am_call3_e, am_call4_e, am_call5_e, am_call6_e, am_call7_e, am_call8_e, am_call9_e, am_call10_e, am_call11_e, am_call12_e, am_call13_e, am_call14_e, li_0, li_1, li_2, li_3, li_4, li_5, li_6, li_7, li_8, li_9, li_10, li_11, li_12, li_13, li_14, li_15, li_16, li_19, li_20, li_21, li_22, li_23, li_32, li_36, li_48, li_50, li_60, li_63, li_74, li_75, li_98, li_99, li_100, li_199, li_200, li_256, li_7919, li_65537, li_1000000, li_1000001, li_10000000, ll_0, ll_1, ll_100, ll_65535]) 0 (Nat.zero_le _) am_fuel (by rw [fuelE]; omega) (lN N) rst ⟨rfl, fun k hk => absurd hk (Nat.not_lt_zero k)⟩
  rw [e]
  subst h1
  have e0 : N - sumN (flN w N) N = wantN w N := rfl
  rw [e0]
  have hwant : wantN w N ≤ N := Nat.sub_le _ _
  have inner : ∀ (K : Int32 → (Nat → Int32) → Option ((Nat → Int32) × (Nat → Int64))) (k : Nat) (g : Nat → Int32), k < N → laid (tmN w N) k g → ∃ g', laid (tmN w N) (k + 1) g' ∧ am_loop3 (F_X0_chooseByShares_B146 (lN (tmN w N k)) K (nI k)) am_fuel (nI (sumN (tmN w N) k)) (nI 0) g = K (nI (sumN (tmN w N) (k + 1))) g' := by
    intro K k g hk hg
    have h5 : sumN (tmN w N) (k + 1) ≤ sumN (tmN w N) N := sumN_mono (by omega)
    have h6 : sumN (tmN w N) (k + 1) = sumN (tmN w N) k + tmN w N k := rfl
    have h7 := hts k hk
    obtain ⟨x, g', ⟨hx, hg1, hg2⟩, e⟩ := for3M (b := F_X0_chooseByShares_B146 (lN (tmN w N k)) K (nI k)) nI (tmN w N k) (fun j x g' => x = nI (sumN (tmN w N) k + j) ∧ (∀ i, i < sumN (tmN w N) k → g' i = g i) ∧ ∀ i, i < j → g' (sumN (tmN w N) k + i) = nI k) (fun x g' => K x g') (by
      rintro rec x g' j hj ⟨rfl, ha, hc⟩
      refine ⟨nI (sumN (tmN w N) k + (j + 1)), upd g' (sumN (tmN w N) k + j) (nI k), ⟨rfl, fun i hi => by rw [upd_n (by omega)]; exact ha i hi, fun i hi => ?_⟩, ?_⟩
      · by_cases hij : i = j
        · subst hij; exact upd_s _ _ _
        · rw [upd_n (by omega)]; exact hc i (by omega)
      · unfold F_X0_chooseByShares_B146
        simp only [am_let]
        have e9 : sumN (tmN w N) k + j + 1 = sumN (tmN w N) k + (j + 1) := by omega
        simp (disch := omega) only [if_true, if_false, am_in_n, am_nz_n, am_nzl_n, sI_add, sI_mul, sI_cl, sI_le, sI_lt, sI_eq, sI_l, lN_add, lN_mul, lN_i, sg_gt, sg_le, sg_eq, sg_ge, sI_rem, sI_div, sI_rem2, sL_rem, sL_div, sL_rem2, sI_sub, sI_m1, sI_m1n, sI_or, if_pos, if_neg, Option.bind_some, am_call2_e, am_call3_e, am_call4_e, am_call5_e, am_call6_e, am_call7_e, am_call8_e, am_call9_e, am_call10_e, am_call11_e, am_call12_e, am_call13_e, am_call14_e, li_0, li_1, li_2, li_3, li_4, li_5, li_6, li_7, li_8, li_9, li_10, li_11, li_12, li_13, li_14, li_15, li_16, li_19, li_20, li_21, li_22, li_23, li_32, li_36, li_48, li_50, li_60, li_63, li_74, li_75, li_98, li_99, li_100, li_199, li_200, li_256, li_7919, li_65537, li_1000000, li_1000001, li_10000000, ll_0, ll_1, ll_100, ll_65535, e9]) (by
      rintro rec x g' ⟨rfl, -⟩
      unfold F_X0_chooseByShares_B146
      simp (disch := omega) only [if_true, if_false, am_in_n, am_nz_n, am_nzl_n, sI_add, sI_mul, sI_cl, sI_le, sI_lt, sI_eq, sI_l, lN_add, lN_mul, lN_i, sg_gt, sg_le, sg_eq, sg_ge, sI_rem, sI_div, sI_rem2, sL_rem, sL_div, sL_rem2, sI_sub, sI_m1, sI_m1n, sI_or, if_pos, if_neg, Option.bind_some, am_call2_e, am_call3_e, am_call4_e, am_call5_e, am_call6_e, am_call7_e, am_call8_e, am_call9_e, am_call10_e, am_call11_e, am_call12_e, am_call13_e, am_call14_e, li_0, li_1, li_2, li_3, li_4, li_5, li_6, li_7, li_8, li_9, li_10, li_11, li_12, li_13, li_14, li_15, li_16, li_19, li_20, li_21, li_22, li_23, li_32, li_36, li_48, li_50, li_60, li_63, li_74, li_75, li_98, li_99, li_100, li_199, li_200, li_256, li_7919, li_65537, li_1000000, li_1000001, li_10000000, ll_0, ll_1, ll_100, ll_65535]) 0 (Nat.zero_le _) am_fuel (by rw [fuelE]; omega) (nI (sumN (tmN w N) k)) g ⟨rfl, fun _ _ => rfl, fun i hi => absurd hi (Nat.not_lt_zero i)⟩
    refine ⟨g', fun j hj => ?_, by rw [e, hx]; rfl⟩
    by_cases hjl : j < sumN (tmN w N) k
    · obtain ⟨e1, a1, a2, a3, a4⟩ := hg j hjl
      exact ⟨e1, by omega, by rw [hg1 j hjl]; exact a2, a3, a4⟩
    · have := hg2 (j - sumN (tmN w N) k) (by omega)
      rw [show sumN (tmN w N) k + (j - sumN (tmN w N) k) = j by omega] at this
      exact ⟨k, by omega, this, by omega, hj⟩
  obtain ⟨x, g, ⟨-, hg⟩, e2⟩ := for3M (b := F_X0_chooseByShares_B89 (lN N) (fun f6 => some (f6, f4)) f (lN (sumN w N)) f4 (lN (wantN w N))) nI N (fun j x g => x = nI (sumN (tmN w N) j) ∧ laid (tmN w N) j g) (fun x g => some (g, f4)) (by
    rintro rec x g j hj ⟨rfl, hg⟩
    have h3 := hpr j hj
    have h4 := hb j hj
    have h7 := hts j hj
    have hrk : rankN (rsN w N) N j ≤ N := cntN_le N
    unfold F_X0_chooseByShares_B89
    simp only [am_let]
    simp (disch := omega) only [li_0, li_1, li_2, li_3, li_4, li_5, li_6, li_7, li_8, li_9, li_10, li_11, li_12, li_13, li_14, li_15, li_16, li_19, li_20, li_21, li_22, li_23, li_32, li_36, li_48, li_50, li_60, li_63, li_74, li_75, li_98, li_99, li_100, li_199, li_200, li_256, li_7919, li_65537, li_1000000, li_1000001, li_10000000, ll_0, ll_1, ll_100, ll_65535, ll_1, sI_l, sg_ge, sI_le, if_neg, hws j hj, Option.bind_some, am_nzl_n, lN_mul, sL_div, frests hN hj h2 hrs]
    obtain ⟨g', hg', e3⟩ := inner (fun x17 f18 => rec x17 (nI j + nI 1) f18) j g hj hg
    refine ⟨nI (sumN (tmN w N) (j + 1)), g', ⟨rfl, hg'⟩, ?_⟩
    rw [sI_add] at e3
    by_cases hr : rankN (rsN w N) N j < wantN w N
    · have e4 : tmN w N j = N * w j / sumN w N + 1 := by unfold tmN flN; rw [if_pos hr]
      rw [if_neg (show ¬ wantN w N ≤ rankN (rsN w N) N j by omega), lN_add, ← e4, sI_add]
      exact e3
    · have e4 : tmN w N j = N * w j / sumN w N := by unfold tmN flN; rw [if_neg hr]; rfl
      rw [if_pos (show wantN w N ≤ rankN (rsN w N) N j by omega), ← e4, sI_add]
      exact e3) (by
    rintro rec x g -
    unfold F_X0_chooseByShares_B89
    simp only [am_let]
    simp (disch := omega) only [if_true, if_false, am_in_n, am_nz_n, am_nzl_n, sI_add, sI_mul, sI_cl, sI_le, sI_lt, sI_eq, sI_l, lN_add, lN_mul, lN_i, sg_gt, sg_le, sg_eq, sg_ge, sI_rem, sI_div, sI_rem2, sL_rem, sL_div, sL_rem2, sI_sub, sI_m1, sI_m1n, sI_or, if_pos, if_neg, Option.bind_some, am_call2_e, am_call3_e, am_call4_e, am_call5_e, am_call6_e, am_call7_e, am_call8_e, am_call9_e, am_call10_e, am_call11_e, am_call12_e, am_call13_e, am_call14_e, li_0, li_1, li_2, li_3, li_4, li_5, li_6, li_7, li_8, li_9, li_10, li_11, li_12, li_13, li_14, li_15, li_16, li_19, li_20, li_21, li_22, li_23, li_32, li_36, li_48, li_50, li_60, li_63, li_74, li_75, li_98, li_99, li_100, li_199, li_200, li_256, li_7919, li_65537, li_1000000, li_1000001, li_10000000, ll_0, ll_1, ll_100, ll_65535]) 0 (Nat.zero_le _) am_fuel (by rw [fuelE]; omega) (nI 0) anc ⟨rfl, fun j hj => absurd hj (Nat.not_lt_zero j)⟩
  exact ⟨g, f4, fun k hk => laid_at hg (by omega), e2⟩

