-- the law's whole look at the class: all is so
theorem so_gcd (K : Int32 → Option Int32) (a b : Nat) (ha : a < 2147483648) (hb : b < 2147483648) : am_loop2 (F_L_isSo_B379 K) am_fuel (nI a) (nI b) = K (nI (Nat.gcd a b)) := by
  have one : ∀ (a b n : Nat), a < 2147483648 → b < 2147483648 → am_loop2 (F_L_isSo_B379 K) (n + 1) (nI a) (nI b) = if a = 0 then K (nI b) else am_loop2 (F_L_isSo_B379 K) n (nI (b % a)) (nI a) := by
    intro a b n ha hb
    show F_L_isSo_B379 K (am_loop2 (F_L_isSo_B379 K) n) (nI a) (nI b) = _
    generalize am_loop2 (F_L_isSo_B379 K) n = rec
    unfold F_L_isSo_B379
    by_cases h0 : a = 0
    · simp (disch := omega) only [if_true, if_false, am_let, am_in_n, am_nz_n, am_nzl_n, sI_add, sI_mul, sI_cl, sI_le, sI_lt, sI_eq, sI_l, lN_add, lN_mul, lN_i, sg_gt, sg_le, sg_eq, sg_ge, sI_rem, sI_div, sI_rem2, sL_rem, sL_div, sL_rem2, sI_sub, sI_m1, sI_m1n, sI_or, if_pos, if_neg, Option.bind_some, am_call2_e, am_call3_e, am_call4_e, am_call5_e, am_call6_e, am_call7_e, am_call8_e, am_call9_e, am_call10_e, am_call11_e, am_call12_e, am_call13_e, am_call14_e, li_0, li_1, li_2, li_3, li_4, li_5, li_6, li_7, li_8, li_9, li_10, li_11, li_12, li_13, li_14, li_15, li_16, li_19, li_20, li_21, li_22, li_23, li_32, li_36, li_48, li_50, li_60, li_63, li_74, li_75, li_98, li_99, li_100, li_199, li_200, li_256, li_7919, li_65537, li_1000000, li_1000001, li_10000000, ll_0, ll_1, ll_100, ll_65535, h0]
    · simp (disch := omega) only [if_true, if_false, am_let, am_in_n, am_nz_n, am_nzl_n, sI_add, sI_mul, sI_cl, sI_le, sI_lt, sI_eq, sI_l, lN_add, lN_mul, lN_i, sg_gt, sg_le, sg_eq, sg_ge, sI_rem, sI_div, sI_rem2, sL_rem, sL_div, sL_rem2, sI_sub, sI_m1, sI_m1n, sI_or, if_pos, if_neg, Option.bind_some, am_call2_e, am_call3_e, am_call4_e, am_call5_e, am_call6_e, am_call7_e, am_call8_e, am_call9_e, am_call10_e, am_call11_e, am_call12_e, am_call13_e, am_call14_e, li_0, li_1, li_2, li_3, li_4, li_5, li_6, li_7, li_8, li_9, li_10, li_11, li_12, li_13, li_14, li_15, li_16, li_19, li_20, li_21, li_22, li_23, li_32, li_36, li_48, li_50, li_60, li_63, li_74, li_75, li_98, li_99, li_100, li_199, li_200, li_256, li_7919, li_65537, li_1000000, li_1000001, li_10000000, ll_0, ll_1, ll_100, ll_65535]
  have key : ∀ (k a b n : Nat), a < 2 ^ k → 2 * k < n → a < 2147483648 → b < 2147483648 → am_loop2 (F_L_isSo_B379 K) n (nI a) (nI b) = K (nI (Nat.gcd a b)) := by
    intro k
    induction k with
    | zero =>
      intro a b n h1 h2 ha hb
      obtain ⟨n, rfl⟩ : ∃ m, n = m + 1 := ⟨n - 1, by omega⟩
      have h0 : a = 0 := by simpa using h1
      rw [one a b n ha hb, if_pos h0, h0, Nat.gcd_zero_left]
    | succ k ih =>
      intro a b n h1 h2 ha hb
      obtain ⟨n, rfl⟩ : ∃ m, n = m + 1 + 1 := ⟨n - 2, by omega⟩
      rw [one a b _ ha hb]
      by_cases h0 : a = 0
      · rw [if_pos h0, h0, Nat.gcd_zero_left]
      · have hm : b % a < a := Nat.mod_lt _ (by omega)
        rw [if_neg h0, one (b % a) a _ (by omega) ha]
        by_cases h3 : b % a = 0
        · rw [if_pos h3, Nat.gcd_rec, h3, Nat.gcd_zero_left]
        · have h4 := half_rem (a := b) (b := a) (by omega) (by omega)
          have h5 : 2 ^ (k + 1) = 2 * 2 ^ k := by rw [Nat.pow_succ, Nat.mul_comm]
          rw [if_neg h3, ih (a % (b % a)) (b % a) n (by omega) (by omega) (by omega) (by omega), ← Nat.gcd_rec (b % a) a, ← Nat.gcd_rec a b]
  rw [fuelE]
  exact key 31 a b _ (by omega) (by omega) ha hb
def firN (p : Nat → Nat) (k : Nat) : Nat → Bool
  | 0 => true
  | m + 1 => firN p k m && (decide (k ≤ m) || decide (¬ p m = p k))
theorem firN_iff {p : Nat → Nat} {k : Nat} : ∀ {m}, firN p k m = true ↔ ∀ j, j < k → j < m → ¬ p j = p k
  | 0 => ⟨fun _ j _ h => absurd h (Nat.not_lt_zero j), fun _ => rfl⟩
  | m + 1 => by
    show (firN p k m && (decide (k ≤ m) || decide (¬ p m = p k))) = true ↔ _
    rw [Bool.and_eq_true, firN_iff, Bool.or_eq_true, decide_eq_true_eq, decide_eq_true_eq]
    constructor
    · rintro ⟨h1, h2⟩ j hj hm
      by_cases e : j = m
      · subst e
        rcases h2 with h2 | h2
        · omega
        · exact h2
      · exact h1 j hj (by omega)
    · intro h
      refine ⟨fun j hj hm => h j hj (by omega), ?_⟩
      by_cases e : k ≤ m
      · exact Or.inl e
      · exact Or.inr (h m (by omega) (by omega))
theorem firN_non {p : Nat → Nat} {k N : Nat} (hk : k < N) (hb : ∀ j, j < N → p j ≤ 99) : firN p k N = nonN (fun j => nI (p j)) (nI (p k)) k := by
  apply Bool.eq_iff_iff.mpr
  rw [firN_iff]
  have hpk := hb k hk
  constructor
  · intro h
    cases h2 : nonN (fun j => nI (p j)) (nI (p k)) k with
    | true => rfl
    | false =>
      obtain ⟨e, h3, h4, -⟩ := nonN_f h2
      have hpe := hb e (by omega)
      exact absurd ((nI_eq (by omega) (by omega)).mp h4) (h e h3 (by omega))
  · intro h j hj hN e
    exact nonN_t h j hj (by show nI (p j) = nI (p k); rw [e])
section IsSo
variable {N G z th sc of : Nat} {wn : Nat → Nat} {pl pa : Nat → Nat → Nat} {g w q : Nat → Int32} {c : Nat → Int64} {v : Nat → Nat → Int32} {f : Nat → Nat → Nat → Int32}
theorem so_inner (hL : LSt N G z th sc of wn pl pa g w c) (K : Int32 → Int32 → Int32 → Option Int32) {k : Nat} (hk : k < N) : am_loop4 (F_L_isSo_B51 (nI N) K g c (nI k) w) am_fuel (nI 0) (nI 0) (nI 1) (nI 0) = K (nI (likeN (pl (G - 1)) k N)) (nI (cntN (aheadB wn k) N)) (if firN (pl (G - 1)) k N then nI 1 else nI 0) := by
  have hL' := hL
  obtain ⟨⟨n0, n1, g0, g1, hz, hth, hsc, hof⟩, ⟨s0, s1, s2, s5, s6, s7⟩, ⟨sw, swb, sS⟩, ⟨splb, spab⟩, hC⟩ := hL'
  have ek := place_of hL hk
  have hpk := splb (G - 1) k (by omega) hk
  have hbk := swb k hk
  obtain ⟨x, y, t, ⟨hx, hy, ht⟩, e⟩ := for4L (b := F_L_isSo_B51 (nI N) K g c (nI k) w) nI N (fun j x y t => x = nI (likeN (pl (G - 1)) k j) ∧ y = nI (cntN (aheadB wn k) j) ∧ t = if firN (pl (G - 1)) k j then nI 1 else nI 0) K (by
    rintro rec x y t j hj ⟨rfl, rfl, rfl⟩
    have ej := place_of hL hj
    have hpj := splb (G - 1) j (by omega) hj
    have hbj := swb j hj
    refine ⟨_, _, _, ⟨rfl, rfl, rfl⟩, ?_⟩
    have eJ1 : ∀ (B : Int32 → Option Int32), am_let B (fun J => if nI (pl (G - 1) j) = nI (pl (G - 1) k) then J (nI 1) else J (nI 0)) = B (nI (if pl (G - 1) j = pl (G - 1) k then 1 else 0)) := by
      intro B
      by_cases h : pl (G - 1) j = pl (G - 1) k
      · rw [am_let_e, if_pos (by rw [h]), if_pos h]
      · rw [am_let_e, if_neg (by rw [sI_eq (by omega) (by omega)]; exact h), if_neg h]
    have eJ2 : ∀ (B : Int32 → Option Int32), (am_let B fun J104 => am_let (J104 (nI 0)) fun J113 => if (if firN (pl (G - 1)) k j = true then nI 1 else nI 0) = nI 0 then J113 else am_let (J104 (nI 1)) fun J114 => if nI k ≤ nI j then J114 else Option.bind (some (nI (pl (G - 1) j))) fun r115 => Option.bind (some (nI (pl (G - 1) k))) fun r116 => if r115 = r116 then J113 else J114) = B (if firN (pl (G - 1)) k (j + 1) = true then nI 1 else nI 0) := by
      intro B
      have e1 : firN (pl (G - 1)) k (j + 1) = (firN (pl (G - 1)) k j && (decide (k ≤ j) || decide (¬ pl (G - 1) j = pl (G - 1) k))) := rfl
      rw [e1, am_let_e, am_let_e]
      cases h1 : firN (pl (G - 1)) k j with
      | false => rw [Bool.false_and, if_pos (by rfl), if_neg (by decide)]
      | true =>
        rw [Bool.true_and, if_neg (by decide), am_let_e]
        by_cases h2 : k ≤ j
        · rw [if_pos (by rw [sI_le (by omega) (by omega)]; exact h2), decide_eq_true h2, Bool.true_or, if_pos rfl]
        · rw [if_neg (by rw [sI_le (by omega) (by omega)]; exact h2), Option.bind_some, Option.bind_some, decide_eq_false h2, Bool.false_or]
          by_cases h3 : pl (G - 1) j = pl (G - 1) k
          · rw [if_pos (by rw [h3]), decide_eq_false (fun h => h h3), if_neg (by decide)]
          · rw [if_neg (by rw [sI_eq (by omega) (by omega)]; exact h3), decide_eq_true h3, if_pos rfl]
    have el : nI (likeN (pl (G - 1)) k j) + nI (if pl (G - 1) j = pl (G - 1) k then 1 else 0) = nI (likeN (pl (G - 1)) k (j + 1)) := by
      rw [sI_add]
      show _ = nI (likeN (pl (G - 1)) k j + (if decide (pl (G - 1) j = pl (G - 1) k) = true then 1 else 0))
      congr 2
      by_cases h : pl (G - 1) j = pl (G - 1) k
      · rw [if_pos h, decide_eq_true h, if_pos rfl]
      · rw [if_neg h, decide_eq_false h, if_neg (by decide)]
    unfold F_L_isSo_B51
    rw [if_neg (by rw [sI_le (by omega) (by omega)]; omega), ej, Option.bind_some, ek, Option.bind_some]
    rw [li_0, li_1, eJ1, am_let_e, el]
    rw [eJ2]
    show _ = rec _ (nI (cntN (aheadB wn k) j + (if aheadB wn k j = true then 1 else 0))) _ _
    unfold aheadB
    by_cases h : wn k < wn j
    · simp (disch := omega) only [if_true, if_false, am_in_n, am_nz_n, am_nzl_n, sI_add, sI_mul, sI_cl, sI_le, sI_lt, sI_eq, sI_l, lN_add, lN_mul, lN_i, sg_gt, sg_le, sg_eq, sg_ge, sI_rem, sI_div, sI_rem2, sL_rem, sL_div, sL_rem2, sI_sub, sI_m1, sI_m1n, sI_or, if_pos, if_neg, Option.bind_some, am_call2_e, am_call3_e, am_call4_e, am_call5_e, am_call6_e, am_call7_e, am_call8_e, am_call9_e, am_call10_e, am_call11_e, am_call12_e, am_call13_e, am_call14_e, li_0, li_1, li_2, li_3, li_4, li_5, li_6, li_7, li_8, li_9, li_10, li_11, li_12, li_13, li_14, li_15, li_16, li_19, li_20, li_21, li_22, li_23, li_32, li_36, li_48, li_50, li_60, li_63, li_74, li_75, li_98, li_99, li_100, li_199, li_200, li_256, li_7919, li_65537, li_1000000, li_1000001, li_10000000, ll_0, ll_1, ll_100, ll_65535, sw j hj, sw k hk, am_let_e, h, decide_true, Bool.true_or]
    · by_cases h2 : wn j = wn k
      · by_cases h3 : j < k
        · simp (disch := omega) only [if_true, if_false, am_in_n, am_nz_n, am_nzl_n, sI_add, sI_mul, sI_cl, sI_le, sI_lt, sI_eq, sI_l, lN_add, lN_mul, lN_i, sg_gt, sg_le, sg_eq, sg_ge, sI_rem, sI_div, sI_rem2, sL_rem, sL_div, sL_rem2, sI_sub, sI_m1, sI_m1n, sI_or, if_pos, if_neg, Option.bind_some, am_call2_e, am_call3_e, am_call4_e, am_call5_e, am_call6_e, am_call7_e, am_call8_e, am_call9_e, am_call10_e, am_call11_e, am_call12_e, am_call13_e, am_call14_e, li_0, li_1, li_2, li_3, li_4, li_5, li_6, li_7, li_8, li_9, li_10, li_11, li_12, li_13, li_14, li_15, li_16, li_19, li_20, li_21, li_22, li_23, li_32, li_36, li_48, li_50, li_60, li_63, li_74, li_75, li_98, li_99, li_100, li_199, li_200, li_256, li_7919, li_65537, li_1000000, li_1000001, li_10000000, ll_0, ll_1, ll_100, ll_65535, sw j hj, sw k hk, am_let_e, h, h2, h3, decide_true, decide_false, Bool.true_or, Bool.false_or, Bool.true_and, Nat.lt_irrefl]
        · simp (disch := omega) only [if_true, if_false, am_in_n, am_nz_n, am_nzl_n, sI_add, sI_mul, sI_cl, sI_le, sI_lt, sI_eq, sI_l, lN_add, lN_mul, lN_i, sg_gt, sg_le, sg_eq, sg_ge, sI_rem, sI_div, sI_rem2, sL_rem, sL_div, sL_rem2, sI_sub, sI_m1, sI_m1n, sI_or, if_pos, if_neg, Option.bind_some, am_call2_e, am_call3_e, am_call4_e, am_call5_e, am_call6_e, am_call7_e, am_call8_e, am_call9_e, am_call10_e, am_call11_e, am_call12_e, am_call13_e, am_call14_e, li_0, li_1, li_2, li_3, li_4, li_5, li_6, li_7, li_8, li_9, li_10, li_11, li_12, li_13, li_14, li_15, li_16, li_19, li_20, li_21, li_22, li_23, li_32, li_36, li_48, li_50, li_60, li_63, li_74, li_75, li_98, li_99, li_100, li_199, li_200, li_256, li_7919, li_65537, li_1000000, li_1000001, li_10000000, ll_0, ll_1, ll_100, ll_65535, sw j hj, sw k hk, am_let_e, h, h2, h3, decide_true, decide_false, Bool.true_or, Bool.false_or, Bool.true_and, Nat.lt_irrefl, Bool.false_eq_true, Nat.add_zero]
      · simp (disch := omega) only [if_true, if_false, am_in_n, am_nz_n, am_nzl_n, sI_add, sI_mul, sI_cl, sI_le, sI_lt, sI_eq, sI_l, lN_add, lN_mul, lN_i, sg_gt, sg_le, sg_eq, sg_ge, sI_rem, sI_div, sI_rem2, sL_rem, sL_div, sL_rem2, sI_sub, sI_m1, sI_m1n, sI_or, if_pos, if_neg, Option.bind_some, am_call2_e, am_call3_e, am_call4_e, am_call5_e, am_call6_e, am_call7_e, am_call8_e, am_call9_e, am_call10_e, am_call11_e, am_call12_e, am_call13_e, am_call14_e, li_0, li_1, li_2, li_3, li_4, li_5, li_6, li_7, li_8, li_9, li_10, li_11, li_12, li_13, li_14, li_15, li_16, li_19, li_20, li_21, li_22, li_23, li_32, li_36, li_48, li_50, li_60, li_63, li_74, li_75, li_98, li_99, li_100, li_199, li_200, li_256, li_7919, li_65537, li_1000000, li_1000001, li_10000000, ll_0, ll_1, ll_100, ll_65535, sw j hj, sw k hk, am_let_e, h, h2, decide_true, decide_false, Bool.true_or, Bool.false_or, Bool.false_and, Bool.false_eq_true, Nat.add_zero]) (by
    rintro rec x y t -
    unfold F_L_isSo_B51
    rw [if_pos (Int32.le_refl _)]) 0 (Nat.zero_le _) am_fuel (by rw [fuelE]; omega) (nI 0) (nI 0) (nI 1) ⟨rfl, rfl, rfl⟩
  rw [e, hx, hy, ht]
end IsSo
