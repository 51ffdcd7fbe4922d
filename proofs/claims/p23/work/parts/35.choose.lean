-- what a scheme chooses
-- points
def faR (w : Nat → Nat) (c p : Nat) : Nat → Nat
  | 0 => 0
  | n + 1 => if p < c * sumN w n then faR w c p n else n
theorem faR_s {w : Nat → Nat} {p c : Nat} : ∀ N, p < c * sumN w N → faR w c p N < N ∧ p < c * sumN w (faR w c p N + 1) ∧ ∀ i, i < faR w c p N → c * sumN w (i + 1) ≤ p
  | 0, h => by have e : sumN w 0 = 0 := rfl
               rw [e, Nat.mul_zero] at h; omega
  | N + 1, h => by
    by_cases h1 : p < c * sumN w N
    · have e : faR w c p (N + 1) = faR w c p N := if_pos h1
      obtain ⟨h2, h3, h4⟩ := faR_s N h1
      rw [e]
      exact ⟨by omega, h3, h4⟩
    · have e : faR w c p (N + 1) = N := if_neg h1
      rw [e]
      refine ⟨by omega, h, fun i hi => ?_⟩
      have h2 : sumN w (i + 1) ≤ sumN w N := sumN_mono (by omega)
      have h3 : c * sumN w (i + 1) ≤ c * sumN w N := Nat.mul_le_mul_left _ h2
      omega
theorem faR_u {w : Nat → Nat} {p c N e : Nat} (he : e < N) (h1 : p < c * sumN w (e + 1)) (h2 : c * sumN w e ≤ p) : faR w c p N = e := by
  have h3 : sumN w (e + 1) ≤ sumN w N := sumN_mono (by omega)
  have h4 : c * sumN w (e + 1) ≤ c * sumN w N := Nat.mul_le_mul_left _ h3
  obtain ⟨g1, g2, g3⟩ := faR_s (w := w) (c := c) (p := p) N (by omega)
  rcases Nat.lt_trichotomy (faR w c p N) e with h | h | h
  · have h5 : sumN w (faR w c p N + 1) ≤ sumN w e := sumN_mono (by omega)
    have h6 : c * sumN w (faR w c p N + 1) ≤ c * sumN w e := Nat.mul_le_mul_left _ h5
    omega
  · exact h
  · have := g3 e h
    omega
def nzk (z : Nat) : Nat → Nat
  | 0 => z
  | k + 1 => (nzk z k * 75 + 74) % 65537
theorem nzk_lt {z : Nat} (h : z < 65537) : ∀ k, nzk z k < 65537
  | 0 => h
  | k + 1 => Nat.mod_lt _ (by omega)
theorem pt_lt {N S k x : Nat} (hk : k < N) (hx : x < S) : k * S + x < N * S := by
  have h1 : (k + 1) * S ≤ N * S := Nat.mul_le_mul_right _ (by omega)
  have h2 : (k + 1) * S = k * S + S := Nat.succ_mul k S
  omega
theorem off_lt {off S : Nat} (h : off ≤ 99) (hS : 0 < S) : off * S / 100 < S := by
  have h1 : off * S ≤ 99 * S := Nat.mul_le_mul_right _ h
  omega
theorem fnoise {z : Nat} (h : z < 65537) : F_X6_noiseBehind (nI z) = some (nI ((z * 75 + 74) % 65537)) := by
  have e : z * 75 + 74 - (z * 75 + 74) / 65537 * 65537 = (z * 75 + 74) % 65537 := by omega
  unfold F_X6_noiseBehind
  simp (disch := omega) only [if_true, if_false, am_let, am_in_n, am_nz_n, am_nzl_n, sI_add, sI_mul, sI_cl, sI_le, sI_lt, sI_eq, sI_l, lN_add, lN_mul, lN_i, sg_gt, sg_le, sg_eq, sg_ge, sI_rem, sI_div, sI_rem2, sL_rem, sL_div, sL_rem2, sI_sub, sI_m1, sI_m1n, sI_or, if_pos, if_neg, Option.bind_some, am_call2_e, am_call3_e, am_call4_e, am_call5_e, am_call6_e, am_call7_e, am_call8_e, am_call9_e, am_call10_e, am_call11_e, am_call12_e, am_call13_e, am_call14_e, li_0, li_1, li_2, li_3, li_4, li_5, li_6, li_7, li_8, li_9, li_10, li_11, li_12, li_13, li_14, li_15, li_16, li_19, li_20, li_21, li_22, li_23, li_32, li_36, li_48, li_50, li_60, li_63, li_74, li_75, li_98, li_99, li_100, li_199, li_200, li_256, li_7919, li_65537, li_1000000, li_1000001, li_10000000, ll_0, ll_1, ll_100, ll_65535, e]
theorem foffsetC {f : Nat → Int32} {N off : Nat} {w : Nat → Nat} (anc : Nat → Int32) (hN : N ≤ 12) (hoff : off ≤ 99) (hw : ∀ k, k < N → f k = nI (w k)) (hb : ∀ k, k < N → w k ≤ 1000000) (hS : 0 < sumN w N) : ∃ a', (∀ k, k < N → a' k = nI (faR w N (k * sumN w N + off * sumN w N / 100) N)) ∧ F_X0_chooseByOffset anc (nI N) f (nI off) = some a' := by
  have hS2 := (sq_le hN hb).1
  have ho := off_lt hoff hS
  have ho2 : off * sumN w N ≤ 99 * 12000000 := Nat.mul_le_mul hoff hS2
  unfold F_X0_chooseByOffset
  rw [fsumC hN hw (fun k hk => by have := hb k hk; omega)]
  simp (disch := omega) only [am_let, li_0, li_1, li_2, li_3, li_4, li_5, li_6, li_7, li_8, li_9, li_10, li_11, li_12, li_13, li_14, li_15, li_16, li_19, li_20, li_21, li_22, li_23, li_32, li_36, li_48, li_50, li_60, li_63, li_74, li_75, li_98, li_99, li_100, li_199, li_200, li_256, li_7919, li_65537, li_1000000, li_1000001, li_10000000, ll_0, ll_1, ll_100, ll_65535, Option.bind_some, sI_l, lN_mul, sL_div]
  exact for2F (b := F_X0_chooseByOffset_B18 (nI N) (fun f3 => some f3) f (lN (sumN w N)) (lN (off * sumN w N / 100))) nI N (fun j a' => ∀ k, k < j → a' k = nI (faR w N (k * sumN w N + off * sumN w N / 100) N)) (fun f3 => some f3) (by
    intro rec a' j hj h
    have hp := pt_lt (N := N) (S := sumN w N) hj ho
    have hq : j * sumN w N ≤ 12 * 12000000 := Nat.mul_le_mul (by omega) hS2
    obtain ⟨g1, g2, g3⟩ := faR_s N hp
    refine ⟨upd a' j (nI (faR w N (j * sumN w N + off * sumN w N / 100) N)), fun k hk => ?_, ?_⟩
    · by_cases hkj : k = j
      · subst hkj; exact upd_s _ _ _
      · rw [upd_n hkj]; exact h k (by omega)
    · unfold F_X0_chooseByOffset_B18
      simp (disch := omega) only [if_true, if_false, am_let, am_in_n, am_nz_n, am_nzl_n, sI_add, sI_mul, sI_cl, sI_le, sI_lt, sI_eq, sI_l, lN_add, lN_mul, lN_i, sg_gt, sg_le, sg_eq, sg_ge, sI_rem, sI_div, sI_rem2, sL_rem, sL_div, sL_rem2, sI_sub, sI_m1, sI_m1n, sI_or, if_pos, if_neg, Option.bind_some, am_call2_e, am_call3_e, am_call4_e, am_call5_e, am_call6_e, am_call7_e, am_call8_e, am_call9_e, am_call10_e, am_call11_e, am_call12_e, am_call13_e, am_call14_e, li_0, li_1, li_2, li_3, li_4, li_5, li_6, li_7, li_8, li_9, li_10, li_11, li_12, li_13, li_14, li_15, li_16, li_19, li_20, li_21, li_22, li_23, li_32, li_36, li_48, li_50, li_60, li_63, li_74, li_75, li_98, li_99, li_100, li_199, li_200, li_256, li_7919, li_65537, li_1000000, li_1000001, li_10000000, ll_0, ll_1, ll_100, ll_65535, ffirst hN g1 hw hb (show j * sumN w N + off * sumN w N / 100 < 1000000000000 by omega) g2 g3]) (by
    intro rec a' h
    unfold F_X0_chooseByOffset_B18
    simp (disch := omega) only [if_true, if_false, am_let, am_in_n, am_nz_n, am_nzl_n, sI_add, sI_mul, sI_cl, sI_le, sI_lt, sI_eq, sI_l, lN_add, lN_mul, lN_i, sg_gt, sg_le, sg_eq, sg_ge, sI_rem, sI_div, sI_rem2, sL_rem, sL_div, sL_rem2, sI_sub, sI_m1, sI_m1n, sI_or, if_pos, if_neg, Option.bind_some, am_call2_e, am_call3_e, am_call4_e, am_call5_e, am_call6_e, am_call7_e, am_call8_e, am_call9_e, am_call10_e, am_call11_e, am_call12_e, am_call13_e, am_call14_e, li_0, li_1, li_2, li_3, li_4, li_5, li_6, li_7, li_8, li_9, li_10, li_11, li_12, li_13, li_14, li_15, li_16, li_19, li_20, li_21, li_22, li_23, li_32, li_36, li_48, li_50, li_60, li_63, li_74, li_75, li_98, li_99, li_100, li_199, li_200, li_256, li_7919, li_65537, li_1000000, li_1000001, li_10000000, ll_0, ll_1, ll_100, ll_65535]) 0 (Nat.zero_le _) am_fuel (by rw [fuelE]; omega) anc (fun k hk => absurd hk (Nat.not_lt_zero k))
theorem fnoisesC {f : Nat → Int32} {N z : Nat} {w : Nat → Nat} (anc : Nat → Int32) (hN : N ≤ 12) (hz : z < 65537) (hw : ∀ k, k < N → f k = nI (w k)) (hb : ∀ k, k < N → w k ≤ 1000000) (hS : 0 < sumN w N) : ∃ a', (∀ k, k < N → a' k = nI (faR w N (k * sumN w N + nzk z (k + 1) % sumN w N) N)) ∧ F_X0_chooseByNoises (nI z) anc (nI N) f = some (nI (nzk z N), a') := by
  have hS2 := (sq_le hN hb).1
  unfold F_X0_chooseByNoises
  rw [fsumC hN hw (fun k hk => by have := hb k hk; omega)]
  simp (disch := omega) only [am_let, li_0, li_1, li_2, li_3, li_4, li_5, li_6, li_7, li_8, li_9, li_10, li_11, li_12, li_13, li_14, li_15, li_16, li_19, li_20, li_21, li_22, li_23, li_32, li_36, li_48, li_50, li_60, li_63, li_74, li_75, li_98, li_99, li_100, li_199, li_200, li_256, li_7919, li_65537, li_1000000, li_1000001, li_10000000, ll_0, ll_1, ll_100, ll_65535, ll_0, Option.bind_some, sg_gt, if_pos]
  obtain ⟨u, a', ⟨h1, h2⟩, e⟩ := for3F (b := F_X0_chooseByNoises_B15 (nI N) (fun u2 f3 => some (u2, f3)) (lN (sumN w N)) f) nI N (fun j u a' => u = nI (nzk z j) ∧ ∀ k, k < j → a' k = nI (faR w N (k * sumN w N + nzk z (k + 1) % sumN w N) N)) (fun u2 f3 => some (u2, f3)) (by
    rintro rec u a' j hj ⟨rfl, h⟩
    have hz1 := nzk_lt hz j
    have hz2 := nzk_lt hz (j + 1)
    have hm : nzk z (j + 1) % sumN w N < sumN w N := Nat.mod_lt _ hS
    have hp := pt_lt (N := N) (S := sumN w N) hj hm
    have hq : j * sumN w N ≤ 12 * 12000000 := Nat.mul_le_mul (by omega) hS2
    have e1 : (nzk z j * 75 + 74) % 65537 = nzk z (j + 1) := rfl
    obtain ⟨g1, g2, g3⟩ := faR_s N hp
    refine ⟨nI (nzk z (j + 1)), upd a' j (nI (faR w N (j * sumN w N + nzk z (j + 1) % sumN w N) N)), ⟨rfl, fun k hk => ?_⟩, ?_⟩
    · by_cases hkj : k = j
      · subst hkj; exact upd_s _ _ _
      · rw [upd_n hkj]; exact h k (by omega)
    · unfold F_X0_chooseByNoises_B15
      simp (disch := omega) only [if_true, if_false, am_let, am_in_n, am_nz_n, am_nzl_n, sI_add, sI_mul, sI_cl, sI_le, sI_lt, sI_eq, sI_l, lN_add, lN_mul, lN_i, sg_gt, sg_le, sg_eq, sg_ge, sI_rem, sI_div, sI_rem2, sL_rem, sL_div, sL_rem2, sI_sub, sI_m1, sI_m1n, sI_or, if_pos, if_neg, Option.bind_some, am_call2_e, am_call3_e, am_call4_e, am_call5_e, am_call6_e, am_call7_e, am_call8_e, am_call9_e, am_call10_e, am_call11_e, am_call12_e, am_call13_e, am_call14_e, li_0, li_1, li_2, li_3, li_4, li_5, li_6, li_7, li_8, li_9, li_10, li_11, li_12, li_13, li_14, li_15, li_16, li_19, li_20, li_21, li_22, li_23, li_32, li_36, li_48, li_50, li_60, li_63, li_74, li_75, li_98, li_99, li_100, li_199, li_200, li_256, li_7919, li_65537, li_1000000, li_1000001, li_10000000, ll_0, ll_1, ll_100, ll_65535, fnoise hz1, e1, ffirst hN g1 hw hb (show j * sumN w N + nzk z (j + 1) % sumN w N < 1000000000000 by omega) g2 g3]) (by
    rintro rec u a' -
    unfold F_X0_chooseByNoises_B15
    simp (disch := omega) only [if_true, if_false, am_let, am_in_n, am_nz_n, am_nzl_n, sI_add, sI_mul, sI_cl, sI_le, sI_lt, sI_eq, sI_l, lN_add, lN_mul, lN_i, sg_gt, sg_le, sg_eq, sg_ge, sI_rem, sI_div, sI_rem2, sL_rem, sL_div, sL_rem2, sI_sub, sI_m1, sI_m1n, sI_or, if_pos, if_neg, Option.bind_some, am_call2_e, am_call3_e, am_call4_e, am_call5_e, am_call6_e, am_call7_e, am_call8_e, am_call9_e, am_call10_e, am_call11_e, am_call12_e, am_call13_e, am_call14_e, li_0, li_1, li_2, li_3, li_4, li_5, li_6, li_7, li_8, li_9, li_10, li_11, li_12, li_13, li_14, li_15, li_16, li_19, li_20, li_21, li_22, li_23, li_32, li_36, li_48, li_50, li_60, li_63, li_74, li_75, li_98, li_99, li_100, li_199, li_200, li_256, li_7919, li_65537, li_1000000, li_1000001, li_10000000, ll_0, ll_1, ll_100, ll_65535]) 0 (Nat.zero_le _) am_fuel (by rw [fuelE]; omega) (nI z) anc ⟨rfl, fun k hk => absurd hk (Nat.not_lt_zero k)⟩
  exact ⟨a', h2, by rw [e, h1]⟩
