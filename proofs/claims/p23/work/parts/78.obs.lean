-- the law's observation; all acts
theorem cnt_pos {p : Nat → Bool} {n x : Nat} (hx : x < n) (h : p x = true) : 0 < cntN p n := by
  have h1 := cnt_strict (p := fun _ => false) (q := p) n hx rfl h (fun k _ e => by cases e)
  omega
section Obs2
variable {N G z th sc of y way : Nat} {wn : Nat → Nat} {pl pa : Nat → Nat → Nat} {g w q : Nat → Int32} {c : Nat → Int64} {p5 : Int32}
theorem place_of (hL : LSt N G z th sc of wn pl pa g w c) {k : Nat} (hk : k < N) : F_L_place g c (nI k) = some (nI (pl (G - 1) k)) := by
  obtain ⟨⟨n0, n1, g0, g1, hz, hth, hsc, hof⟩, ⟨s0, s1, s2, s5, s6, s7⟩, ⟨sw, swb, sS⟩, ⟨splb, spab⟩, hC⟩ := hL
  refine l_place s1 g0 g1 (by omega) (splb _ _ (by omega) hk) ?_ (hC (G - 1) k (by omega) hk)
  by_cases h : G - 1 = 0
  · rw [if_pos h]
    omega
  · rw [if_neg h]
    have := spab (G - 1) k (by omega) (by omega) hk
    omega
theorem l_seen (hL : LSt N G z th sc of wn pl pa g w c) {a b : Nat} (ha : a ≤ 99) (hb1 : 1 ≤ b) (hb : b ≤ 99) : ∃ f', (∀ k, k < N → f' k = nI (seenN pl G a b wn k)) ∧ ∀ K : (Nat → Int32) → Option AR, am_loop2 (F_L_acts_B533 g K c (nI b) w (nI a)) am_fuel (nI 0) zI = K f' := by
  have hL' := hL
  obtain ⟨⟨n0, n1, g0, g1, hz, hth, hsc, hof⟩, ⟨s0, s1, s2, s5, s6, s7⟩, ⟨sw, swb, sS⟩, ⟨splb, spab⟩, hC⟩ := hL'
  obtain ⟨v, hv⟩ : ∃ v, v = seenN pl G a b wn := ⟨_, rfl⟩
  refine ⟨fun i => if i < N then nI (v i) else zI i, fun k hk => ?_, fun K => ?_⟩
  · show (if k < N then nI (v k) else zI k) = _
    rw [if_pos hk, hv]
  obtain ⟨f, h1, e⟩ := for2F (b := F_L_acts_B533 g K c (nI b) w (nI a)) nI N (fun j f => f = fun i => if i < j then nI (v i) else zI i) K (by
    rintro rec f j hj rfl
    have e1 := place_of hL hj
    have hp := splb (G - 1) j (by omega) hj
    have hwj := swb j hj
    have hu : upd (fun i => if i < j then nI (v i) else zI i) j (nI (v j)) = fun i => if i < j + 1 then nI (v i) else zI i := by
      funext i
      show _ = (if i < j + 1 then nI (v i) else zI i)
      by_cases h : i = j
      · subst h; rw [upd_s, if_pos (by omega)]
      · rw [upd_n h]
        by_cases h2 : i < j
        · rw [if_pos h2, if_pos (by omega)]
        · rw [if_neg h2, if_neg (by omega)]
    have eJ : ∀ (B : Int32 → Option AR), am_let B (fun J => if nI a ≤ nI (pl (G - 1) j) then J (nI (pl (G - 1) j) - nI a) else J (nI a - nI (pl (G - 1) j))) = B (nI (apartN (pl (G - 1) j) a)) := by
      intro B
      unfold apartN
      by_cases h : a ≤ pl (G - 1) j
      · rw [am_let_e, if_pos (by rw [sI_le (by omega) (by omega)]; exact h), if_pos h, sI_sub h]
      · rw [am_let_e, if_neg (by rw [sI_le (by omega) (by omega)]; exact h), if_neg h, sI_sub (by omega)]
    have hap : apartN (pl (G - 1) j) a ≤ 99 := by unfold apartN; split <;> omega
    refine ⟨_, rfl, ?_⟩
    rw [← hu]
    generalize (fun i => if i < j then nI (v i) else zI i) = f
    unfold F_L_acts_B533
    simp (disch := omega) only [li_0, li_1, li_2, li_3, li_4, li_5, li_6, li_7, li_8, li_9, li_10, li_11, li_12, li_13, li_14, li_15, li_16, li_19, li_20, li_21, li_22, li_23, li_32, li_36, li_48, li_50, li_60, li_63, li_74, li_75, li_98, li_99, li_100, li_199, li_200, li_256, li_7919, li_65537, li_1000000, li_1000001, li_10000000, ll_0, ll_1, ll_100, ll_65535, sI_cl, s0, sI_le, if_neg]
    rw [e1, Option.bind_some]
    simp only [Option.bind_some]
    rw [eJ]
    have es : v j = wn j * (b - apartN (pl (G - 1) j) a) := by rw [hv]; rfl
    by_cases hd : b ≤ apartN (pl (G - 1) j) a
    · have e0 : b - apartN (pl (G - 1) j) a = 0 := by omega
      rw [es, e0, Nat.mul_zero]
      simp (disch := omega) only [sI_le, if_pos, am_in_n, sI_cl, am_let_e, sI_add]
    · rw [es, Nat.mul_comm]
      simp (disch := omega) only [sI_le, if_neg, am_in_n, sI_cl, am_let_e, sI_add, sI_sub, sw j hj, sI_mul]) (by
    intro rec f _
    unfold F_L_acts_B533
    simp (disch := omega) only [li_0, li_1, li_2, li_3, li_4, li_5, li_6, li_7, li_8, li_9, li_10, li_11, li_12, li_13, li_14, li_15, li_16, li_19, li_20, li_21, li_22, li_23, li_32, li_36, li_48, li_50, li_60, li_63, li_74, li_75, li_98, li_99, li_100, li_199, li_200, li_256, li_7919, li_65537, li_1000000, li_1000001, li_10000000, ll_0, ll_1, ll_100, ll_65535, sI_cl, s0, sI_le, if_pos]) 0 (Nat.zero_le _) am_fuel (by rw [fuelE]; omega) zI (by funext i; rw [if_neg (Nat.not_lt_zero i)])
  rw [e, h1]
theorem l_copy {f23 : Nat → Int32} {v : Nat → Nat} (h0 : g 0 = nI N) (n1 : N ≤ 12) (hf : ∀ k, k < N → f23 k = nI (v k)) : ∃ f', (∀ k, k < N → f' k = nI (v k)) ∧ ∀ K : (Nat → Int32) → Option AR, am_loop2 (F_L_acts_B694 g K f23) am_fuel (nI 0) w = K f' := by
  refine ⟨fun i => if i < N then nI (v i) else w i, fun k hk => if_pos hk, fun K => ?_⟩
  obtain ⟨f, h1, e⟩ := for2F (b := F_L_acts_B694 g K f23) nI N (fun j f => f = fun i => if i < j then nI (v i) else w i) K (by
    rintro rec f j hj rfl
    have hu : upd (fun i => if i < j then nI (v i) else w i) j (nI (v j)) = fun i => if i < j + 1 then nI (v i) else w i := by
      funext i
      show _ = (if i < j + 1 then nI (v i) else w i)
      by_cases h : i = j
      · subst h; rw [upd_s, if_pos (by omega)]
      · rw [upd_n h]
        by_cases h2 : i < j
        · rw [if_pos h2, if_pos (by omega)]
        · rw [if_neg h2, if_neg (by omega)]
    refine ⟨_, rfl, ?_⟩
    rw [← hu]
    generalize (fun i => if i < j then nI (v i) else w i) = f
    unfold F_L_acts_B694
    simp (disch := omega) only [if_true, if_false, am_let, am_in_n, am_nz_n, am_nzl_n, sI_add, sI_mul, sI_cl, sI_le, sI_lt, sI_eq, sI_l, lN_add, lN_mul, lN_i, sg_gt, sg_le, sg_eq, sg_ge, sI_rem, sI_div, sI_rem2, sL_rem, sL_div, sL_rem2, sI_sub, sI_m1, sI_m1n, sI_or, if_pos, if_neg, Option.bind_some, am_call2_e, am_call3_e, am_call4_e, am_call5_e, am_call6_e, am_call7_e, am_call8_e, am_call9_e, am_call10_e, am_call11_e, am_call12_e, am_call13_e, am_call14_e, li_0, li_1, li_2, li_3, li_4, li_5, li_6, li_7, li_8, li_9, li_10, li_11, li_12, li_13, li_14, li_15, li_16, li_19, li_20, li_21, li_22, li_23, li_32, li_36, li_48, li_50, li_60, li_63, li_74, li_75, li_98, li_99, li_100, li_199, li_200, li_256, li_7919, li_65537, li_1000000, li_1000001, li_10000000, ll_0, ll_1, ll_100, ll_65535, h0, hf j hj]) (by
    intro rec f _
    unfold F_L_acts_B694
    simp (disch := omega) only [if_true, if_false, am_let, am_in_n, am_nz_n, am_nzl_n, sI_add, sI_mul, sI_cl, sI_le, sI_lt, sI_eq, sI_l, lN_add, lN_mul, lN_i, sg_gt, sg_le, sg_eq, sg_ge, sI_rem, sI_div, sI_rem2, sL_rem, sL_div, sL_rem2, sI_sub, sI_m1, sI_m1n, sI_or, if_pos, if_neg, Option.bind_some, am_call2_e, am_call3_e, am_call4_e, am_call5_e, am_call6_e, am_call7_e, am_call8_e, am_call9_e, am_call10_e, am_call11_e, am_call12_e, am_call13_e, am_call14_e, li_0, li_1, li_2, li_3, li_4, li_5, li_6, li_7, li_8, li_9, li_10, li_11, li_12, li_13, li_14, li_15, li_16, li_19, li_20, li_21, li_22, li_23, li_32, li_36, li_48, li_50, li_60, li_63, li_74, li_75, li_98, li_99, li_100, li_199, li_200, li_256, li_7919, li_65537, li_1000000, li_1000001, li_10000000, ll_0, ll_1, ll_100, ll_65535, h0]) 0 (Nat.zero_le _) am_fuel (by rw [fuelE]; omega) w (by funext i; rw [if_neg (Nat.not_lt_zero i)])
  rw [e, h1]
theorem max_0 {v : Nat → Nat} {N : Nat} : maxN (fun k => v k / gcdN v N) N = 0 ↔ gcdN v N = 0 := by
  constructor
  · intro h
    rcases Nat.eq_zero_or_pos (gcdN v N) with h0 | h0
    · exact h0
    · have h1 := div_sum_pos h0
      have h2 : sumN (fun k => v k / gcdN v N) N = 0 := (sumN_0 N).mpr (fun k hk => by
        have h4 := le_maxN (w := fun k => v k / gcdN v N) N k hk
        rw [h] at h4
        exact Nat.le_zero.mp h4)
      omega
  · intro h
    have : maxN (fun k => v k / gcdN v N) N ≤ 0 := maxN_le N (fun k _ => by show v k / gcdN v N ≤ 0; rw [h, Nat.div_zero]; omega)
    omega
theorem act_observe (hL : LSt N G z th sc of wn pl pa g w c) (hy : y < 10000000) (hway : way < 22) (e1 : F_L_low (p5 >>> ((5 : Int32) &&& 31)) (10000000 : Int32) = some (nI y)) (e2 : F_L_low p5 (22 : Int32) = some (nI way)) (h9 : 9 ≤ way) (h16 : way < 16) : ActOk N G pl pa g w q c p5 := by
  have hL' := hL
  obtain ⟨⟨n0, n1, g0, g1, hz, hth, hsc, hof⟩, ⟨s0, s1, s2, s5, s6, s7⟩, ⟨sw, swb, sS⟩, ⟨splb, spab⟩, hC⟩ := hL'
  obtain ⟨i, hi', hi⟩ : ∃ i, i = y / 4 % N ∧ i < N := ⟨_, rfl, Nat.mod_lt _ n0⟩
  obtain ⟨a, ha, eJ⟩ : ∃ a, a ≤ 99 ∧ ∀ (B : Int32 → Option AR), am_let B (fun J => if nI (y % 4) = nI 0 then J (nI (y / 4 % 100)) else Option.bind (F_L_place g c (nI i)) fun r57 => J r57) = B (nI a) := by
    have hp := splb (G - 1) i (by omega) hi
    by_cases h : y % 4 = 0
    · exact ⟨_, (by omega : y / 4 % 100 ≤ 99), fun B => by rw [am_let_e, if_pos (by rw [h])]⟩
    · exact ⟨_, hp, fun B => by rw [am_let_e, if_neg (by rw [sI_eq (by omega) (by omega)]; exact h), place_of hL hi, Option.bind_some]⟩
  obtain ⟨b, hb', hb1, hb⟩ : ∃ b, b = 1 + y / 48 % 99 ∧ 1 ≤ b ∧ b ≤ 99 := ⟨_, rfl, by omega, by omega⟩
  obtain ⟨v, hv⟩ : ∃ v, v = seenN pl G a b wn := ⟨_, rfl⟩
  have hvb : ∀ k, k < N → v k ≤ 99000000 := fun k hk => by rw [hv]; exact seen_le (swb k hk) hb
  have hvb2 : ∀ k, k < N → v k < 2147483648 := fun k hk => by have := hvb k hk; omega
  obtain ⟨w', hw'⟩ : ∃ w' : Nat → Nat, w' = fun k => v k / gcdN v N := ⟨_, rfl⟩
  have hwb2 : ∀ k, k < N → w' k ≤ 99000000 := fun k hk => by rw [hw']; exact Nat.le_trans (Nat.div_le_self _ _) (hvb k hk)
  have hM : maxN w' N ≤ 99000000 := maxN_le N hwb2
  have hM0 : maxN w' N = 0 ↔ gcdN v N = 0 := by rw [hw']; exact max_0
  have hw'' : w' = fun k => seenN pl G a b wn k / gcdN (seenN pl G a b wn) N := by rw [hw', hv]
  obtain ⟨f', hf, ef⟩ := l_seen hL ha hb1 hb
  obtain ⟨f23, hf23, et⟩ := l_thins (w := f') (v := v) s0 n1 (fun k hk => by rw [hv]; exact hf k hk) hvb2
  have hf23' : ∀ k, k < N → f23 k = nI (w' k) := fun k hk => by rw [hw']; exact hf23 k hk
  obtain ⟨f27, hf27, ec⟩ := l_copy (w := w) s0 n1 hf23'
  -- the way to the test of the greatest weight
  have start : ∀ KO X, (if nI (maxN w' N) = nI 0 then (Option.bind (KO (nI 3) (nI a) (nI b) (nI 0)) fun (r44 : Int32) => (if r44 = (-1000002 : Int32) then some (nI 1, g, w, q, c) else some (nI 0, g, w, q, c))) else am_let ((Option.bind (KO (nI 3) (nI a) (nI b) (nI 0)) fun (r25 : Int32) => (if r25 = (-1000003 : Int32) then some (nI 1, g, w, q, c) else some (nI 0, g, w, q, c)))) fun (J24 : Option AR) => (if nI 1000000 < nI (maxN w' N) then J24 else am_let (am_let (fun (f27 : Nat → Int32) => (Option.bind (F_L_counts g f27) fun (r29 : Int32) => am_let (upd g 3 (g 3 + nI 1)) fun (f30 : Nat → Int32) => (if f30 5 ≤ r29 then (Option.bind (KO (nI 3) (nI a) (nI b) (nI 0)) fun (r31 : Int32) => (if r31 = r29 then some (nI 1, f30, f27, q, c) else some (nI 0, f30, f27, q, c))) else (am_call5 (F_L_again f30 f27 q c) fun (r32 : Int32) (f33 : Nat → Int32) (f34 : Nat → Int32) (f35 : Nat → Int32) (f36 : Nat → Int64) => (Option.bind (KO (nI 3) (nI a) (nI b) (nI 0)) fun (r37 : Int32) => (if r37 = r29 then (if r32 ≤ nI 0 then some (nI 0, f33, f34, f35, f36) else some (nI 1, f33, f34, f35, f36)) else some (nI 0, f33, f34, f35, f36))))))) fun (K28 : (Nat → Int32) → Option AR) => am_loop2 (F_L_acts_B694 g K28 f23) am_fuel (nI 0) w) fun (J26 : Option AR) => (if nI G = nI 20 then (Option.bind (F_L_counts g f23) fun (r43 : Int32) => (if nI th ≤ r43 then J26 else J24)) else J26))) = X → F_L_acts KO g w q c p5 = X := by
    intro KO X hX
    unfold F_L_acts
    rw [e1, e2, Option.bind_some, Option.bind_some, am_let_e, noBegin hy hway (fun h => by omega), if_pos (by rw [li_4, sI_le (by omega) (by omega)]; omega), if_pos (by rw [li_9, sI_le (by omega) (by omega)]; omega), if_neg (by rw [li_16, sI_le (by omega) (by omega)]; omega)]
    simp (disch := omega) only [li_0, li_1, li_2, li_3, li_4, li_5, li_6, li_7, li_8, li_9, li_10, li_11, li_12, li_13, li_14, li_15, li_16, li_19, li_20, li_21, li_22, li_23, li_32, li_36, li_48, li_50, li_60, li_63, li_74, li_75, li_98, li_99, li_100, li_199, li_200, li_256, li_7919, li_65537, li_1000000, li_1000001, li_10000000, ll_0, ll_1, ll_100, ll_65535, sI_div, sI_mul, sI_rem2, sI_cl, s0, s1, s5, am_nz_n, sI_add]
    rw [← hi', eJ, ← hb', am_let_e, am_let_e, ef, et, am_call2_e, ← hw']
    exact hX
  by_cases z0 : gcdN v N = 0
  · refine act_fin (kd := nI 3) (p0 := nI a) (p1 := nI b) (p2 := nI 0) (ans := -1000002) (g' := g) (w' := w) (q' := q) (c' := c) (start _ _ ?_) hL (os_obs_np n0 n1 g0 g1 ha hb1 hb sw swb splb (by rw [← hv]; exact z0))
    rw [if_pos (by rw [hM0.mpr z0]), kOne_e, Option.bind_some, if_pos rfl]
  · have z1 : 0 < gcdN (seenN pl G a b wn) N := by rw [← hv]; omega
    have hMn : ¬ nI (maxN w' N) = nI 0 := by rw [sI_eq (by omega) (by omega), hM0]; exact z0
    have hS' : 0 < sumN w' N := by rw [hw'']; exact div_sum_pos z1
    by_cases hM1 : maxN w' N ≤ 1000000
    · have hMl : ¬ nI 1000000 < nI (maxN w' N) := by rw [sI_lt (by omega) (by omega)]; omega
      have hwb : ∀ k, k < N → w' k ≤ 1000000 := fun k hk => Nat.le_trans (le_maxN N k hk) hM1
      have hE2 : effN w' N ≤ 144 := eff_le (w := w') n0 n1
      have eC : ∀ f : Nat → Int32, (∀ k, k < N → f k = nI (w' k)) → F_L_counts g f = some (nI (effN w' N)) := fun f hf => l_counts s0 n1 hf hwb hS'
      have hL3 : LSt N G z th sc of w' pl pa (upd g 3 (g 3 + nI 1)) f27 c := ⟨⟨n0, n1, g0, g1, hz, hth, hsc, hof⟩, ⟨by rw [upd_n (by omega)]; exact s0, by rw [upd_n (by omega)]; exact s1, by rw [upd_n (by omega)]; exact s2, by rw [upd_n (by omega)]; exact s5, by rw [upd_n (by omega)]; exact s6, by rw [upd_n (by omega)]; exact s7⟩, ⟨hf27, hwb, hS'⟩, ⟨splb, spab⟩, hC⟩
      have u5 : upd g 3 (g 3 + nI 1) 5 = nI th := by rw [upd_n (by omega)]; exact s5
      by_cases hE : th ≤ effN w' N
      · have hA : ∀ A B : Option AR, (if nI G = nI 20 then (Option.bind (F_L_counts g f23) fun (r43 : Int32) => (if nI th ≤ r43 then A else B)) else A) = A := by
          intro A B
          by_cases hG : G = 20
          · rw [if_pos (by rw [hG]), eC f23 hf23', Option.bind_some, if_pos (by rw [sI_le (by omega) (by omega)]; exact hE)]
          · rw [if_neg (by rw [sI_eq (by omega) (by omega)]; exact hG)]
        refine act_fin (kd := nI 3) (p0 := nI a) (p1 := nI b) (p2 := nI 0) (ans := nI (effN w' N)) (g' := upd g 3 (g 3 + nI 1)) (w' := f27) (q' := q) (c' := c) (start _ _ ?_) hL3 (os_obs_ok n0 n1 g0 g1 ha hb1 hb hth s5 sw swb splb z1 hw'' hM1 hE (upd_s _ _ _) (fun i hi => upd_n hi) hf27)
        rw [if_neg hMn, am_let_e, if_neg hMl, am_let_e, hA, am_let_e, ec, eC f27 hf27, Option.bind_some, am_let_e, if_pos (by rw [u5, sI_le (by omega) (by omega)]; exact hE), kOne_e, Option.bind_some, if_pos rfl]
      · by_cases hG20 : G = 20
        · refine act_fin (kd := nI 3) (p0 := nI a) (p1 := nI b) (p2 := nI 0) (ans := -1000003) (g' := g) (w' := w) (q' := q) (c' := c) (start _ _ ?_) hL (os_obs_lim n0 n1 g0 g1 ha hb1 hb hth s5 sw swb splb z1 hw'' (Or.inr ⟨hG20, hM1, by omega⟩))
          rw [if_neg hMn, am_let_e, if_neg hMl, am_let_e, if_pos (by rw [hG20]), eC f23 hf23', Option.bind_some, if_neg (by rw [sI_le (by omega) (by omega)]; exact hE), kOne_e, Option.bind_some, if_pos rfl]
        · have hG : G < 20 := by omega
          obtain ⟨g', w2, q', c', ea, hL4, ⟨k3, k4⟩, kq, kq0, kq2⟩ := l_again q hL3 hG
          have hL5 := hL4
          obtain ⟨-, ⟨t0, t1, t2, t5, t6, t7⟩, ⟨tw, -⟩, -⟩ := hL5
          have hc0 : 0 < cntN (fun b => (maskN (chW sc of N w' z) N).testBit b) 12 := cnt_pos (x := chW sc of N w' z 0) (by have := chW_lt (sch := sc) (z := z) hof hS' n0; omega) (mask_bit.mpr ⟨0, n0, rfl⟩)
          have hc1 : cntN (fun b => (maskN (chW sc of N w' z) N).testBit b) 12 ≤ 12 := cntN_le 12
          refine act_fin (kd := nI 3) (p0 := nI a) (p1 := nI b) (p2 := nI 0) (ans := nI (effN w' N)) (start _ _ ?_) hL4 (os_obs_re hz hsc hof n0 n1 g0 hG ha hb1 hb hth s2 s5 s6 s7 sw swb splb spab z1 hw'' hM1 (by omega) t2 (k3.trans (upd_s _ _ _)) (k4.trans (by rw [upd_n (by omega)])) (t5.trans s5.symm) (t6.trans s6.symm) (t7.trans s7.symm) tw kq kq0 kq2)
          rw [if_neg hMn, am_let_e, if_neg hMl, am_let_e, if_neg (by rw [sI_eq (by omega) (by omega)]; exact hG20), am_let_e, ec, eC f27 hf27, Option.bind_some, am_let_e, if_neg (by rw [u5, sI_le (by omega) (by omega)]; exact hE), ea, am_call5_e, kOne_e, Option.bind_some, if_pos rfl, if_neg (by rw [sI_le (by omega) (by omega)]; omega)]
    · refine act_fin (kd := nI 3) (p0 := nI a) (p1 := nI b) (p2 := nI 0) (ans := -1000003) (g' := g) (w' := w) (q' := q) (c' := c) (start _ _ ?_) hL (os_obs_lim n0 n1 g0 g1 ha hb1 hb hth s5 sw swb splb z1 hw'' (Or.inl (by omega)))
      rw [if_neg hMn, am_let_e, if_pos (by rw [sI_lt (by omega) (by omega)]; omega), kOne_e, Option.bind_some, if_pos rfl]
theorem acts_ok (hL : LSt N G z th sc of wn pl pa g w c) (q : Nat → Int32) (p5 : Int32) : ActOk N G pl pa g w q c p5 := by
  obtain ⟨y, hy, e1⟩ := l_low (p5 >>> ((5 : Int32) &&& 31)) (m := 10000000) (by omega) (by omega)
  obtain ⟨way, hw, e2⟩ := l_low p5 (m := 22) (by omega) (by omega)
  by_cases hb : way = 0 ∧ y % 3 = 0
  · obtain ⟨rfl, h3⟩ := hb
    exact act_begin hL hy e1 e2 h3
  · by_cases h4 : way < 4
    · exact act_weigh hL hy hw e1 e2 hb h4
    · by_cases h9 : way < 9
      · exact act_move hL hy hw e1 e2 (by omega) h9
      · by_cases h16 : way < 16
        · exact act_observe hL hy hw e1 e2 (by omega) h16
        · by_cases h19 : way < 19
          · exact act_resample hL hy hw e1 e2 (by omega) h19
          · exact act_set hL hy hw e1 e2 (by omega)
end Obs2
