-- a weight set
theorem sum_upd {w : Nat → Nat} {i v : Nat} : ∀ N, i < N → sumN (fun k => if k = i then v else w k) N + w i = sumN w N + v
  | 0, h => absurd h (Nat.not_lt_zero i)
  | N + 1, h => by
    show sumN (fun k => if k = i then v else w k) N + (if N = i then v else w N) + w i = sumN w N + w N + v
    by_cases hN : N = i
    · subst hN
      rw [if_pos rfl, sumN_congr (v := w) N (fun k hk => if_neg (by omega))]
      omega
    · have := sum_upd (w := w) (i := i) (v := v) N (by omega)
      rw [if_neg hN]
      omega
theorem gcd_pos_of {w : Nat → Nat} {N : Nat} (h : 0 < sumN w N) : 0 < gcdN w N := by
  apply Nat.pos_of_ne_zero
  intro h0
  have := (sumN_0 N).mpr ((gcdN_0 N).mp h0)
  omega
theorem gcd_zero_of {w : Nat → Nat} {N : Nat} (h : sumN w N = 0) : gcdN w N = 0 := (gcdN_0 N).mpr ((sumN_0 N).mp h)
theorem div_sum_pos {w : Nat → Nat} {N : Nat} (h : 0 < gcdN w N) : 0 < sumN (fun k => w k / gcdN w N) N := by
  apply Nat.pos_of_ne_zero
  intro h0
  have h1 := (sumN_0 (w := fun k => w k / gcdN w N) N).mp h0
  have h2 : gcdN w N = 0 := by
    rw [gcdN_0]
    intro k hk
    have h3 := h1 k hk
    have h4 := Nat.div_mul_cancel (gcdN_dvd (w := w) N k hk)
    have h3' : w k / gcdN w N = 0 := h3
    rw [h3', Nat.zero_mul] at h4
    exact h4.symm
  omega
section Weigh
variable {N G z th sc of : Nat} {w : Nat → Nat} {pl pa : Nat → Nat → Nat} {s : Nat → Int32} {noi obs res lmany lgens : Int32} {lplf lpaf logf ldrf lspf lscf : Nat → Int32} {wmany : Int32} {wf sf : Nat → Int32}
-- other weights alone
theorem good_w (hG : Good N G z th sc of w pl pa s) {s' : Nat → Int32} {w' : Nat → Nat} (hs : ∀ i, i < 8 ∨ 8 + N ≤ i → s' i = s i) (hw : ∀ k, k < N → s' (8 + k) = nI (w' k)) (hb : ∀ k, k < N → w' k ≤ 1000000) (hS : 0 < sumN w' N) : Good N G z th sc of w' pl pa s' := by
  obtain ⟨⟨n0, n1, g0, g1, hz, hth, hsc, hof⟩, ⟨s0, s1, s2, s5, s6, s7⟩, -, ⟨spl, splb⟩, spa, spab, sp0⟩ := hG
  exact ⟨⟨n0, n1, g0, g1, hz, hth, hsc, hof⟩, ⟨by rw [hs _ (by omega)]; exact s0, by rw [hs _ (by omega)]; exact s1, by rw [hs _ (by omega)]; exact s2, by rw [hs _ (by omega)]; exact s5, by rw [hs _ (by omega)]; exact s6, by rw [hs _ (by omega)]; exact s7⟩, ⟨hw, hb, hS⟩, ⟨fun g k hg hk => by rw [hs _ (by omega)]; exact spl g k hg hk, splb⟩, fun g k h0 hg hk => by rw [hs _ (by omega)]; exact spa g k h0 hg hk, spab, fun k hk => by rw [hs _ (by omega)]; exact sp0 k hk⟩
theorem rel_w (hN : N ≤ 12) (hR : Rel N G noi obs res lmany lgens lplf lpaf logf ldrf lspf lscf wmany wf sf s) {s' wf' : Nat → Int32} (hs : ∀ i, i < 8 ∨ 8 + N ≤ i → s' i = s i) (hw : ∀ k, k < N → wf' k = s' (8 + k)) : Rel N G noi obs res lmany lgens lplf lpaf logf ldrf lspf lscf wmany wf' sf s' := by
  obtain ⟨⟨r0, r1, r2, r3, r4, r4', r5, r6, r7⟩, rw_, rg, rpl, rpa⟩ := hR
  refine ⟨⟨r0, r1, r2, by rw [hs _ (by omega)]; exact r3, by rw [hs _ (by omega)]; exact r4, by rw [hs _ (by omega)]; exact r4', by rw [hs _ (by omega)]; exact r5, by rw [hs _ (by omega)]; exact r6, by rw [hs _ (by omega)]; exact r7⟩, hw, fun g hg => ?_, fun g k hg hk => by rw [hs _ (by omega)]; exact rpl g k hg hk, fun g k h0 hg hk => by rw [hs _ (by omega)]; exact rpa g k h0 hg hk⟩
  rw [hs _ (by omega), hs _ (by omega), hs _ (by omega), hs _ (by omega)]
  exact rg g hg
theorem o_weigh (hG : Good N G z th sc of w pl pa s) (hR : Rel N G noi obs res lmany lgens lplf lpaf logf ldrf lspf lscf wmany wf sf s) {mpasts mruns up : Int32} {mpast fp : Nat → Int32} (hc : F_X7_changes mpasts mruns s mpast = some (up, fp)) (p0 p1 : Int32) : ∃ r wf', F_X4_changeWeight lmany wmany wf p0 p1 = some (r, wf') ∧ ((¬ 0 ≤ r ∧ F_X7_weigh mpasts mruns s mpast p0 p1 = some (r, mpasts, s, mpast)) ∨ (0 ≤ r ∧ ∃ w' s', F_X7_weigh mpasts mruns s mpast p0 p1 = some (r, up, s', fp) ∧ Good N G z th sc of w' pl pa s' ∧ Rel N G noi obs res lmany lgens lplf lpaf logf ldrf lspf lscf wmany wf' sf s')) := by
  have hG' := hG
  have hR' := hR
  obtain ⟨⟨n0, n1, g0, g1, hz, hth, hsc, hof⟩, ⟨s0, s1, s2, s5, s6, s7⟩, ⟨sw, swb, sS⟩, -, -⟩ := hG'
  obtain ⟨⟨rfl, rfl, rfl, rfl, rfl, rfl, r5, r6, r7⟩, rw_, rg, rpl, rpa⟩ := hR'
  have hS2 := (sq_le n1 swb).1
  unfold F_X4_changeWeight F_X7_weigh
  rcases hasP p0 n0 n1 with ⟨i, hi, rfl, c1, c2⟩ | ⟨c1, c2⟩
  · rw [c1, c2 s s0, inEq]
    rcases inN p1 (a := 0) (b := 1000000) (by omega) (by omega) with ⟨v, -, hv, rfl, d1⟩ | ⟨-, d1⟩
    · obtain ⟨w1, hw1⟩ : ∃ w1 : Nat → Nat, w1 = fun k => if k = i then v else w k := ⟨_, rfl⟩
      have hsum : sumN w1 N + w i = sumN w N + v := by rw [hw1]; exact sum_upd N hi
      have hwi : w i ≤ sumN w N := by
        have h1 : sumN w (i + 1) ≤ sumN w N := sumN_mono (by omega)
        have h2 : sumN w (i + 1) = sumN w i + w i := rfl
        omega
      have hb1 : ∀ k, k < N → w1 k ≤ 1000000 := fun k hk => by
        rw [hw1]
        show (if k = i then v else w k) ≤ _
        split
        · exact hv
        · exact swb k hk
      have hb2 : ∀ k, k < N → w1 k < 2147483648 := fun k hk => by have := hb1 k hk; omega
      have hf1 : ∀ k, k < N → upd wf i (nI v) k = nI (w1 k) := fun k hk => by
        rw [hw1]
        show _ = nI (if k = i then v else w k)
        by_cases h : k = i
        · subst h; rw [upd_s, if_pos rfl]
        · rw [upd_n h, if_neg h, rw_ k hk, sw k hk]
      have hs1 : ∀ k, k < N → upd s (8 + i) (nI v) (8 + k) = nI (w1 k) := fun k hk => by
        rw [hw1]
        show _ = nI (if k = i then v else w k)
        by_cases h : k = i
        · subst h; rw [upd_s, if_pos rfl]
        · rw [upd_n (by omega), if_neg h, sw k hk]
      have hs0 : upd s (8 + i) (nI v) 0 = nI N := by rw [upd_n (by omega)]; exact s0
      have e1 : v + sumN w N - w i = sumN w1 N := by omega
      simp only [am_let]
      simp (disch := omega) only [li_0, li_1, li_2, li_3, li_4, li_5, li_6, li_7, li_8, li_9, li_10, li_12, li_16, li_20, li_21, li_22, li_32, li_33, li_44, li_45, li_48, li_57, li_59, li_60, li_63, li_74, li_75, li_99, li_100, li_109, li_111, li_114, li_126, li_200, li_340, li_580, li_1740, li_65537, li_1000000, ll_0, ll_1, ll_100, d1, Option.bind_some, sI_eq, if_neg, fputWeight (f := wf) (v := nI v) (show i < 12 by omega), fsumM s0 n1 sw, sI_add, am_in_n, sI_cl, sw i hi, sI_sub, e1]
      by_cases hz1 : sumN w1 N = 0
      · refine ⟨-1000002, upd wf i (nI v), ?_, Or.inl ⟨np_neg, ?_⟩⟩
        · rw [freduce0 n1 hf1 hb2 (gcd_zero_of hz1)]
          simp (disch := omega) only [am_call2_e, if_true]
        · simp (disch := omega) only [hz1, sI_eq, if_true]
      · have hg := gcd_pos_of (w := w1) (N := N) (by omega)
        obtain ⟨f', a1, a2⟩ := freduce1 n1 hf1 hb2 hg
        obtain ⟨s', b1, b2, b3⟩ := fdivides1 hs0 n1 hs1 hb2 hg
        have hdiv : ∀ k, k < N → w1 k / gcdN w1 N ≤ 1000000 := fun k hk => Nat.le_trans (Nat.div_le_self _ _) (hb1 k hk)
        have hs' : ∀ j, j < 8 ∨ 8 + N ≤ j → s' j = s j := fun j hj => by rw [b2 j hj, upd_n (by omega)]
        have hdi := hdiv i hi
        refine ⟨nI (w1 i / gcdN w1 N), f', ?_, Or.inr ⟨nI_nn (by omega), fun k => w1 k / gcdN w1 N, s', ?_, good_w hG hs' b1 hdiv (div_sum_pos hg), rel_w n1 hR hs' (fun k hk => (a1 k hk).trans (b1 k hk).symm)⟩⟩
        · rw [a2]
          simp (disch := omega) only [am_call2_e, sI_eq, if_neg, fweightOf (f := f') (show i < 12 by omega), a1 i hi, Option.bind_some]
        · simp (disch := omega) only [sI_eq, if_neg, hc, am_call2_e, b3, b1 i hi]
    · refine ⟨-1000001, wf, ?_, Or.inl ⟨inv_neg, ?_⟩⟩ <;> simp (disch := omega) only [li_0, li_1, li_2, li_3, li_4, li_5, li_6, li_7, li_8, li_9, li_10, li_12, li_16, li_20, li_21, li_22, li_32, li_33, li_44, li_45, li_48, li_57, li_59, li_60, li_63, li_74, li_75, li_99, li_100, li_109, li_111, li_114, li_126, li_200, li_340, li_580, li_1740, li_65537, li_1000000, ll_0, ll_1, ll_100, d1, Option.bind_some, sI_eq, if_neg, if_true]
  · rw [c1, c2 s s0]
    refine ⟨-1000001, wf, ?_, Or.inl ⟨inv_neg, ?_⟩⟩ <;> simp (disch := omega) only [li_0, li_1, li_2, li_3, li_4, li_5, li_6, li_7, li_8, li_9, li_10, li_12, li_16, li_20, li_21, li_22, li_32, li_33, li_44, li_45, li_48, li_57, li_59, li_60, li_63, li_74, li_75, li_99, li_100, li_109, li_111, li_114, li_126, li_200, li_340, li_580, li_1740, li_65537, li_1000000, ll_0, ll_1, ll_100, Option.bind_some, if_true]
end Weigh
