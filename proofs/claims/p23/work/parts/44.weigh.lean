-- a weight set
theorem sum_upd {w : Nat → Nat} {i v : Nat} : ∀ N, i < N → sumN (fun k => if k = i then v else w k) N + w i = sumN w N + v
  | 0, h => absurd h (Nat.not_lt_zero i)
  | N + 1, h => by
    show sumN (fun k => if k = i then v else w k) N + (if N = i then v else w N) + w i = sumN w N + w N + v
    by_cases hN : N = i
    · subst hN
      rw [if_pos rfl, sumN_congr (v := w) N (fun k hk => if_neg (by omega))]
      omega
    · have := sum_upd (w := w) (i := i) (v := v) N (by omega)
      rw [if_neg hN]
      omega
theorem gcd_pos_of {w : Nat → Nat} {N : Nat} (h : 0 < sumN w N) : 0 < gcdN w N := by
  apply Nat.pos_of_ne_zero
  intro h0
  have := (sumN_0 N).mpr ((gcdN_0 N).mp h0)
  omega
theorem gcd_zero_of {w : Nat → Nat} {N : Nat} (h : sumN w N = 0) : gcdN w N = 0 := (gcdN_0 N).mpr ((sumN_0 N).mp h)
theorem div_sum_pos {w : Nat → Nat} {N : Nat} (h : 0 < gcdN w N) : 0 < sumN (fun k => w k / gcdN w N) N := by
  apply Nat.pos_of_ne_zero
  intro h0
  have h1 := (sumN_0 (w := fun k => w k / gcdN w N) N).mp h0
  have h2 : gcdN w N = 0 := by
    rw [gcdN_0]
    intro k hk
    have h3 := h1 k hk
    have h4 := Nat.div_mul_cancel (gcdN_dvd (w := w) N k hk)
    have h3' : w k / gcdN w N = 0 := h3
    rw [h3', Nat.zero_mul] at h4
    exact h4.symm
  omega
section Weigh
variable {N G z th sc of : Nat} {w : Nat → Nat} {pl pa : Nat → Nat → Nat} {s : Nat → Int32} {noi obs res lmany lgens : Int32} {lplf lpaf logf ldrf lspf lscf : Nat → Int32} {wmany : Int32} {wf sf : Nat → Int32}
-- other weights alone
theorem good_w (hG : Good N G z th sc of w pl pa s) {s' : Nat → Int32} {w' : Nat → Nat} (hs : ∀ i, i < 8 ∨ 8 + N ≤ i → s' i = s i) (hw : ∀ k, k < N → s' (8 + k) = nI (w' k)) (hb : ∀ k, k < N → w' k ≤ 1000000) (hS : 0 < sumN w' N) : Good N G z th sc of w' pl pa s' := by
  obtain ⟨⟨n0, n1, g0, g1, hz, hth, hsc, hof⟩, ⟨s0, s1, s2, s5, s6, s7⟩, -, ⟨spl, splb⟩, spa, spab, sp0⟩ := hG
  exact ⟨⟨n0, n1, g0, g1, hz, hth, hsc, hof⟩, ⟨by rw [hs _ (by omega)]; exact s0, by rw [hs _ (by omega)]; exact s1, by rw [hs _ (by omega)]; exact s2, by rw [hs _ (by omega)]; exact s5, by rw [hs _ (by omega)]; exact s6, by rw [hs _ (by omega)]; exact s7⟩, ⟨hw, hb, hS⟩, ⟨fun g k hg hk => by rw [hs _ (by omega)]; exact spl g k hg hk, splb⟩, fun g k h0 hg hk => by rw [hs _ (by omega)]; exact spa g k h0 hg hk, spab, fun k hk => by rw [hs _ (by omega)]; exact sp0 k hk⟩
theorem rel_w (hN : N ≤ 12) (hR : Rel N G noi obs res lmany lgens lplf lpaf logf ldrf lspf lscf wmany wf sf s) {s' wf' : Nat → Int32} (hs : ∀ i, i < 8 ∨ 8 + N ≤ i → s' i = s i) (hw : ∀ k, k < N → wf' k = s' (8 + k)) : Rel N G noi obs res lmany lgens lplf lpaf logf ldrf lspf lscf wmany wf' sf s' := by
  obtain ⟨⟨r0, r1, r2, r3, r4, r4', r5, r6, r7⟩, rw_, rg, rpl, rpa⟩ := hR
  refine ⟨⟨r0, r1, r2, by rw [hs _ (by omega)]; exact r3, by rw [hs _ (by omega)]; exact r4, by rw [hs _ (by omega)]; exact r4', by rw [hs _ (by omega)]; exact r5, by rw [hs _ (by omega)]; exact r6, by rw [hs _ (by omega)]; exact r7⟩, hw, fun g hg => ?_, fun g k hg hk => by rw [hs _ (by omega)]; exact rpl g k hg hk, fun g k h0 hg hk => by rw [hs _ (by omega)]; exact rpa g k h0 hg hk⟩
  rw [hs _ (by omega), hs _ (by omega), hs _ (by omega), hs _ (by omega)]
  exact rg g hg
end Weigh

