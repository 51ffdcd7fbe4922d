-- an observation, on both sides
section Look
variable {N G z th sc of : Nat} {w : Nat → Nat} {pl pa : Nat → Nat → Nat} {s : Nat → Int32} {noi obs res lmany lgens : Int32} {lplf lpaf logf ldrf lspf lscf : Nat → Int32} {wmany : Int32} {wf sf : Nat → Int32}
def apartN (a b : Nat) : Nat := if b ≤ a then a - b else b - a
def seenN (pl : Nat → Nat → Nat) (G a b : Nat) (w : Nat → Nat) (k : Nat) : Nat := w k * (b - apartN (pl (G - 1) k) a)
theorem seen_le {a b k : Nat} (hw : w k ≤ 1000000) (hb : b ≤ 99) : seenN pl G a b w k ≤ 99000000 := by
  have h1 : b - apartN (pl (G - 1) k) a ≤ 99 := by omega
  have h2 := Nat.mul_le_mul hw h1
  exact h2
theorem abs_both {x a : Nat} (hx : x < 1000) (ha : a < 1000) : (nI 0 ≤ nI x - nI a ∧ nI x - nI a = nI (apartN x a)) ∨ (¬ nI 0 ≤ nI x - nI a ∧ -(nI x - nI a) = nI (apartN x a)) := by
  unfold apartN
  by_cases h : a ≤ x
  · left
    rw [if_pos h, sI_sub h, sI_le (by omega) (by omega)]
    exact ⟨Nat.zero_le _, rfl⟩
  · right
    have e : nI x - nI a = -nI (a - x) := by
      rw [← sI_sub (show x ≤ a by omega), Int32.neg_sub]
    have hn : ¬ nI 0 ≤ -nI (a - x) := by
      obtain ⟨d, hd⟩ : ∃ d, d = a - x := ⟨_, rfl⟩
      rw [← hd]
      intro hc
      have h1 := Int32.le_iff_toInt_le.mp hc
      rw [nI_toInt (by omega), Int32.toInt_neg, nI_toInt (by omega)] at h1
      have h2 : ((-(d : Int)).bmod (2 ^ 32)) = -(d : Int) := by
        rw [Int.bmod_def]
        omega
      rw [h2] at h1
      omega
    rw [if_neg h, e]
    exact ⟨hn, Int32.neg_neg⟩
theorem am_let_e {α R : Type} (e : α) (k : α → Option R) : am_let e k = k e := rfl
theorem flookC (n0 : 0 < N) (n1 : N ≤ 12) (g0 : 1 ≤ G) (g1 : G ≤ 20) (hw : ∀ k, k < N → wf k = nI (w k)) (swb : ∀ k, k < N → w k ≤ 1000000) (hpl : ∀ k, k < N → lplf ((G - 1) * 12 + k) = nI (pl (G - 1) k)) (splb : ∀ g k, g < G → k < N → pl g k ≤ 99) {a b : Nat} (ha : a ≤ 99) (hb : b ≤ 99) : ∃ g : Nat → Int32, (∀ k, k < N → g k = nI (seenN pl G a b w k)) ∧ ∀ K, am_loop2 (F_X4_look_B25 (nI N) K (nI G) lplf (nI a) (nI b)) am_fuel (nI 0) wf = K g := by
  obtain ⟨v, hv⟩ : ∃ v, v = seenN pl G a b w := ⟨_, rfl⟩
  rw [← hv]
  refine ⟨fun i => if i < N then nI (v i) else wf i, fun k hk => if_pos hk, fun K => ?_⟩
  obtain ⟨f, h1, e⟩ := for2F (b := F_X4_look_B25 (nI N) K (nI G) lplf (nI a) (nI b)) nI N (fun j f => f = fun i => if i < j then nI (v i) else wf i) K (by
    rintro rec f j hj rfl
    have hp := splb (G - 1) j (by omega) hj
    have hvj : v j = w j * (b - apartN (pl (G - 1) j) a) := by rw [hv]; rfl
    have h2 : (fun i => if i < j then nI (v i) else wf i) j = nI (w j) := by
      show (if j < j then nI (v j) else wf j) = _
      rw [if_neg (Nat.lt_irrefl j)]
      exact hw j hj
    refine ⟨upd (fun i => if i < j then nI (v i) else wf i) j (nI (v j)), ?_, ?_⟩
    · funext i
      by_cases hij : i = j
      · subst hij
        rw [upd_s, if_pos (by omega)]
      · rw [upd_n hij]
        by_cases h : i < j
        · rw [if_pos h, if_pos (by omega)]
        · rw [if_neg h, if_neg (by omega)]
    · have e2 : F_X1_placeIn lplf (nI (G - 1)) (nI j) = some (nI (pl (G - 1) j)) := by rw [fplaceC (by omega) (by omega), hpl j hj]
      have e3 : (if nI 0 ≤ nI (pl (G - 1) j) - nI a then nI (pl (G - 1) j) - nI a else nI 0 - (nI (pl (G - 1) j) - nI a)) = nI (apartN (pl (G - 1) j) a) := by
        have e : nI 0 - (nI (pl (G - 1) j) - nI a) = -(nI (pl (G - 1) j) - nI a) := Int32.zero_sub _
        rw [e]
        rcases abs_both (x := pl (G - 1) j) (a := a) (by omega) (by omega) with ⟨c1, c2⟩ | ⟨c1, c2⟩
        · rw [if_pos c1, c2]
        · rw [if_neg c1, c2]
      have hap : apartN (pl (G - 1) j) a ≤ 99 := by unfold apartN; split <;> omega
      have e4 : (if nI 0 < nI b - nI (apartN (pl (G - 1) j) a) then nI b - nI (apartN (pl (G - 1) j) a) else nI 0) = nI (b - apartN (pl (G - 1) j) a) := by
        by_cases h : apartN (pl (G - 1) j) a ≤ b
        · rw [sI_sub h]
          by_cases h2 : 0 < b - apartN (pl (G - 1) j) a
          · rw [if_pos (by rw [sI_lt (by omega) (by omega)]; exact h2)]
          · rw [if_neg (by rw [sI_lt (by omega) (by omega)]; exact h2)]
            congr 1; omega
        · have e : nI b - nI (apartN (pl (G - 1) j) a) = -nI (apartN (pl (G - 1) j) a - b) := by
            rw [← sI_sub (show b ≤ apartN (pl (G - 1) j) a by omega), Int32.neg_sub]
          have hn : ¬ nI 0 < -nI (apartN (pl (G - 1) j) a - b) := by
            obtain ⟨d, hd⟩ : ∃ d, d = apartN (pl (G - 1) j) a - b := ⟨_, rfl⟩
            rw [← hd]
            intro hc
            have h1 := Int32.lt_iff_toInt_lt.mp hc
            rw [nI_toInt (by omega), Int32.toInt_neg, nI_toInt (by omega)] at h1
            have h2 : ((-(d : Int)).bmod (2 ^ 32)) = -(d : Int) := by
              rw [Int.bmod_def]
              omega
            rw [h2] at h1
            omega
          have e0' : b - apartN (pl (G - 1) j) a = 0 := by omega
          rw [e, if_neg hn, e0']
      generalize (fun i => if i < j then nI (v i) else wf i) = f at h2 ⊢
      unfold F_X4_look_B25 F_X1_many
      simp only [am_let]
      simp (disch := omega) only [li_0, li_1, li_2, li_3, li_4, li_5, li_6, li_7, li_8, li_9, li_10, li_11, li_12, li_13, li_14, li_15, li_16, li_19, li_20, li_21, li_22, li_23, li_32, li_36, li_48, li_50, li_60, li_63, li_74, li_75, li_98, li_99, li_100, li_199, li_200, li_256, li_7919, li_65537, li_1000000, li_1000001, li_10000000, ll_0, ll_1, ll_100, ll_65535, Option.bind_some, sI_le, if_neg, flateC g0, e2, e3, e4, fweightOf (f := f) (show j < 12 by omega), h2, sI_mul, fputWeight (f := f) (show j < 12 by omega), sI_add]
      rw [hvj]) (by
    rintro rec f -
    unfold F_X4_look_B25 F_X1_many
    simp only [am_let]
    simp (disch := omega) only [li_0, li_1, li_2, li_3, li_4, li_5, li_6, li_7, li_8, li_9, li_10, li_11, li_12, li_13, li_14, li_15, li_16, li_19, li_20, li_21, li_22, li_23, li_32, li_36, li_48, li_50, li_60, li_63, li_74, li_75, li_98, li_99, li_100, li_199, li_200, li_256, li_7919, li_65537, li_1000000, li_1000001, li_10000000, ll_0, ll_1, ll_100, ll_65535, Option.bind_some, sI_le, if_pos]) 0 (Nat.zero_le _) am_fuel (by rw [fuelE]; omega) wf (by funext i; rw [if_neg (Nat.not_lt_zero i)])
  rw [e, h1]
theorem max_at {w : Nat → Nat} : ∀ n, 0 < n → ∃ k, k < n ∧ w k = maxN w n
  | 0, h => absurd h (Nat.lt_irrefl 0)
  | n + 1, _ => by
    by_cases hn : n = 0
    · subst hn
      exact ⟨0, by omega, by show _ = max 0 (w 0); omega⟩
    · obtain ⟨k, h1, h2⟩ := max_at (w := w) n (by omega)
      by_cases h : maxN w n ≤ w n
      · exact ⟨n, by omega, by show _ = max (maxN w n) (w n); omega⟩
      · exact ⟨k, by omega, by rw [h2]; show _ = max (maxN w n) (w n); omega⟩
theorem eff_le {w : Nat → Nat} {N : Nat} (n0 : 0 < N) (n1 : N ≤ 12) : sumN w N * sumN w N / sumN (fun k => w k * w k) N ≤ 144 := by
  obtain ⟨k, hk, e⟩ := max_at (w := w) N n0
  have h1 : sumN w N ≤ N * maxN w N := sumN_le N (fun k hk => le_maxN N k hk)
  have h2 : N * maxN w N ≤ 12 * maxN w N := Nat.mul_le_mul_right _ n1
  have h3 : sumN (fun k => w k * w k) (k + 1) ≤ sumN (fun k => w k * w k) N := sumN_mono (by omega)
  have h4 : w k * w k ≤ sumN (fun k => w k * w k) (k + 1) := Nat.le_add_left _ _
  rw [e] at h4
  have h5 : sumN w N * sumN w N ≤ (12 * maxN w N) * (12 * maxN w N) := Nat.mul_le_mul (by omega) (by omega)
  have h6 : (12 * maxN w N) * (12 * maxN w N) = 144 * (maxN w N * maxN w N) := by
    rw [Nat.mul_mul_mul_comm]
  refine Nat.div_le_of_le_mul ?_
  rw [Nat.mul_comm]
  omega
theorem nI_ne_lim {a : Nat} (h : a < 2147483648) : ¬ nI a = -1000003 := fun e => lim_neg (e ▸ nI_nn h)
theorem good_3 (hG : Good N G z th sc of w pl pa s) {s' : Nat → Int32} (hs : ∀ i, i ≠ 3 → s' i = s i) : Good N G z th sc of w pl pa s' := by
  obtain ⟨⟨n0, n1, g0, g1, hz, hth, hsc, hof⟩, ⟨s0, s1, s2, s5, s6, s7⟩, ⟨sw, swb, sS⟩, ⟨spl, splb⟩, spa, spab, sp0⟩ := hG
  exact ⟨⟨n0, n1, g0, g1, hz, hth, hsc, hof⟩, ⟨by rw [hs _ (by omega)]; exact s0, by rw [hs _ (by omega)]; exact s1, by rw [hs _ (by omega)]; exact s2, by rw [hs _ (by omega)]; exact s5, by rw [hs _ (by omega)]; exact s6, by rw [hs _ (by omega)]; exact s7⟩, ⟨fun k hk => by rw [hs _ (by omega)]; exact sw k hk, swb, sS⟩, ⟨fun g k hg hk => by rw [hs _ (by omega)]; exact spl g k hg hk, splb⟩, fun g k h0 hg hk => by rw [hs _ (by omega)]; exact spa g k h0 hg hk, spab, fun k hk => by rw [hs _ (by omega)]; exact sp0 k hk⟩
theorem rel_3 (hR : Rel N G noi obs res lmany lgens lplf lpaf logf ldrf lspf lscf wmany wf sf s) {s' : Nat → Int32} (hs : ∀ i, i ≠ 3 → s' i = s i) {obs' : Int32} (ho : obs' = s' 3) : Rel N G noi obs' res lmany lgens lplf lpaf logf ldrf lspf lscf wmany wf sf s' := by
  obtain ⟨⟨r0, r1, r2, r3, r4, r4', r5, r6, r7⟩, rw_, rg, rpl, rpa⟩ := hR
  refine ⟨⟨r0, r1, r2, by rw [hs _ (by omega)]; exact r3, ho, by rw [hs _ (by omega)]; exact r4', by rw [hs _ (by omega)]; exact r5, by rw [hs _ (by omega)]; exact r6, by rw [hs _ (by omega)]; exact r7⟩, fun k hk => by rw [hs _ (by omega)]; exact rw_ k hk, fun g hg => ?_, fun g k hg hk => by rw [hs _ (by omega)]; exact rpl g k hg hk, fun g k h0 hg hk => by rw [hs _ (by omega)]; exact rpa g k h0 hg hk⟩
  rw [hs _ (by omega), hs _ (by omega), hs _ (by omega), hs _ (by omega)]
  exact rg g hg
end Look

