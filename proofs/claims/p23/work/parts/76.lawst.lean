-- what the law's own model holds; a new beginning and resampling on its side
def LSt (N G z th sc of : Nat) (wn : Nat → Nat) (pl pa : Nat → Nat → Nat) (g w : Nat → Int32) (c : Nat → Int64) : Prop :=
  (0 < N ∧ N ≤ 12 ∧ 1 ≤ G ∧ G ≤ 20 ∧ z < 65537 ∧ th ≤ 12 ∧ sc ≤ 2 ∧ of ≤ 99) ∧
  (g 0 = nI N ∧ g 1 = nI G ∧ g 2 = nI z ∧ g 5 = nI th ∧ g 6 = nI sc ∧ g 7 = nI of) ∧
  ((∀ k, k < N → w k = nI (wn k)) ∧ (∀ k, k < N → wn k ≤ 1000000) ∧ 0 < sumN wn N) ∧
  ((∀ h k, h < G → k < N → pl h k ≤ 99) ∧ (∀ h k, 0 < h → h < G → k < N → pa h k < N)) ∧
  CRel N G c pl pa
theorem pos_sum1 {N : Nat} (h : 0 < N) : 0 < sumN (fun _ => 1) N := by
  obtain ⟨M, rfl⟩ : ∃ M, N = M + 1 := ⟨N - 1, by omega⟩
  show 0 < sumN (fun _ => 1) M + 1
  omega
theorem l_begins (g w q : Nat → Int32) (c : Nat → Int64) {n a b : Nat} (hn0 : 1 ≤ n) (hn : n ≤ 12) (ha : a ≤ 99) (hb : b ≤ 99) : ∃ g' w' q' c', F_L_begins g w q c (nI n) (nI a) (nI b) = some (g', w', q', c') ∧ (g' 0 = nI n ∧ g' 1 = nI 1 ∧ g' 2 = nI 1 ∧ g' 3 = nI 0 ∧ g' 4 = nI 0 ∧ ∀ i, 5 ≤ i → g' i = g i) ∧ (∀ k, k < n → w' k = nI 1) ∧ q' 0 = nI 0 ∧ CRel n 1 c' (fun _ k => if a + k * b ≤ 99 then a + k * b else 99) (fun _ _ => 0) := by
  obtain ⟨f1, hf1⟩ : ∃ y, y = upd (upd (upd (upd (upd g 0 (nI n)) 1 (nI 1)) 2 (nI 1)) 3 (nI 0)) 4 (nI 0) := ⟨_, rfl⟩
  obtain ⟨w', c', ⟨h1, h2⟩, e⟩ := for3F (b := F_L_begins_B28 (fun f7 f8 => some (f1, f7, upd q 0 (nI 0), f8)) (nI a) (nI b) (nI n)) nI 12 (fun j f d => (∀ k, k < j → f k = if k < n then nI 1 else nI 0) ∧ ∀ k, k < j → cAt d 0 k = lN ((if a + k * b ≤ 99 then a + k * b else 99) + 256 * 15)) (fun f7 f8 => some (f1, f7, upd q 0 (nI 0), f8)) (by
    rintro rec f d j hj ⟨h1, h2⟩
    have hjb : j * b ≤ 12 * 99 := Nat.mul_le_mul (by omega) hb
    refine ⟨upd f j (if j < n then nI 1 else nI 0), putC d 0 j ((if a + j * b ≤ 99 then a + j * b else 99) + 256 * 15), ⟨fun k hk => ?_, fun k hk => ?_⟩, ?_⟩
    · by_cases hkj : k = j
      · subst hkj; exact upd_s _ _ _
      · rw [upd_n hkj]; exact h1 k (by omega)
    · have hle : (if a + j * b ≤ 99 then a + j * b else 99) ≤ 99 := by split <;> omega
      rw [cAt_put (by omega) (by omega) (by omega)]
      by_cases hkj : k = j
      · subst hkj; rw [if_pos ⟨rfl, rfl⟩]
      · rw [if_neg (fun h => hkj h.2)]; exact h2 k (by omega)
    · have eJ : ∀ (J : Int32 → Option ((Nat → Int32) × (Nat → Int32) × (Nat → Int32) × (Nat → Int64))), am_let J (fun J => if nI n ≤ nI j then J (nI 0) else J (nI 1)) = J (if j < n then nI 1 else nI 0) := by
        intro J
        by_cases h : j < n
        · rw [am_let_e, if_neg (by rw [sI_le (by omega) (by omega)]; omega), if_pos h]
        · rw [am_let_e, if_pos (by rw [sI_le (by omega) (by omega)]; omega), if_neg h]
      unfold F_L_begins_B28
      rw [if_neg (by rw [li_12, sI_le (by omega) (by omega)]; omega)]
      rw [li_0, li_1, eJ]
      simp only [am_let_e]
      by_cases h : a + j * b ≤ 98
      · have e1 := l_put (c := d) (g := 0) (k := j) (v := a + j * b) (q := 15) (by omega) (by omega) (by omega)
        rw [if_pos (show a + j * b ≤ 99 by omega)]
        simp (disch := omega) only [li_0, li_1, li_2, li_3, li_4, li_5, li_6, li_7, li_8, li_9, li_10, li_11, li_12, li_13, li_14, li_15, li_16, li_19, li_20, li_21, li_22, li_23, li_32, li_36, li_48, li_50, li_60, li_63, li_74, li_75, li_98, li_99, li_100, li_199, li_200, li_256, li_7919, li_65537, li_1000000, li_1000001, li_10000000, ll_0, ll_1, ll_100, ll_65535, sI_mul, sI_add, sI_le, if_neg, am_in_n, sI_cl, e1, Option.bind_some]
      · have e1 := l_put (c := d) (g := 0) (k := j) (v := 99) (q := 15) (by omega) (by omega) (by omega)
        have e2 : (if a + j * b ≤ 99 then a + j * b else 99) = 99 := by split <;> omega
        rw [e2]
        simp (disch := omega) only [li_0, li_1, li_2, li_3, li_4, li_5, li_6, li_7, li_8, li_9, li_10, li_11, li_12, li_13, li_14, li_15, li_16, li_19, li_20, li_21, li_22, li_23, li_32, li_36, li_48, li_50, li_60, li_63, li_74, li_75, li_98, li_99, li_100, li_199, li_200, li_256, li_7919, li_65537, li_1000000, li_1000001, li_10000000, ll_0, ll_1, ll_100, ll_65535, sI_mul, sI_add, sI_le, if_pos, am_in_n, sI_cl, e1, Option.bind_some]) (by
    rintro rec f d -
    unfold F_L_begins_B28
    rw [if_pos (by rw [li_12]; exact Int32.le_refl _)]) 0 (Nat.zero_le _) am_fuel (by rw [fuelE]; omega) w c ⟨fun k hk => absurd hk (Nat.not_lt_zero k), fun k hk => absurd hk (Nat.not_lt_zero k)⟩
  refine ⟨f1, w', upd q 0 (nI 0), c', ?_, ⟨?_, ?_, ?_, ?_, ?_, fun i hi => ?_⟩, fun k hk => by rw [h1 k (by omega), if_pos hk], upd_s _ _ _, fun h k hh hk => ?_⟩
  · unfold F_L_begins
    simp only [am_let_e]
    simp (disch := omega) only [li_0, li_1, li_2, li_3, li_4, li_5, li_6, li_7, li_8, li_9, li_10, li_11, li_12, li_13, li_14, li_15, li_16, li_19, li_20, li_21, li_22, li_23, li_32, li_36, li_48, li_50, li_60, li_63, li_74, li_75, li_98, li_99, li_100, li_199, li_200, li_256, li_7919, li_65537, li_1000000, li_1000001, li_10000000, ll_0, ll_1, ll_100, ll_65535, sI_cl]
    rw [← hf1]
    exact e
  · rw [hf1, upd_n (by omega), upd_n (by omega), upd_n (by omega), upd_n (by omega), upd_s]
  · rw [hf1, upd_n (by omega), upd_n (by omega), upd_n (by omega), upd_s]
  · rw [hf1, upd_n (by omega), upd_n (by omega), upd_s]
  · rw [hf1, upd_n (by omega), upd_s]
  · rw [hf1, upd_s]
  · rw [hf1, upd_n (by omega), upd_n (by omega), upd_n (by omega), upd_n (by omega), upd_n (by omega)]
  · have : h = 0 := by omega
    subst this
    rw [h2 k (by omega), if_pos rfl]
theorem l_again {N G z th sc of : Nat} {wn : Nat → Nat} {pl pa : Nat → Nat → Nat} {g w : Nat → Int32} {c : Nat → Int64} (q : Nat → Int32) (hL : LSt N G z th sc of wn pl pa g w c) (hG20 : G < 20) : ∃ g' w' q' c', F_L_again g w q c = some (nI (cntN (fun b => (maskN (chW sc of N wn z) N).testBit b) 12), g', w', q', c') ∧ LSt N (G + 1) (nzW sc N z) th sc of (fun _ => 1) (fun h k => if h = G then pl (G - 1) (chW sc of N wn z k) else pl h k) (fun h k => if h = G then chW sc of N wn z k else pa h k) g' w' c' ∧ (g' 3 = g 3 ∧ g' 4 = g 4 + nI 1) ∧ (∀ i, i < 3 * G → q' i = q i) ∧ q' (3 * G) = nI 2 ∧ q' (3 * G + 2) = nI sc := by
  obtain ⟨⟨n0, n1, g0, g1, hz, hth, hsc, hof⟩, ⟨s0, s1, s2, s5, s6, s7⟩, ⟨sw, swb, sS⟩, ⟨splb, spab⟩, hC⟩ := hL
  have hch : ∀ k, k < N → chW sc of N wn z k < N := fun k hk => chW_lt hof sS hk
  obtain ⟨f2, f3, a1, a2, a3, ea⟩ := l_choose (a := zI) s0 s2 s7 hz hof hsc n1 sw swb sS
  have t0 : f2 0 = nI N := (a3 0 (by omega)).trans s0
  have t1 : f2 1 = nI G := (a3 1 (by omega)).trans s1
  have t6 : f2 6 = nI sc := (a3 6 (by omega)).trans s6
  have hcp : ∀ k, k < N → pl (G - 1) k + 256 * (if G - 1 = 0 then 15 else pa (G - 1) k) < 65536 := fun k hk => by
    have h1 := splb (G - 1) k (by omega) hk
    by_cases h : G - 1 = 0
    · rw [if_pos h]; omega
    · rw [if_neg h]
      have := spab (G - 1) k (by omega) (by omega) hk
      omega
  have hmod : ∀ k, k < N → (pl (G - 1) k + 256 * (if G - 1 = 0 then 15 else pa (G - 1) k)) % 256 = pl (G - 1) k := fun k hk => by
    have h1 := splb (G - 1) k (by omega) hk
    omega
  obtain ⟨qf, hqf⟩ : ∃ y, y = upd (upd q (3 * G) (nI 2)) (3 * G + 2) (nI sc) := ⟨_, rfl⟩
  obtain ⟨gf, hgf⟩ : ∃ y, y = upd (upd f2 1 (nI (G + 1))) 4 (f2 4 + nI 1) := ⟨_, rfl⟩
  obtain ⟨w', c', ⟨h1, h2, h3⟩, e⟩ := for3F (b := F_L_again_B25 f2 (fun f4 f5 => some (nI (cntN (fun b => (maskN (chW sc of N wn z) N).testBit b) 12), gf, f4, qf, f5)) (nI G) f3) nI N (fun j f d => (∀ k, k < j → f k = nI 1) ∧ (∀ k, k < j → cAt d G k = lN (pl (G - 1) (chW sc of N wn z k) + 256 * chW sc of N wn z k)) ∧ ∀ h k, h < G → k < 12 → cAt d h k = cAt c h k) (fun f4 f5 => some (nI (cntN (fun b => (maskN (chW sc of N wn z) N).testBit b) 12), gf, f4, qf, f5)) (by
    rintro rec f d j hj ⟨h1, h2, h3⟩
    have hcj := hch j hj
    have hp := splb (G - 1) _ (by omega) hcj
    have e1 := l_of (c := d) (g := G - 1) (k := chW sc of N wn z j) (by omega) (by omega) ((h3 (G - 1) _ (by omega) (by omega)).trans (hC (G - 1) _ (by omega) hcj)) (hcp _ hcj)
    have e2 := l_put (c := d) (g := G) (k := j) (v := pl (G - 1) (chW sc of N wn z j)) (q := chW sc of N wn z j) (by omega) (by omega) (by omega)
    have hcp' := hcp _ hcj
    refine ⟨upd f j (nI 1), putC d G j (pl (G - 1) (chW sc of N wn z j) + 256 * chW sc of N wn z j), ⟨fun k hk => ?_, fun k hk => ?_, fun h k hh hk => ?_⟩, ?_⟩
    · by_cases hkj : k = j
      · subst hkj; exact upd_s _ _ _
      · rw [upd_n hkj]; exact h1 k (by omega)
    · rw [cAt_put (by omega) (by omega) (by omega)]
      by_cases hkj : k = j
      · subst hkj; rw [if_pos ⟨rfl, rfl⟩]
      · rw [if_neg (fun h => hkj h.2)]; exact h2 k (by omega)
    · rw [cAt_put (by omega) (by omega) (by omega), if_neg (fun h' => by omega)]
      exact h3 h k hh hk
    · have e9 : nI G - nI 1 = nI (G - 1) := sI_sub g0
      unfold F_L_again_B25
      simp only [am_let]
      simp (disch := omega) only [li_0, li_1, li_2, li_3, li_4, li_5, li_6, li_7, li_8, li_9, li_10, li_11, li_12, li_13, li_14, li_15, li_16, li_19, li_20, li_21, li_22, li_23, li_32, li_36, li_48, li_50, li_60, li_63, li_74, li_75, li_98, li_99, li_100, li_199, li_200, li_256, li_7919, li_65537, li_1000000, li_1000001, li_10000000, ll_0, ll_1, ll_100, ll_65535, sI_cl, t0, sI_le, if_neg, am_in_n, e9, a1 j hj, e1, Option.bind_some, sI_div, sI_mul, sI_rem2, hmod _ hcj, e2, sI_add]) (by
    rintro rec f d -
    unfold F_L_again_B25
    simp (disch := omega) only [li_0, li_1, li_2, li_3, li_4, li_5, li_6, li_7, li_8, li_9, li_10, li_11, li_12, li_13, li_14, li_15, li_16, li_19, li_20, li_21, li_22, li_23, li_32, li_36, li_48, li_50, li_60, li_63, li_74, li_75, li_98, li_99, li_100, li_199, li_200, li_256, li_7919, li_65537, li_1000000, li_1000001, li_10000000, ll_0, ll_1, ll_100, ll_65535, sI_cl, t0, sI_le, if_pos]) 0 (Nat.zero_le _) am_fuel (by rw [fuelE]; omega) w c ⟨fun k hk => absurd hk (Nat.not_lt_zero k), fun k hk => absurd hk (Nat.not_lt_zero k), fun _ _ _ _ => rfl⟩
  have hgi : ∀ i, i ≠ 1 → i ≠ 2 → i ≠ 4 → gf i = g i := fun i h1 h2 h4 => by rw [hgf, upd_n h4, upd_n h1]; exact a3 i h2
  refine ⟨gf, w', qf, c', ?_, ⟨⟨n0, n1, by omega, by omega, nzW_lt hz, hth, hsc, hof⟩, ⟨(hgi 0 (by omega) (by omega) (by omega)).trans s0, by rw [hgf, upd_n (by omega), upd_s], by rw [hgf, upd_n (by omega), upd_n (by omega)]; exact a2, (hgi 5 (by omega) (by omega) (by omega)).trans s5, (hgi 6 (by omega) (by omega) (by omega)).trans s6, (hgi 7 (by omega) (by omega) (by omega)).trans s7⟩, ⟨h1, fun _ _ => (by show 1 ≤ 1000000; omega), pos_sum1 n0⟩, ⟨fun h k hh hk => ?_, fun h k hh0 hh hk => ?_⟩, fun h k hh hk => ?_⟩, ⟨hgi 3 (by omega) (by omega) (by omega), by rw [hgf, upd_s, a3 4 (by omega)]⟩, fun i hi => by rw [hqf, upd_n (by omega), upd_n (by omega)], by rw [hqf, upd_n (by omega), upd_s], by rw [hqf, upd_s]⟩
  · have eu := l_unlike (N := N) n1 a1 (fun k hk => by have := hch k hk; omega)
    unfold F_L_again
    simp only [am_let_e]
    simp (disch := omega) only [li_0, li_1, li_2, li_3, li_4, li_5, li_6, li_7, li_8, li_9, li_10, li_11, li_12, li_13, li_14, li_15, li_16, li_19, li_20, li_21, li_22, li_23, li_32, li_36, li_48, li_50, li_60, li_63, li_74, li_75, li_98, li_99, li_100, li_199, li_200, li_256, li_7919, li_65537, li_1000000, li_1000001, li_10000000, ll_0, ll_1, ll_100, ll_65535, sI_cl, s1, s6, ea, am_call2_e, sI_mul, sI_add, am_in_n, t1, t6]
    rw [← hqf]
    have u0 : (upd (upd f2 1 (nI (G + 1))) 4 (upd f2 1 (nI (G + 1)) 4 + nI 1)) = gf := by
      rw [hgf, upd_n (f := f2) (k := 1) (j := 4) (by omega)]
    have u1 : gf 0 = nI N := (hgi 0 (by omega) (by omega) (by omega)).trans s0
    simp only [u0, u1, eu, Option.bind_some]
    exact e
  · show (if h = G then pl (G - 1) (chW sc of N wn z k) else pl h k) ≤ 99
    by_cases hhG : h = G
    · rw [if_pos hhG]; exact splb _ _ (by omega) (hch k hk)
    · rw [if_neg hhG]; exact splb h k (by omega) hk
  · show (if h = G then chW sc of N wn z k else pa h k) < N
    by_cases hhG : h = G
    · rw [if_pos hhG]; exact hch k hk
    · rw [if_neg hhG]; exact spab h k hh0 (by omega) hk
  · show cAt c' h k = lN ((if h = G then pl (G - 1) (chW sc of N wn z k) else pl h k) + 256 * (if h = 0 then 15 else if h = G then chW sc of N wn z k else pa h k))
    by_cases hhG : h = G
    · subst hhG
      rw [if_pos rfl, if_pos rfl, if_neg (by omega)]
      exact h2 k hk
    · rw [if_neg hhG, if_neg hhG, h3 h k (by omega) (by omega)]
      exact hC h k (by omega) hk
-- a number out of an int, below another
theorem and_max (x : Int32) : ∃ n, n < 2147483648 ∧ x &&& 2147483647 = nI n := by
  refine ⟨x.toBitVec.toNat % 2 ^ 31, Nat.mod_lt _ (by decide), ?_⟩
  apply Int32.toBitVec_inj.mp
  rw [Int32.toBitVec_and]
  apply BitVec.eq_of_toNat_eq
  rw [BitVec.toNat_and]
  show x.toBitVec.toNat &&& (2 ^ 31 - 1) = (BitVec.ofNat 32 (x.toBitVec.toNat % 2 ^ 31)).toNat
  rw [Nat.and_two_pow_sub_one_eq_mod, BitVec.toNat_ofNat, Nat.mod_eq_of_lt (Nat.lt_trans (Nat.mod_lt _ (by decide)) (by decide : 2 ^ 31 < 2 ^ 32))]
theorem l_low (x : Int32) {m : Nat} (hm0 : 0 < m) (hm : m < 2147483648) : ∃ y, y < m ∧ F_L_low x (nI m) = some (nI y) := by
  obtain ⟨n, hn, e⟩ := and_max x
  refine ⟨n % m, Nat.mod_lt _ hm0, ?_⟩
  unfold F_L_low
  rw [e, am_nz_n hm0 hm, sI_rem hn hm0 hm]
-- one answer
def kOne (a b c d r : Int32) : Int32 → Int32 → Int32 → Int32 → Option Int32 := fun a' b' c' d' => if a' = a ∧ b' = b ∧ c' = c ∧ d' = d then some r else none
theorem kOne_e (a b c d r : Int32) : kOne a b c d r a b c d = some r := if_pos ⟨rfl, rfl, rfl, rfl⟩
theorem kOne_s {a b c d r a' b' c' d' r' : Int32} (h : kOne a b c d r a' b' c' d' = some r') : a' = a ∧ b' = b ∧ c' = c ∧ d' = d ∧ r' = r := by
  unfold kOne at h
  by_cases hc : a' = a ∧ b' = b ∧ c' = c ∧ d' = d
  · rw [if_pos hc] at h
    exact ⟨hc.1, hc.2.1, hc.2.2.1, hc.2.2.2, (Option.some.inj h).symm⟩
  · rw [if_neg hc] at h; cases h
def ActOk (N G : Nat) (pl pa : Nat → Nat → Nat) (g w q : Nat → Int32) (c : Nat → Int64) (p5 : Int32) : Prop := ∃ KO g' w' q' c' N' G' z' th' sc' of' wn' pl' pa', F_L_acts KO g w q c p5 = some (nI 1, g', w', q', c') ∧ LSt N' G' z' th' sc' of' wn' pl' pa' g' w' c' ∧ ∀ kd p0 p1 p2 ans, KO kd p0 p1 p2 = some ans → OStep kd p0 p1 p2 (RlS N G g w q pl pa) ans (RlS N' G' g' w' q' pl' pa')
theorem act_fin {N G N' G' z' th' sc' of' : Nat} {wn' : Nat → Nat} {pl pa pl' pa' : Nat → Nat → Nat} {g w q g' w' q' : Nat → Int32} {c c' : Nat → Int64} {p5 kd p0 p1 p2 ans : Int32} (hF : F_L_acts (kOne kd p0 p1 p2 ans) g w q c p5 = some (nI 1, g', w', q', c')) (hL : LSt N' G' z' th' sc' of' wn' pl' pa' g' w' c') (hO : OStep kd p0 p1 p2 (RlS N G g w q pl pa) ans (RlS N' G' g' w' q' pl' pa')) : ActOk N G pl pa g w q c p5 :=
  ⟨_, g', w', q', c', N', G', z', th', sc', of', wn', pl', pa', hF, hL, fun a b c d r h => by
    obtain ⟨rfl, rfl, rfl, rfl, rfl⟩ := kOne_s h
    exact hO⟩
