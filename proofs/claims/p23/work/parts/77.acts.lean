-- each of the law's acts: its own model goes as the class goes
abbrev AR : Type := Int32 × (Nat → Int32) × (Nat → Int32) × (Nat → Int32) × (Nat → Int64)
theorem noBegin {way y : Nat} (hy : y < 10000000) (hw : way < 22) (hnb : ¬ (way = 0 ∧ y % 3 = 0)) (A B : Option AR) : (if nI way = (0 : Int32) then (if (nI y - nI y / (3 : Int32) * (3 : Int32)) = 0 then A else B) else B) = B := by
  by_cases h : way = 0
  · rw [if_pos (by subst h; exact rfl), if_neg (by rw [li_3, li_0, sI_rem (by omega) (by omega) (by omega), sI_eq (by omega) (by omega)]; omega)]
  · rw [if_neg (by rw [li_0, sI_eq (by omega) (by omega)]; exact h)]
theorem two_ways {y d a b : Nat} (hd : d < 2147483648) (hy : y % d < 2147483648) : ∃ m, (m = a ∨ m = b) ∧ ∀ (B : Int32 → Option AR), am_let B (fun J => if nI (y % d) = nI 0 then J (nI a) else J (nI b)) = B (nI m) := by
  by_cases h : y % d = 0
  · exact ⟨a, Or.inl rfl, fun B => by rw [am_let_e, if_pos (by rw [h])]⟩
  · exact ⟨b, Or.inr rfl, fun B => by rw [am_let_e, if_neg (by rw [sI_eq hy (by omega)]; exact h)]⟩
section Acts
variable {N G z th sc of y way : Nat} {wn : Nat → Nat} {pl pa : Nat → Nat → Nat} {g w q : Nat → Int32} {c : Nat → Int64} {p5 : Int32}
theorem act_begin (hL : LSt N G z th sc of wn pl pa g w c) (hy : y < 10000000) (e1 : F_L_low (p5 >>> ((5 : Int32) &&& 31)) (10000000 : Int32) = some (nI y)) (e2 : F_L_low p5 (22 : Int32) = some (nI 0)) (h3 : y % 3 = 0) : ActOk N G pl pa g w q c p5 := by
  obtain ⟨⟨n0, n1, g0, g1, hz, hth, hsc, hof⟩, ⟨s0, s1, s2, s5, s6, s7⟩, -, -, -⟩ := hL
  obtain ⟨m, hm, eJ⟩ := two_ways (y := y) (d := 2) (a := 100) (b := 12) (by omega) (by omega)
  have hm0 : 0 < m := by omega
  have hb : y / 7 % m ≤ 99 := by
    have := Nat.mod_lt (y / 7) hm0
    omega
  obtain ⟨g', w', q', c', eb, ⟨b0, b1, b2, b3, b4, b5⟩, bw, bq, bC⟩ := l_begins g w q c (n := 1 + y / 3 % 12) (a := y / 36 % 100) (b := y / 7 % m) (by omega) (by omega) (by omega) hb
  refine act_fin (kd := nI 0) (p0 := nI (1 + y / 3 % 12)) (p1 := nI (y / 36 % 100)) (p2 := nI (y / 7 % m)) (ans := nI G) (g' := g') (w' := w') (q' := q') (c' := c') (N' := 1 + y / 3 % 12) (G' := 1) (z' := 1) (th' := th) (sc' := sc) (of' := of) (wn' := fun _ => 1) (pl' := fun _ k => if y / 36 % 100 + k * (y / 7 % m) ≤ 99 then y / 36 % 100 + k * (y / 7 % m) else 99) (pa' := fun _ _ => 0) ?_ ?_ ?_
  · unfold F_L_acts
    rw [e1, e2, Option.bind_some, Option.bind_some, am_let_e, if_pos (show nI 0 = (0 : Int32) from rfl), if_pos (show nI y - nI y / (3 : Int32) * (3 : Int32) = 0 by rw [li_3, sI_rem (by omega) (by omega) (by omega), h3]; exact rfl)]
    simp (disch := omega) only [li_0, li_1, li_2, li_3, li_4, li_5, li_6, li_7, li_8, li_9, li_10, li_11, li_12, li_13, li_14, li_15, li_16, li_19, li_20, li_21, li_22, li_23, li_32, li_36, li_48, li_50, li_60, li_63, li_74, li_75, li_98, li_99, li_100, li_199, li_200, li_256, li_7919, li_65537, li_1000000, li_1000001, li_10000000, ll_0, ll_1, ll_100, ll_65535, sI_div, sI_mul, sI_rem2, sI_add, sI_cl, s1]
    rw [am_let_e, am_let_e, eJ]
    simp (disch := omega) only [am_nz_n, sI_div, sI_mul, sI_rem2]
    rw [eb, am_call4_e, eJ]
    simp (disch := omega) only [am_nz_n, sI_div, sI_mul, sI_rem2]
    rw [kOne_e, Option.bind_some, if_pos rfl]
  · refine ⟨⟨by omega, by omega, by omega, by omega, by omega, hth, hsc, hof⟩, ⟨b0, b1, b2, (b5 5 (by omega)).trans s5, (b5 6 (by omega)).trans s6, (b5 7 (by omega)).trans s7⟩, ⟨bw, fun _ _ => (by show 1 ≤ 1000000; omega), pos_sum1 (by omega)⟩, ⟨fun h k _ _ => ?_, fun h k h0 hh _ => absurd hh (by omega)⟩, bC⟩
    show (if y / 36 % 100 + k * (y / 7 % m) ≤ 99 then y / 36 % 100 + k * (y / 7 % m) else 99) ≤ 99
    split <;> omega
  · exact os_begin n1 g0 g1 (by omega) (by omega) (by omega) hb b2 b3 b4 (b5 5 (by omega)) (b5 6 (by omega)) (b5 7 (by omega)) bw bq
theorem act_weigh (hL : LSt N G z th sc of wn pl pa g w c) (hy : y < 10000000) (hway : way < 22) (e1 : F_L_low (p5 >>> ((5 : Int32) &&& 31)) (10000000 : Int32) = some (nI y)) (e2 : F_L_low p5 (22 : Int32) = some (nI way)) (hnb : ¬ (way = 0 ∧ y % 3 = 0)) (hw4 : way < 4) : ActOk N G pl pa g w q c p5 := by
  have hL' := hL
  obtain ⟨⟨n0, n1, g0, g1, hz, hth, hsc, hof⟩, ⟨s0, s1, s2, s5, s6, s7⟩, ⟨sw, swb, sS⟩, ⟨splb, spab⟩, hC⟩ := hL'
  obtain ⟨i, hi', hi⟩ : ∃ i, i = y % N ∧ i < N := ⟨_, rfl, Nat.mod_lt _ n0⟩
  obtain ⟨x, hx', eJ⟩ := two_ways (y := y) (d := 4) (a := y / 12 % 1000001) (b := y / 12 % 20) (by omega) (by omega)
  have hx : x ≤ 1000000 := by omega
  have hS2 := (sq_le n1 swb).1
  have hsum := sum_upd (w := wn) (i := i) (v := x) N hi
  obtain ⟨w1, hw1⟩ : ∃ w1 : Nat → Nat, w1 = fun k => if k = i then x else wn k := ⟨_, rfl⟩
  rw [← hw1] at hsum
  have hwi : wn i ≤ sumN wn N := by
    have h1 : sumN wn (i + 1) ≤ sumN wn N := sumN_mono (by omega)
    have h2 : sumN wn (i + 1) = sumN wn i + wn i := rfl
    omega
  have hsub : sumN wn N - wn i + x = sumN w1 N := by omega
  have hbi := swb i hi
  have hb1 : ∀ k, k < N → w1 k ≤ 1000000 := fun k hk => by
    rw [hw1]
    show (if k = i then x else wn k) ≤ _
    have := swb k hk
    split <;> omega
  have hS1 := (sq_le n1 hb1).1
  by_cases hz1 : sumN w1 N = 0
  · refine act_fin (kd := nI 1) (p0 := nI i) (p1 := nI x) (p2 := nI 0) (ans := -1000002) (g' := g) (w' := w) (q' := q) (c' := c) ?_ hL (os_weigh0 n1 g1 hi hx sw swb (by rw [← hw1]; exact hz1))
    unfold F_L_acts
    rw [e1, e2, Option.bind_some, Option.bind_some, am_let_e, noBegin hy hway hnb, if_neg (by rw [li_4, sI_le (by omega) (by omega)]; omega)]
    simp (disch := omega) only [li_0, li_1, li_2, li_3, li_4, li_5, li_6, li_7, li_8, li_9, li_10, li_11, li_12, li_13, li_14, li_15, li_16, li_19, li_20, li_21, li_22, li_23, li_32, li_36, li_48, li_50, li_60, li_63, li_74, li_75, li_98, li_99, li_100, li_199, li_200, li_256, li_7919, li_65537, li_1000000, li_1000001, li_10000000, ll_0, ll_1, ll_100, ll_65535, sI_div, sI_mul, sI_rem2, sI_cl, s0, am_nz_n]
    rw [← hi', am_let_e, eJ, l_all s0 n1 sw, Option.bind_some]
    simp (disch := omega) only [am_in_n, sI_cl, sw i hi, sI_sub, sI_add, hsub, hz1]
    rw [if_pos trivial, kOne_e, Option.bind_some, if_pos rfl]
  · have hf1 : ∀ k, k < N → upd w i (nI x) k = nI (w1 k) := fun k hk => by
      rw [hw1]
      show _ = nI (if k = i then x else wn k)
      by_cases h : k = i
      · subst h; rw [upd_s, if_pos rfl]
      · rw [upd_n h, if_neg h, sw k hk]
    have hg1 := gcd_pos_of (w := w1) (N := N) (by omega)
    obtain ⟨f', a1, a2⟩ := l_thins (w := upd w i (nI x)) s0 n1 hf1 (fun k hk => by have := hb1 k hk; omega)
    refine act_fin (kd := nI 1) (p0 := nI i) (p1 := nI x) (p2 := nI 0) (ans := nI (w1 i / gcdN w1 N)) (g' := g) (w' := f') (q' := q) (c' := c) (wn' := fun k => w1 k / gcdN w1 N) ?_ ⟨⟨n0, n1, g0, g1, hz, hth, hsc, hof⟩, ⟨s0, s1, s2, s5, s6, s7⟩, ⟨a1, fun k hk => Nat.le_trans (Nat.div_le_self _ _) (hb1 k hk), div_sum_pos hg1⟩, ⟨splb, spab⟩, hC⟩ (os_weigh1 hw1 n1 g1 hi hx sw swb (by omega) a1)
    unfold F_L_acts
    rw [e1, e2, Option.bind_some, Option.bind_some, am_let_e, noBegin hy hway hnb, if_neg (by rw [li_4, sI_le (by omega) (by omega)]; omega)]
    simp (disch := omega) only [li_0, li_1, li_2, li_3, li_4, li_5, li_6, li_7, li_8, li_9, li_10, li_11, li_12, li_13, li_14, li_15, li_16, li_19, li_20, li_21, li_22, li_23, li_32, li_36, li_48, li_50, li_60, li_63, li_74, li_75, li_98, li_99, li_100, li_199, li_200, li_256, li_7919, li_65537, li_1000000, li_1000001, li_10000000, ll_0, ll_1, ll_100, ll_65535, sI_div, sI_mul, sI_rem2, sI_cl, s0, am_nz_n]
    rw [← hi', am_let_e, eJ, l_all s0 n1 sw, Option.bind_some]
    simp (disch := omega) only [am_in_n, sI_cl, sw i hi, sI_sub, sI_add, hsub]
    rw [if_neg (by rw [sI_eq (by omega) (by omega)]; exact hz1), am_let_e, a2, am_call2_e, kOne_e, Option.bind_some, a1 i hi, if_pos rfl]
theorem drift_in : ∀ a, a < 199 → F_X6_isWithin (nI a - nI 99) (-99 : Int32) (99 : Int32) = some (nI 1) ∧ F_X6_isWithin ((nI a - nI 99) / nI 9) (-99 : Int32) (99 : Int32) = some (nI 1) := by decide +kernel
theorem law_way (x d m e : Int32) : ((x + d) - e) + m = ((x + d) + m) - e := by
  simp only [Int32.sub_eq_add_neg, Int32.add_assoc, Int32.add_comm (-e) m]
theorem act_move (hL : LSt N G z th sc of wn pl pa g w c) (hy : y < 10000000) (hway : way < 22) (e1 : F_L_low (p5 >>> ((5 : Int32) &&& 31)) (10000000 : Int32) = some (nI y)) (e2 : F_L_low p5 (22 : Int32) = some (nI way)) (h4 : 4 ≤ way) (h9 : way < 9) : ActOk N G pl pa g w q c p5 := by
  have hL' := hL
  obtain ⟨⟨n0, n1, g0, g1, hz, hth, hsc, hof⟩, ⟨s0, s1, s2, s5, s6, s7⟩, ⟨sw, swb, sS⟩, ⟨splb, spab⟩, hC⟩ := hL'
  obtain ⟨p0, hp0, eJ1⟩ : ∃ p0, F_X6_isWithin p0 (-99 : Int32) (99 : Int32) = some (nI 1) ∧ ∀ (B : Int32 → Option AR), am_let B (fun J => if nI (y % 3) ≤ nI 0 then J (nI (y % 199) - nI 99) else J ((nI (y % 199) - nI 99) / nI 9)) = B p0 := by
    have hd := drift_in (y % 199) (by omega)
    by_cases h : y % 3 ≤ 0
    · exact ⟨_, hd.1, fun B => by rw [am_let_e, if_pos (by rw [sI_le (by omega) (by omega)]; exact h)]⟩
    · exact ⟨_, hd.2, fun B => by rw [am_let_e, if_neg (by rw [sI_le (by omega) (by omega)]; exact h)]⟩
  obtain ⟨m, hm, eJ2⟩ := two_ways (y := y) (d := 5) (a := 100) (b := 12) (by omega) (by omega)
  have hm0 : 0 < m := by omega
  obtain ⟨sp, hsp', hsp⟩ : ∃ sp, sp = y / 199 % m ∧ sp ≤ 99 := ⟨_, rfl, by have := Nat.mod_lt (y / 199) hm0; omega⟩
  have start : ∀ KO X, (am_let (nI sp) fun (x63 : Int32) => (if g 1 = nI 20 then (Option.bind (KO (nI 2) p0 x63 (nI 0)) fun (r87 : Int32) => (if r87 = (-1000003 : Int32) then some (nI 1, g, w, q, c) else some (nI 0, g, w, q, c))) else am_let (g 1) fun (x64 : Int32) => am_let (fun (f65 : Nat → Int32) (f66 : Nat → Int64) => am_in (nI 3 * x64) 60 (am_let (upd q (nI 3 * x64).toNatClampNeg (nI 1)) fun (f68 : Nat → Int32) => am_in ((nI 3 * x64) + nI 1) 60 (am_let (upd f68 ((nI 3 * x64) + nI 1).toNatClampNeg p0) fun (f69 : Nat → Int32) => am_in ((nI 3 * x64) + nI 2) 60 (am_let (upd f69 ((nI 3 * x64) + nI 2).toNatClampNeg x63) fun (f70 : Nat → Int32) => am_let (upd f65 1 (f65 1 + nI 1)) fun (f71 : Nat → Int32) => (Option.bind (KO (nI 2) p0 x63 (nI 0)) fun (r72 : Int32) => (if r72 = x64 then some (nI 1, f71, w, f70, f66) else some (nI 0, f71, w, f70, f66))))))) fun (K67 : (Nat → Int32) → (Nat → Int64) → Option AR) => am_loop3 (F_L_acts_B336 K67 x64 x63 p0) am_fuel (nI 0) g c)) = X → F_L_acts KO g w q c p5 = X := by
    intro KO X hX
    unfold F_L_acts
    rw [e1, e2, Option.bind_some, Option.bind_some, am_let_e, noBegin hy hway (fun h => by omega), if_pos (by rw [li_4, sI_le (by omega) (by omega)]; omega), if_neg (by rw [li_9, sI_le (by omega) (by omega)]; omega)]
    simp (disch := omega) only [li_0, li_1, li_2, li_3, li_4, li_5, li_6, li_7, li_8, li_9, li_10, li_11, li_12, li_13, li_14, li_15, li_16, li_19, li_20, li_21, li_22, li_23, li_32, li_36, li_48, li_50, li_60, li_63, li_74, li_75, li_98, li_99, li_100, li_199, li_200, li_256, li_7919, li_65537, li_1000000, li_1000001, li_10000000, ll_0, ll_1, ll_100, ll_65535, sI_div, sI_mul, sI_rem2, sI_cl]
    rw [am_let_e, eJ1, eJ2]
    simp (disch := omega) only [am_nz_n, sI_div, sI_mul, sI_rem2]
    rw [← hsp']
    exact hX
  by_cases hG20 : G = 20
  · subst hG20
    refine act_fin (kd := nI 2) (p0 := p0) (p1 := nI sp) (p2 := nI 0) (ans := -1000003) (g' := g) (w' := w) (q' := q) (c' := c) (start _ _ ?_) hL (os_move20 n1 hsp hp0)
    rw [am_let_e, if_pos s1, kOne_e, Option.bind_some, if_pos rfl]
  · have hG : G < 20 := by omega
    have hcp : ∀ k, k < N → pl (G - 1) k + 256 * (if G - 1 = 0 then 15 else pa (G - 1) k) < 65536 := fun k hk => by
      have h1 := splb (G - 1) k (by omega) hk
      by_cases h : G - 1 = 0
      · rw [if_pos h]; omega
      · rw [if_neg h]
        have := spab (G - 1) k (by omega) (by omega) hk
        omega
    have hmod : ∀ k, k < N → (pl (G - 1) k + 256 * (if G - 1 = 0 then 15 else pa (G - 1) k)) % 256 = pl (G - 1) k := fun k hk => by
      have h1 := splb (G - 1) k (by omega) hk
      omega
    have loop := fun K67 => for3F (b := F_L_acts_B336 K67 (nI G) (nI sp) p0) nI N (fun j f d => (f 2 = nI (nzk z j) ∧ ∀ i, i ≠ 2 → f i = g i) ∧ (∀ k, k < j → cAt d G k = lN (moveP pl G z sp p0 k + 256 * k)) ∧ ∀ h k, h < G → k < 12 → cAt d h k = cAt c h k) K67 (by
      rintro rec f d j hj ⟨⟨k1, k2⟩, k3, k4⟩
      have hz1 := nzk_lt hz j
      have e3 := l_noise k1 hz1
      have e4 : (nzk z j * 75 + 74) % 65537 = nzk z (j + 1) := rfl
      rw [e4] at e3
      have hz2 := nzk_lt hz (j + 1)
      have f0 : f 0 = nI N := (k2 0 (by omega)).trans s0
      have e5 := l_of (c := d) (g := G - 1) (k := j) (by omega) (by omega) ((k4 (G - 1) j (by omega) (by omega)).trans (hC (G - 1) j (by omega) hj)) (hcp j hj)
      have hcpj := hcp j hj
      have hcl : moveP pl G z sp p0 j ≤ 99 := clamp_le _
      have e6 := l_put (c := d) (g := G) (k := j) (v := moveP pl G z sp p0 j) (q := j) hG (by omega) (by omega)
      refine ⟨upd f 2 (nI (nzk z (j + 1))), putC d G j (moveP pl G z sp p0 j + 256 * j), ⟨⟨upd_s _ _ _, fun i hi => by rw [upd_n hi]; exact k2 i hi⟩, fun k hk => ?_, fun h k hh hk => ?_⟩, ?_⟩
      · rw [cAt_put (by omega) (by omega) (by omega)]
        by_cases hkj : k = j
        · subst hkj; rw [if_pos ⟨rfl, rfl⟩]
        · rw [if_neg (fun h => hkj h.2)]; exact k3 k (by omega)
      · rw [cAt_put (by omega) (by omega) (by omega), if_neg (fun h' => by omega)]
        exact k4 h k hh hk
      · have e7 : 1 + 2 * sp = 2 * sp + 1 := by omega
        have e9 : nI G - nI 1 = nI (G - 1) := sI_sub g0
        unfold F_L_acts_B336
        simp only [am_let]
        simp (disch := omega) only [li_0, li_1, li_2, li_3, li_4, li_5, li_6, li_7, li_8, li_9, li_10, li_11, li_12, li_13, li_14, li_15, li_16, li_19, li_20, li_21, li_22, li_23, li_32, li_36, li_48, li_50, li_60, li_63, li_74, li_75, li_98, li_99, li_100, li_199, li_200, li_256, li_7919, li_65537, li_1000000, li_1000001, li_10000000, ll_0, ll_1, ll_100, ll_65535, sI_cl, f0, sI_le, if_neg, e9, e5, Option.bind_some, e3, am_call2_e, sI_mul, sI_add, am_nz_n, sI_div, sI_rem2, hmod j hj, e7, law_way]
        refine (clampM _ (fun v => Option.bind (F_L_put d (nI G) (nI j) v (nI j)) fun f81 => rec (nI (j + 1)) (upd f 2 (nI (nzk z (j + 1)))) f81)).trans ?_
        show Option.bind (F_L_put d (nI G) (nI j) (nI (moveP pl G z sp p0 j)) (nI j)) _ = _
        rw [e6, Option.bind_some]) (by
      rintro rec f d ⟨⟨k1, k2⟩, -⟩
      have f0 : f 0 = nI N := (k2 0 (by omega)).trans s0
      unfold F_L_acts_B336
      simp (disch := omega) only [li_0, li_1, li_2, li_3, li_4, li_5, li_6, li_7, li_8, li_9, li_10, li_11, li_12, li_13, li_14, li_15, li_16, li_19, li_20, li_21, li_22, li_23, li_32, li_36, li_48, li_50, li_60, li_63, li_74, li_75, li_98, li_99, li_100, li_199, li_200, li_256, li_7919, li_65537, li_1000000, li_1000001, li_10000000, ll_0, ll_1, ll_100, ll_65535, sI_cl, f0, sI_le, if_pos]) 0 (Nat.zero_le _) am_fuel (by rw [fuelE]; omega) g c ⟨⟨s2, fun _ _ => rfl⟩, fun k hk => absurd hk (Nat.not_lt_zero k), fun _ _ _ _ => rfl⟩
    obtain ⟨qf, hqf⟩ : ∃ u, u = upd (upd (upd q (3 * G) (nI 1)) (3 * G + 1) p0) (3 * G + 2) (nI sp) := ⟨_, rfl⟩
    obtain ⟨f, d, ⟨⟨k1, k2⟩, k3, k4⟩, el⟩ := loop (fun f65 f66 => some (nI 1, upd f65 1 (nI (G + 1)), w, qf, f66))
    obtain ⟨f', d', ⟨⟨k1', k2'⟩, k3', k4'⟩, el'⟩ := loop (fun f65 f66 => am_in (nI 3 * nI G) 60 (am_let (upd q (nI 3 * nI G).toNatClampNeg (nI 1)) fun (f68 : Nat → Int32) => am_in ((nI 3 * nI G) + nI 1) 60 (am_let (upd f68 ((nI 3 * nI G) + nI 1).toNatClampNeg p0) fun (f69 : Nat → Int32) => am_in ((nI 3 * nI G) + nI 2) 60 (am_let (upd f69 ((nI 3 * nI G) + nI 2).toNatClampNeg (nI sp)) fun (f70 : Nat → Int32) => am_let (upd f65 1 (f65 1 + nI 1)) fun (f71 : Nat → Int32) => (Option.bind (kOne (nI 2) p0 (nI sp) (nI 0) (nI G) (nI 2) p0 (nI sp) (nI 0)) fun (r72 : Int32) => (if r72 = nI G then some (nI 1, f71, w, f70, f66) else some (nI 0, f71, w, f70, f66)))))))
    have f1' : f' 1 = nI G := (k2' 1 (by omega)).trans s1
    refine act_fin (kd := nI 2) (p0 := p0) (p1 := nI sp) (p2 := nI 0) (ans := nI G) (g' := upd f' 1 (nI (G + 1))) (w' := w) (q' := qf) (c' := d') (start _ _ ?_) (N' := N) (G' := G + 1) (z' := nzk z N) (th' := th) (sc' := sc) (of' := of) (wn' := wn) (pl' := fun h k => if h = G then moveP pl G z sp p0 k else pl h k) (pa' := fun h k => if h = G then k else pa h k) ⟨⟨n0, n1, by omega, by omega, nzk_lt hz N, hth, hsc, hof⟩, ⟨by rw [upd_n (by omega)]; exact (k2' 0 (by omega)).trans s0, upd_s _ _ _, by rw [upd_n (by omega)]; exact k1', by rw [upd_n (by omega)]; exact (k2' 5 (by omega)).trans s5, by rw [upd_n (by omega)]; exact (k2' 6 (by omega)).trans s6, by rw [upd_n (by omega)]; exact (k2' 7 (by omega)).trans s7⟩, ⟨sw, swb, sS⟩, ⟨fun h k hh hk => ?_, fun h k hh0 hh hk => ?_⟩, fun h k hh hk => ?_⟩ (os_move hz s2 n1 g0 hG hsp hp0 (by rw [upd_n (by omega)]; exact k1') (fun i h1 h2 => by rw [upd_n h1]; exact k2' i h2) (fun i hi => by rw [hqf, upd_n (by omega), upd_n (by omega), upd_n (by omega)]) (by rw [hqf, upd_n (by omega), upd_n (by omega), upd_s]) (by rw [hqf, upd_n (by omega), upd_s]) (by rw [hqf, upd_s]))
    · rw [am_let_e, if_neg (by rw [s1, sI_eq (by omega) (by omega)]; exact hG20), am_let_e, am_let_e, s1]
      rw [el']
      simp only [am_let_e]
      simp (disch := omega) only [sI_mul, sI_add, am_in_n, sI_cl, f1']
      rw [kOne_e, Option.bind_some, if_pos rfl, ← hqf]
    · show (if h = G then moveP pl G z sp p0 k else pl h k) ≤ 99
      by_cases hhG : h = G
      · rw [if_pos hhG]; exact clamp_le _
      · rw [if_neg hhG]; exact splb h k (by omega) hk
    · show (if h = G then k else pa h k) < N
      by_cases hhG : h = G
      · rw [if_pos hhG]; exact hk
      · rw [if_neg hhG]; exact spab h k hh0 (by omega) hk
    · show cAt d' h k = lN ((if h = G then moveP pl G z sp p0 k else pl h k) + 256 * (if h = 0 then 15 else if h = G then k else pa h k))
      by_cases hhG : h = G
      · subst hhG
        rw [if_pos rfl, if_pos rfl, if_neg (by omega)]
        exact k3' k hk
      · rw [if_neg hhG, if_neg hhG, k4' h k (by omega) (by omega)]
        exact hC h k (by omega) hk
theorem act_resample (hL : LSt N G z th sc of wn pl pa g w c) (hy : y < 10000000) (hway : way < 22) (e1 : F_L_low (p5 >>> ((5 : Int32) &&& 31)) (10000000 : Int32) = some (nI y)) (e2 : F_L_low p5 (22 : Int32) = some (nI way)) (h16 : 16 ≤ way) (h19 : way < 19) : ActOk N G pl pa g w q c p5 := by
  have hL' := hL
  obtain ⟨⟨n0, n1, g0, g1, hz, hth, hsc, hof⟩, ⟨s0, s1, s2, s5, s6, s7⟩, ⟨sw, swb, sS⟩, ⟨splb, spab⟩, hC⟩ := hL'
  have start : ∀ KO X, (if g 1 = nI 20 then (Option.bind (KO (nI 4) (nI 0) (nI 0) (nI 0)) fun (r16 : Int32) => (if r16 = (-1000003 : Int32) then some (nI 1, g, w, q, c) else some (nI 0, g, w, q, c))) else (am_call5 (F_L_again g w q c) fun (r10 : Int32) (f11 : Nat → Int32) (f12 : Nat → Int32) (f13 : Nat → Int32) (f14 : Nat → Int64) => (Option.bind (KO (nI 4) (nI 0) (nI 0) (nI 0)) fun (r15 : Int32) => (if r15 = r10 then some (nI 1, f11, f12, f13, f14) else some (nI 0, f11, f12, f13, f14))))) = X → F_L_acts KO g w q c p5 = X := by
    intro KO X hX
    unfold F_L_acts
    rw [e1, e2, Option.bind_some, Option.bind_some, am_let_e, noBegin hy hway (fun h => by omega), if_pos (by rw [li_4, sI_le (by omega) (by omega)]; omega), if_pos (by rw [li_9, sI_le (by omega) (by omega)]; omega), if_pos (by rw [li_16, sI_le (by omega) (by omega)]; omega), if_neg (by rw [li_19, sI_le (by omega) (by omega)]; omega)]
    exact hX
  by_cases hG20 : G = 20
  · subst hG20
    refine act_fin (kd := nI 4) (p0 := nI 0) (p1 := nI 0) (p2 := nI 0) (ans := -1000003) (g' := g) (w' := w) (q' := q) (c' := c) (start _ _ ?_) hL (os_res20 n1)
    rw [if_pos s1, kOne_e, Option.bind_some, if_pos rfl]
  · have hG : G < 20 := by omega
    obtain ⟨g', w', q', c', ea, hL2, ⟨k3, k4⟩, kq, kq0, kq2⟩ := l_again q hL hG
    have hL3 := hL2
    obtain ⟨-, ⟨t0, t1, t2, t5, t6, t7⟩, ⟨tw, -⟩, -⟩ := hL3
    refine act_fin (kd := nI 4) (p0 := nI 0) (p1 := nI 0) (p2 := nI 0) (ans := nI (cntN (fun b => (maskN (chW sc of N wn z) N).testBit b) 12)) (start _ _ ?_) hL2 (os_res (th := th) hz hsc hof n0 n1 g0 hG s2 s6 s7 sw swb sS spab t2 k3 k4 (t5.trans s5.symm) (t6.trans s6.symm) (t7.trans s7.symm) tw kq kq0 kq2)
    rw [if_neg (by rw [s1, sI_eq (by omega) (by omega)]; exact hG20), ea, am_call5_e, kOne_e, Option.bind_some, if_pos rfl]
theorem act_set (hL : LSt N G z th sc of wn pl pa g w c) (hy : y < 10000000) (hway : way < 22) (e1 : F_L_low (p5 >>> ((5 : Int32) &&& 31)) (10000000 : Int32) = some (nI y)) (e2 : F_L_low p5 (22 : Int32) = some (nI way)) (h19 : 19 ≤ way) : ActOk N G pl pa g w q c p5 := by
  have hL' := hL
  obtain ⟨⟨n0, n1, g0, g1, hz, hth, hsc, hof⟩, ⟨s0, s1, s2, s5, s6, s7⟩, ⟨sw, swb, sS⟩, ⟨splb, spab⟩, hC⟩ := hL'
  obtain ⟨j, hj', hj⟩ : ∃ j, j = y % 3 ∧ j < 3 := ⟨_, rfl, by omega⟩
  obtain ⟨m, M, hm, hM, eJ⟩ : ∃ m M, m = M + 1 ∧ M = (if j = 0 then 12 else if j = 1 then 2 else 99) ∧ ∀ (B : Int32 → Option AR), am_let B (fun J => if nI j = nI 0 then J (nI 13) else if nI j = nI 1 then J (nI 3) else J (nI 100)) = B (nI m) := by
    have h3 : j = 0 ∨ j = 1 ∨ j = 2 := by omega
    rcases h3 with h | h | h
    · exact ⟨13, 12, rfl, by rw [if_pos h], fun B => by rw [am_let_e, if_pos (by rw [h])]⟩
    · exact ⟨3, 2, rfl, by rw [if_neg (by omega), if_pos h], fun B => by rw [am_let_e, if_neg (by rw [sI_eq (by omega) (by omega)]; omega), if_pos (by rw [h])]⟩
    · exact ⟨100, 99, rfl, by rw [if_neg (by omega), if_neg (by omega)], fun B => by rw [am_let_e, if_neg (by rw [sI_eq (by omega) (by omega)]; omega), if_neg (by rw [sI_eq (by omega) (by omega)]; omega)]⟩
  have hM2 : M ≤ 99 := by
    rw [hM]
    split
    · omega
    · split <;> omega
  obtain ⟨x, hx', hx⟩ : ∃ x, x = y / 3 % m ∧ x ≤ M := ⟨_, rfl, by have := Nat.mod_lt (y / 3) (show 0 < m by omega); omega⟩
  obtain ⟨yv, hyv, hyv2⟩ : ∃ yv, yv < 1000 ∧ g (5 + j) = nI yv := by
    have h3 : j = 0 ∨ j = 1 ∨ j = 2 := by omega
    rcases h3 with h | h | h
    · exact ⟨th, by omega, by rw [h]; exact s5⟩
    · exact ⟨sc, by omega, by rw [h]; exact s6⟩
    · exact ⟨of, by omega, by rw [h]; exact s7⟩
  have hu : ∀ i, i ≠ 5 + j → upd g (5 + j) (nI x) i = g i := fun i hi => upd_n hi
  have hL3 : ∃ th' sc' of', LSt N G z th' sc' of' wn pl pa (upd g (5 + j) (nI x)) w c := by
    have h3 : j = 0 ∨ j = 1 ∨ j = 2 := by omega
    rcases h3 with h | h | h
    · refine ⟨x, sc, of, ⟨n0, n1, g0, g1, hz, ?_, hsc, hof⟩, ⟨by rw [hu _ (by omega)]; exact s0, by rw [hu _ (by omega)]; exact s1, by rw [hu _ (by omega)]; exact s2, by rw [h]; exact upd_s _ _ _, by rw [hu _ (by omega)]; exact s6, by rw [hu _ (by omega)]; exact s7⟩, ⟨sw, swb, sS⟩, ⟨splb, spab⟩, hC⟩
      rw [if_pos h] at hM
      omega
    · refine ⟨th, x, of, ⟨n0, n1, g0, g1, hz, hth, ?_, hof⟩, ⟨by rw [hu _ (by omega)]; exact s0, by rw [hu _ (by omega)]; exact s1, by rw [hu _ (by omega)]; exact s2, by rw [hu _ (by omega)]; exact s5, by rw [h]; exact upd_s _ _ _, by rw [hu _ (by omega)]; exact s7⟩, ⟨sw, swb, sS⟩, ⟨splb, spab⟩, hC⟩
      rw [if_neg (by omega), if_pos h] at hM
      omega
    · refine ⟨th, sc, x, ⟨n0, n1, g0, g1, hz, hth, hsc, ?_⟩, ⟨by rw [hu _ (by omega)]; exact s0, by rw [hu _ (by omega)]; exact s1, by rw [hu _ (by omega)]; exact s2, by rw [hu _ (by omega)]; exact s5, by rw [hu _ (by omega)]; exact s6, by rw [h]; exact upd_s _ _ _⟩, ⟨sw, swb, sS⟩, ⟨splb, spab⟩, hC⟩
      omega
  obtain ⟨th', sc', of', hL3⟩ := hL3
  refine act_fin (kd := nI 5) (p0 := nI j) (p1 := nI x) (p2 := nI 0) (ans := nI yv) (q' := q) ?_ hL3 (os_set n1 g1 hj hM hx hyv hyv2 (upd_s _ _ _) hu)
  unfold F_L_acts
  rw [e1, e2, Option.bind_some, Option.bind_some, am_let_e, noBegin hy hway (fun h => by omega), if_pos (by rw [li_4, sI_le (by omega) (by omega)]; omega), if_pos (by rw [li_9, sI_le (by omega) (by omega)]; omega), if_pos (by rw [li_16, sI_le (by omega) (by omega)]; omega), if_pos (by rw [li_19, sI_le (by omega) (by omega)]; omega)]
  simp (disch := omega) only [li_0, li_1, li_2, li_3, li_4, li_5, li_6, li_7, li_8, li_9, li_10, li_11, li_12, li_13, li_14, li_15, li_16, li_19, li_20, li_21, li_22, li_23, li_32, li_36, li_48, li_50, li_60, li_63, li_74, li_75, li_98, li_99, li_100, li_199, li_200, li_256, li_7919, li_65537, li_1000000, li_1000001, li_10000000, ll_0, ll_1, ll_100, ll_65535, sI_div, sI_mul, sI_rem2]
  rw [← hj', am_let_e]
  simp (disch := omega) only [sI_add, am_in_n, sI_cl, hyv2]
  rw [am_let_e, eJ]
  simp (disch := omega) only [am_nz_n, sI_div, sI_mul, sI_rem2, upd_s]
  rw [← hx', am_let_e, upd_s, kOne_e, Option.bind_some, if_pos rfl]
end Acts
