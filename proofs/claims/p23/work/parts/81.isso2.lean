-- the whole look, loop by loop
theorem am_ite {R A : Type} {P : Prop} [Decidable P] (B : A → Option R) (a b : A) : (am_let B fun J => if P then J a else J b) = B (if P then a else b) := by
  by_cases h : P
  · rw [am_let_e, if_pos h, if_pos h]
  · rw [am_let_e, if_neg h, if_neg h]
section IsSo2
variable {N G z th sc of : Nat} {wn : Nat → Nat} {pl pa : Nat → Nat → Nat} {g w q : Nat → Int32} {c : Nat → Int64} {v : Nat → Nat → Int32} {f : Nat → Nat → Nat → Int32}
theorem so_loop (hL : LSt N G z th sc of wn pl pa g w c) (hR : RlS N G g w q pl pa (v 0) (f 0)) (K : Int32 → Int32 → Int32 → Int32 → Option Int32) : am_loop5 (F_L_isSo_B27 (nI N) K v f c g (nI (sumN wn N)) w) am_fuel (nI 0) (nI 0) (nI 0) (nI 1) (nI 0) = K (nI (cntN (fun k => decide (wn k = 0)) N)) (nI (cntN (fun k => firN (pl (G - 1)) k N) N)) (nI (sumN wn N)) (nI 1) := by
  have hL' := hL
  obtain ⟨⟨n0, n1, g0, g1, hz, hth, hsc, hof⟩, ⟨s0, s1, s2, s5, s6, s7⟩, ⟨sw, swb, sS⟩, ⟨splb, spab⟩, hC⟩ := hL'
  have hS2 := (sq_le n1 swb).1
  have e9 : nI G - nI 1 = nI (G - 1) := sI_sub g0
  obtain ⟨a, b, d, t, ⟨ha, hb, hd, ht⟩, e⟩ := for5L (b := F_L_isSo_B27 (nI N) K v f c g (nI (sumN wn N)) w) nI N (fun j a b d t => a = nI (cntN (fun k => decide (wn k = 0)) j) ∧ b = nI (cntN (fun k => firN (pl (G - 1)) k N) j) ∧ d = nI (sumN wn j) ∧ t = nI 1) K (by
    rintro rec a b d t k hk ⟨rfl, rfl, rfl, rfl⟩
    refine ⟨nI (cntN (fun k => decide (wn k = 0)) (k + 1)), nI (cntN (fun k => firN (pl (G - 1)) k N) (k + 1)), nI (sumN wn (k + 1)), nI 1, ⟨rfl, rfl, rfl, rfl⟩, ?_⟩
    obtain ⟨p0, p1, p2, p3, p4, p5, p6, p7⟩ := t_part hL hR hk
    have hpk := splb (G - 1) k (by omega) hk
    have hbk := swb k hk
    have hwk := sw k hk
    obtain ⟨S, hS⟩ : ∃ S, S = sumN wn N := ⟨_, rfl⟩
    rw [← hS] at p4 p5 hS2 sS ⊢
    obtain ⟨gd, hgd⟩ : ∃ gd, gd = Nat.gcd (wn k) S := ⟨_, rfl⟩
    rw [← hgd] at p4 p5
    have hg0 : 0 < gd := by rw [hgd]; exact Nat.gcd_pos_of_pos_right _ sS
    have hdS : gd * (S / gd) = S := Nat.mul_div_cancel' (by rw [hgd]; exact Nat.gcd_dvd_right _ _)
    have hdw : gd * (wn k / gd) = wn k := Nat.mul_div_cancel' (by rw [hgd]; exact Nat.gcd_dvd_left _ _)
    have hcop : Nat.gcd (wn k / gd) (S / gd) = 1 := by
      rw [hgd, Nat.gcd_div (Nat.gcd_dvd_left _ _) (Nat.gcd_dvd_right _ _), ← hgd]
      exact Nat.div_self hg0
    obtain ⟨low, hlow⟩ : ∃ low, low = S / gd := ⟨_, rfl⟩
    obtain ⟨upp, hupp⟩ : ∃ upp, upp = wn k / gd := ⟨_, rfl⟩
    rw [← hlow] at p5 hdS hcop
    rw [← hupp] at p4 hdw hcop
    have hlow0 : 0 < low := by
      rcases Nat.eq_zero_or_pos low with h | h
      · rw [h, Nat.mul_zero] at hdS; omega
      · exact h
    have hlowS : low ≤ S := by rw [hlow]; exact Nat.div_le_self _ _
    have hupw : upp ≤ wn k := by rw [hupp]; exact Nat.div_le_self _ _
    have hgdS : gd ≤ S := by rw [← hdS]; exact Nat.le_mul_of_pos_right _ hlow0
    have hSl : S / low = gd := by rw [← hdS]; exact Nat.mul_div_cancel _ hlow0
    have hSm : S % low = 0 := by rw [← hdS]; exact Nat.mul_mod_left _ _
    obtain ⟨par, hpar⟩ : ∃ par, par = if G - 1 = 0 then 15 else pa (G - 1) k := ⟨_, rfl⟩
    have hparb : par ≤ 15 := by
      rw [hpar]
      by_cases h : G - 1 = 0
      · rw [if_pos h]; omega
      · rw [if_neg h]
        have := spab (G - 1) k (by omega) (by omega) hk
        omega
    have eof : F_L_of c (nI (G - 1)) (nI k) = some (nI (pl (G - 1) k + 256 * par)) := l_of (by omega) (by omega) (by rw [hC (G - 1) k (by omega) hk, ← hpar]) (by omega)
    have ed : nI (pl (G - 1) k + 256 * par) / nI 256 = nI par := by
      rw [sI_div (by omega) (by omega) (by omega)]
      congr 1
      omega
    have eP : (if nI par = nI 15 then (-1000004 : Int32) else nI par) = if G = 1 then -1000004 else nI (pa (G - 1) k) := by
      by_cases h : G = 1
      · rw [if_pos h, if_pos (by rw [hpar, if_pos (by omega)])]
      · have h2 : par = pa (G - 1) k := by rw [hpar, if_neg (by omega)]
        have := spab (G - 1) k (by omega) (by omega) hk
        rw [if_neg h, if_neg (by rw [sI_eq (by omega) (by omega)]; omega), h2]
    have ez : nI (cntN (fun k => decide (wn k = 0)) k) + (if w k = nI 0 then nI 1 else nI 0) = nI (cntN (fun k => decide (wn k = 0)) (k + 1)) := by
      show _ = nI (cntN (fun k => decide (wn k = 0)) k + (if decide (wn k = 0) = true then 1 else 0))
      rw [hwk]
      by_cases h : wn k = 0
      · rw [if_pos (by rw [h]), decide_eq_true h, if_pos rfl, sI_add]
      · rw [if_neg (by rw [sI_eq (by omega) (by omega)]; exact h), decide_eq_false h, if_neg (by decide), sI_add]
    have ef : nI (cntN (fun k => firN (pl (G - 1)) k N) k) + (if (if firN (pl (G - 1)) k N = true then nI 1 else nI 0) = nI 0 then nI 0 else nI 1) = nI (cntN (fun k => firN (pl (G - 1)) k N) (k + 1)) := by
      show _ = nI (cntN (fun k => firN (pl (G - 1)) k N) k + (if firN (pl (G - 1)) k N = true then 1 else 0))
      cases h : firN (pl (G - 1)) k N with
      | true => rw [if_pos rfl, if_pos rfl, if_neg (by decide), sI_add]
      | false => rw [show (if false = true then nI 1 else nI 0) = nI 0 from if_neg (by decide), if_pos rfl, if_neg (by decide), sI_add]
    have em : nI S - nI S / nI low * nI low = nI 0 := by rw [sI_rem (by omega) hlow0 (by omega), hSm]
    have ec : lg_cmp ((nI upp).toInt64 * (nI S / nI low).toInt64) (w k).toInt64 = nI 0 := by
      rw [sI_div (by omega) hlow0 (by omega), hSl, hwk, sI_l (by omega), sI_l (by omega), sI_l (by omega), lN_mul, Nat.mul_comm upp gd, hdw, sg_eq (by omega) (by omega)]
    have es : nI (sumN wn k) + nI S / nI low * nI upp = nI (sumN wn (k + 1)) := by
      rw [sI_div (by omega) hlow0 (by omega), hSl, sI_mul, hdw, sI_add]
      rfl
    have hl0 : ¬ nI low ≤ nI 0 := by rw [sI_le (by omega) (by omega)]; omega
    have n10 : ¬ nI 1 = nI 0 := by decide
    unfold F_L_isSo_B27
    simp only [li_0, li_1, li_2, li_3, li_4, li_5, li_6, li_7, li_8, li_9, li_10, li_11, li_12, li_13, li_14, li_15, li_16, li_19, li_20, li_21, li_22, li_23, li_32, li_36, li_48, li_50, li_60, li_63, li_74, li_75, li_98, li_99, li_100, li_199, li_200, li_256, li_7919, li_65537, li_1000000, li_1000001, li_10000000, ll_0, ll_1, ll_100, ll_65535]
    rw [if_neg (by rw [sI_le (by omega) (by omega)]; omega), if_neg n10, am_let_e, so_inner hL _ hk]
    have ck : (nI k).toNatClampNeg = k := sI_cl (by omega)
    have c1 : (nI 1).toNatClampNeg = 1 := sI_cl (by omega)
    have am : ∀ X : Option Int32, am_in (nI k) 12 X = X := fun X => am_in_n (by omega) (by omega)
    simp only [ck, c1, am]
    rw [am_ite, am_let_e, ez, am_ite, am_let_e, ef, p4, Option.bind_some, p5, Option.bind_some, s1, e9, eof, Option.bind_some, ed, am_let_e, p0, Option.bind_some, place_of hL hk, Option.bind_some, am_let_e, am_let_e, if_pos rfl, p1, Option.bind_some, if_pos hwk.symm, p2, Option.bind_some, am_ite, eP, if_pos rfl, p3, Option.bind_some, if_pos rfl, if_neg hl0, am_nz_n hlow0 (by omega), if_pos em, am_nz_n hlow0 (by omega), if_pos ec, p6, Option.bind_some, if_pos rfl, p7, Option.bind_some, if_pos (show (-1000001 : Int32) = -nI 1000001 from rfl)]
    dsimp only
    rw [am_let_e, so_gcd _ _ _ (by omega) (by omega), hcop, am_let_e, am_let_e, if_neg n10, if_pos rfl]
    dsimp only
    rw [if_neg hl0, am_nz_n hlow0 (by omega), es, am_let_e, am_let_e, sI_add]) (by
    rintro rec a b d t -
    unfold F_L_isSo_B27
    rw [if_pos (Int32.le_refl _)]) 0 (Nat.zero_le _) am_fuel (by rw [fuelE]; omega) (nI 0) (nI 0) (nI 0) (nI 1) ⟨rfl, rfl, rfl, rfl⟩
  rw [e, ha, hb, hd, ht]
theorem so_gens (hL : LSt N G z th sc of wn pl pa g w c) (hR : RlS N G g w q pl pa (v 0) (f 0)) (K : Int32 → Option Int32) : am_loop2 (F_L_isSo_B582 g K q v f) am_fuel (nI 1) (nI 0) = K (nI 1) := by
  have hL' := hL
  obtain ⟨⟨n0, n1, g0, g1, hz, hth, hsc, hof⟩, ⟨s0, s1, s2, s5, s6, s7⟩, -⟩ := hL'
  have n10 : ¬ nI 1 = nI 0 := by decide
  obtain ⟨t, ht, e⟩ := for2L (b := F_L_isSo_B582 g K q v f) nI G (fun j t => t = nI 1) K (by
    rintro rec t h hh rfl
    refine ⟨nI 1, rfl, ?_⟩
    obtain ⟨p0, p1, p2, p3, -⟩ := t_gen hL hR hh
    unfold F_L_isSo_B582
    simp (disch := omega) only [li_0, li_1, li_2, li_3, li_4, li_5, li_6, li_7, li_8, li_9, li_10, li_11, li_12, li_13, li_14, li_15, li_16, li_19, li_20, li_21, li_22, li_23, li_32, li_36, li_48, li_50, li_60, li_63, li_74, li_75, li_98, li_99, li_100, li_199, li_200, li_256, li_7919, li_65537, li_1000000, li_1000001, li_10000000, ll_0, ll_1, ll_100, ll_65535, sI_cl, sI_mul, sI_add, am_in_n, s1]
    rw [if_neg (by rw [sI_le (by omega) (by omega)]; omega), if_neg n10, am_let_e, p0, Option.bind_some, if_pos rfl, p1, Option.bind_some, am_ite, if_pos rfl, p2, Option.bind_some, am_ite, if_pos rfl, p3, Option.bind_some, am_ite, if_pos rfl, am_let_e]) (by
    rintro rec t -
    unfold F_L_isSo_B582
    simp (disch := omega) only [li_0, li_1, li_2, li_3, li_4, li_5, li_6, li_7, li_8, li_9, li_10, li_11, li_12, li_13, li_14, li_15, li_16, li_19, li_20, li_21, li_22, li_23, li_32, li_36, li_48, li_50, li_60, li_63, li_74, li_75, li_98, li_99, li_100, li_199, li_200, li_256, li_7919, li_65537, li_1000000, li_1000001, li_10000000, ll_0, ll_1, ll_100, ll_65535, sI_cl, s1, sI_le, if_pos]) 0 (Nat.zero_le _) am_fuel (by rw [fuelE]; omega) (nI 1) rfl
  rw [e, ht]
theorem isSo_ok (hL : LSt N G z th sc of wn pl pa g w c) (hR : RlS N G g w q pl pa (v 0) (f 0)) {u : Nat → Int32} (hu : u 0 = nI 0) (rec : Int32) : F_L_isSo rec v f u g w q c = some (nI 1) := by
  have hL' := hL
  obtain ⟨⟨n0, n1, g0, g1, hz, hth, hsc, hof⟩, ⟨s0, s1, s2, s5, s6, s7⟩, ⟨sw, swb, sS⟩, ⟨splb, spab⟩, hC⟩ := hL'
  have n10 : ¬ nI 1 = nI 0 := by decide
  have tc := t_count hL hR rec (u 0)
  have ecn : F_L_counts g w = some (nI (effN wn N)) := l_counts s0 n1 sw swb sS
  have e6 : newN (fun k => nI (pl (G - 1) k)) N = cntN (fun k => firN (pl (G - 1)) k N) N := by
    apply cntN_congr
    intro k hk
    exact (firN_non hk (fun j hj => splb (G - 1) j (by omega) hj)).symm
  have q0 := tc 0 _ (Or.inl ⟨rfl, rfl⟩)
  have q1 := tc 1 _ (Or.inr (Or.inl ⟨rfl, rfl⟩))
  have q2 := tc 2 _ (Or.inr (Or.inr (Or.inl ⟨rfl, rfl⟩)))
  have q3 := tc 3 _ (Or.inr (Or.inr (Or.inr (Or.inl ⟨rfl, rfl⟩))))
  have q4 := tc 4 _ (Or.inr (Or.inr (Or.inr (Or.inr (Or.inl ⟨rfl, rfl⟩)))))
  have q5 := tc 5 _ (Or.inr (Or.inr (Or.inr (Or.inr (Or.inr (Or.inl ⟨rfl, rfl⟩))))))
  have q6 := tc 6 _ (Or.inr (Or.inr (Or.inr (Or.inr (Or.inr (Or.inr (Or.inl ⟨rfl, rfl⟩)))))))
  have q7 := tc 7 _ (Or.inr (Or.inr (Or.inr (Or.inr (Or.inr (Or.inr (Or.inr (Or.inl ⟨rfl, rfl⟩))))))))
  have q8 := tc 8 _ (Or.inr (Or.inr (Or.inr (Or.inr (Or.inr (Or.inr (Or.inr (Or.inr (Or.inl ⟨rfl, rfl⟩)))))))))
  have zq10 := tc 10 _ (Or.inr (Or.inr (Or.inr (Or.inr (Or.inr (Or.inr (Or.inr (Or.inr (Or.inr (Or.inl ⟨rfl, rfl⟩))))))))))
  have q20 := tc 20 _ (Or.inr (Or.inr (Or.inr (Or.inr (Or.inr (Or.inr (Or.inr (Or.inr (Or.inr (Or.inr (Or.inr (Or.inl ⟨rfl, rfl⟩))))))))))))
  have q21 := tc 21 _ (Or.inr (Or.inr (Or.inr (Or.inr (Or.inr (Or.inr (Or.inr (Or.inr (Or.inr (Or.inr (Or.inr (Or.inr (Or.inl ⟨rfl, rfl⟩)))))))))))))
  have q22 := tc 22 _ (Or.inr (Or.inr (Or.inr (Or.inr (Or.inr (Or.inr (Or.inr (Or.inr (Or.inr (Or.inr (Or.inr (Or.inr (Or.inr (Or.inl ⟨rfl, rfl⟩))))))))))))))
  rw [e6] at q6
  have c0 : (nI 0).toNatClampNeg = 0 := sI_cl (by omega)
  have c1 : (nI 1).toNatClampNeg = 1 := sI_cl (by omega)
  have c2 : (nI 2).toNatClampNeg = 2 := sI_cl (by omega)
  have c3 : (nI 3).toNatClampNeg = 3 := sI_cl (by omega)
  have c4 : (nI 4).toNatClampNeg = 4 := sI_cl (by omega)
  have c5 : (nI 5).toNatClampNeg = 5 := sI_cl (by omega)
  have c6 : (nI 6).toNatClampNeg = 6 := sI_cl (by omega)
  have c7 : (nI 7).toNatClampNeg = 7 := sI_cl (by omega)
  unfold F_L_isSo
  simp only [li_0, li_1, li_2, li_3, li_4, li_5, li_6, li_7, li_8, li_9, li_10, li_11, li_12, li_13, li_14, li_15, li_16, li_19, li_20, li_21, li_22, li_23, li_32, li_36, li_48, li_50, li_60, li_63, li_74, li_75, li_98, li_99, li_100, li_199, li_200, li_256, li_7919, li_65537, li_1000000, li_1000001, li_10000000, ll_0, ll_1, ll_100, ll_65535]
  simp only [c0, c1, c2, c3, c4, c5, c6, c7, s0, s1]
  rw [am_let_e, l_all s0 n1 sw, Option.bind_some, am_let_e, so_loop hL hR, am_let_e, am_let_e, if_neg n10, if_pos rfl, t_partN hL hR, Option.bind_some, if_pos (show (-1000001 : Int32) = -nI 1000001 from rfl), q0, Option.bind_some, if_pos rfl, q1, Option.bind_some, if_pos rfl, q2, Option.bind_some, if_pos rfl, q3, Option.bind_some, ecn, Option.bind_some, if_pos rfl, q4, Option.bind_some, if_pos rfl, q5, Option.bind_some, if_pos rfl, q6, Option.bind_some, if_pos rfl, q7, Option.bind_some, if_pos rfl, q8, Option.bind_some, if_pos rfl]
  dsimp only
  rw [am_let_e, so_gens hL hR, if_neg n10, t_genN hL hR, Option.bind_some, if_pos (show (-1000001 : Int32) = -nI 1000001 from rfl), q20, Option.bind_some, if_pos rfl, q21, Option.bind_some, if_pos rfl, q22, Option.bind_some, if_pos rfl, zq10, Option.bind_some, if_pos hu]
end IsSo2
