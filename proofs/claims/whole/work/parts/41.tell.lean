section Tell2
variable {N G z th sc of : Nat} {w : Nat → Nat} {pl pa : Nat → Nat → Nat} {s : Nat → Int32} {noi obs res lmany lgens : Int32} {lplf lpaf logf ldrf lspf lscf : Nat → Int32} {wmany : Int32} {wf sf : Nat → Int32}
theorem q_mean (hG : Good N G z th sc of w pl pa s) (hR : Rel N G noi obs res lmany lgens lplf lpaf logf ldrf lspf lscf wmany wf sf s) (p0 p1 : Int32) : ∃ r, F_X6_mean lmany lgens lplf lpaf wmany wf p0 p1 = some r ∧ F_X7_mean s p0 p1 = some r := by
  obtain ⟨⟨n0, n1, g0, g1, hz, hth, hsc, hof⟩, ⟨s0, s1, s2, s5, s6, s7⟩, ⟨sw, swb, sS⟩, ⟨spl, splb⟩, spa, spab, sp0⟩ := hG
  obtain ⟨⟨rfl, rfl, rfl, rfl, rfl, rfl, r5, r6, r7⟩, rw_, rg, rpl, rpa⟩ := hR
  have hpa : ∀ g k, 0 < g → g < G → k < N → lpaf (g * 12 + k) = nI (pa g k) := fun g k h1 h2 h3 => (rpa g k h1 h2 h3).trans (spa g k h1 h2 h3)
  have hS2 := (sq_le n1 swb).1
  have hwf : ∀ k, k < N → wf k = nI (w k) := fun k hk => (rw_ k hk).trans (sw k hk)
  have hwb : ∀ k, k < N → w k < 2147483648 := fun k hk => by have := swb k hk; omega
  have f1 := fsumC n1 hwf hwb
  have f2 := fsumM s0 n1 sw
  unfold F_X6_mean F_X7_mean
  rcases hasG p0 g0 g1 with ⟨g, hg, rfl, d1, d2⟩ | ⟨d1, d2⟩
  · rw [d1, d2 s s1, inEq]
    rcases isW01 p1 (nI 0) (nI 1) with c1 | c1
    · have ha : ∀ k, k < N → ancN pa (G - 1) k (G - 1 - g) < N := fun k hk => ancN_lt hk (fun g k h1 h2 h3 => spab g k h1 (by omega) h3) (G - 1 - g) (by omega)
      have e1 : ∀ k, k < N → F_X1_ancestorIn (nI G) lpaf (nI g) (nI k) = some (nI (ancN pa (G - 1) k (G - 1 - g))) := fun k hk => fancC n1 g0 g1 hg hk hpa spab
      have e2 : ∀ k, k < N → F_X7_up s (nI k) (nI g) = some (nI (ancN pa (G - 1) k (G - 1 - g))) := fun k hk => fupM s1 n1 g0 g1 hg hk spa spab
      have e3 : ∀ k, k < N → F_X1_placeIn lplf (nI g) (nI k) = some (nI (pl g k)) := fun k hk => by rw [fplaceC (by omega) (by omega), rpl _ _ hg hk, spl _ _ hg hk]
      have e4 : ∀ k, k < N → F_X7_placeIn s (nI g) (nI k) = some (nI (pl g k)) := fun k hk => by rw [fplaceM (by omega) (by omega), spl _ _ hg hk]
      have e5 : ∀ k, k < N → F_X5_weightOf wf (nI k) = some (nI (w k)) := fun k hk => by rw [fweightOf (by omega), hwf k hk]
      obtain ⟨v, hv⟩ : ∃ v : Nat → Nat, v = fun k => w k * pl g (ancN pa (G - 1) k (G - 1 - g)) := ⟨_, rfl⟩
      have hvb : ∀ k, k < N → v k ≤ 99000000 := fun k hk => by
        rw [hv]
        exact Nat.mul_le_mul (swb k hk) (splb g _ hg (ha k hk))
      have hvs := sumN_le N hvb
      have hvs2 : N * 99000000 ≤ 12 * 99000000 := Nat.mul_le_mul_right _ n1
      have hvj : ∀ j, j ≤ N → sumN v j ≤ 12 * 99000000 := fun j hj => by have := sumN_mono (w := v) hj; omega
      have v1 : ∀ k, w k * pl g (ancN pa (G - 1) k (G - 1 - g)) = v k := fun k => by rw [hv]
      simp only [am_let]
      simp (disch := omega) only [li_0, li_1, li_2, li_3, li_4, li_5, li_6, li_7, li_8, li_9, li_10, li_12, li_16, li_20, li_21, li_22, li_32, li_33, li_44, li_45, li_48, li_57, li_59, li_60, li_63, li_74, li_75, li_99, li_100, li_109, li_111, li_114, li_126, li_200, li_340, li_580, li_1740, li_65537, li_1000000, ll_0, ll_1, ll_100, c1, Option.bind_some, sI_eq, if_neg]
      unfold F_X4_partOfMean
      simp only [am_let]
      simp (disch := omega) only [li_0, li_1, li_2, li_3, li_4, li_5, li_6, li_7, li_8, li_9, li_10, li_12, li_16, li_20, li_21, li_22, li_32, li_33, li_44, li_45, li_48, li_57, li_59, li_60, li_63, li_74, li_75, li_99, li_100, li_109, li_111, li_114, li_126, li_200, li_340, li_580, li_1740, li_65537, li_1000000, ll_0, ll_1, ll_100]
      obtain ⟨x, hx, q1⟩ := for2L (b := F_X4_partOfMean_B5 (nI N) (fun x1 => (F_X5_sum (nI N) wf).bind fun r3 => (F_X6_partInLowestTerms x1 r3 p1).bind fun r4 => some r4) (nI G) lpaf (nI g) lplf wf) nI N (fun j x => x = lN (sumN v j)) (fun x1 => (F_X5_sum (nI N) wf).bind fun r3 => (F_X6_partInLowestTerms x1 r3 p1).bind fun r4 => some r4) (by
        rintro rec x j hj rfl
        refine ⟨_, rfl, ?_⟩
        have b1 := hwb j hj
        have b2 := splb g _ hg (ha j hj)
        have b3 := hvb j hj
        have b4 := hvj j (by omega)
        have b5 := v1 j
        unfold F_X4_partOfMean_B5 F_X1_many
        simp only [am_let]
        simp (disch := omega) only [if_true, if_false, am_in_n, am_nz_n, am_nzl_n, sI_add, sI_mul, sI_cl, sI_le, sI_lt, sI_eq, sI_l, lN_add, lN_mul, lN_i, sg_gt, sg_le, sg_eq, sg_ge, sI_rem, sI_div, sI_rem2, sL_rem, sL_div, sL_rem2, sI_sub, sI_m1, sI_m1n, sI_or, if_pos, if_neg, Option.bind_some, am_call2_e, am_call3_e, am_call4_e, am_call5_e, am_call6_e, am_call7_e, am_call8_e, am_call9_e, am_call10_e, am_call11_e, am_call12_e, am_call13_e, am_call14_e, li_0, li_1, li_2, li_3, li_4, li_5, li_6, li_7, li_8, li_9, li_10, li_12, li_16, li_20, li_21, li_22, li_32, li_33, li_44, li_45, li_48, li_57, li_59, li_60, li_63, li_74, li_75, li_99, li_100, li_109, li_111, li_114, li_126, li_200, li_340, li_580, li_1740, li_65537, li_1000000, ll_0, ll_1, ll_100, e1 j hj, e3 _ (ha j hj), e5 j hj, v1]
        rfl) (by
        rintro rec x -
        unfold F_X4_partOfMean_B5 F_X1_many
        simp only [am_let]
        simp (disch := omega) only [if_true, if_false, am_in_n, am_nz_n, am_nzl_n, sI_add, sI_mul, sI_cl, sI_le, sI_lt, sI_eq, sI_l, lN_add, lN_mul, lN_i, sg_gt, sg_le, sg_eq, sg_ge, sI_rem, sI_div, sI_rem2, sL_rem, sL_div, sL_rem2, sI_sub, sI_m1, sI_m1n, sI_or, if_pos, if_neg, Option.bind_some, am_call2_e, am_call3_e, am_call4_e, am_call5_e, am_call6_e, am_call7_e, am_call8_e, am_call9_e, am_call10_e, am_call11_e, am_call12_e, am_call13_e, am_call14_e, li_0, li_1, li_2, li_3, li_4, li_5, li_6, li_7, li_8, li_9, li_10, li_12, li_16, li_20, li_21, li_22, li_32, li_33, li_44, li_45, li_48, li_57, li_59, li_60, li_63, li_74, li_75, li_99, li_100, li_109, li_111, li_114, li_126, li_200, li_340, li_580, li_1740, li_65537, li_1000000, ll_0, ll_1, ll_100]) 0 (Nat.zero_le _) am_fuel (by rw [fuelE]; omega) (lN 0) rfl
      obtain ⟨x', hx', q2⟩ := for2L (b := F_X7_mean_B25 s (fun x3 => (F_X7_sum s).bind fun r5 => (F_X7_part x3 r5.toInt64 p1).bind fun r6 => some r6) (nI g)) nI N (fun j x => x = lN (sumN v j)) (fun x3 => (F_X7_sum s).bind fun r5 => (F_X7_part x3 r5.toInt64 p1).bind fun r6 => some r6) (by
        rintro rec x j hj rfl
        refine ⟨_, rfl, ?_⟩
        have b1 := hwb j hj
        have b2 := splb g _ hg (ha j hj)
        have b3 := hvb j hj
        have b4 := hvj j (by omega)
        have b5 := v1 j
        unfold F_X7_mean_B25
        simp only [am_let]
        simp (disch := omega) only [if_true, if_false, am_in_n, am_nz_n, am_nzl_n, sI_add, sI_mul, sI_cl, sI_le, sI_lt, sI_eq, sI_l, lN_add, lN_mul, lN_i, sg_gt, sg_le, sg_eq, sg_ge, sI_rem, sI_div, sI_rem2, sL_rem, sL_div, sL_rem2, sI_sub, sI_m1, sI_m1n, sI_or, if_pos, if_neg, Option.bind_some, am_call2_e, am_call3_e, am_call4_e, am_call5_e, am_call6_e, am_call7_e, am_call8_e, am_call9_e, am_call10_e, am_call11_e, am_call12_e, am_call13_e, am_call14_e, li_0, li_1, li_2, li_3, li_4, li_5, li_6, li_7, li_8, li_9, li_10, li_12, li_16, li_20, li_21, li_22, li_32, li_33, li_44, li_45, li_48, li_57, li_59, li_60, li_63, li_74, li_75, li_99, li_100, li_109, li_111, li_114, li_126, li_200, li_340, li_580, li_1740, li_65537, li_1000000, ll_0, ll_1, ll_100, s0, sw j hj, e2 j hj, e4 _ (ha j hj), v1]
        rfl) (by
        rintro rec x -
        unfold F_X7_mean_B25
        simp only [am_let]
        simp (disch := omega) only [if_true, if_false, am_in_n, am_nz_n, am_nzl_n, sI_add, sI_mul, sI_cl, sI_le, sI_lt, sI_eq, sI_l, lN_add, lN_mul, lN_i, sg_gt, sg_le, sg_eq, sg_ge, sI_rem, sI_div, sI_rem2, sL_rem, sL_div, sL_rem2, sI_sub, sI_m1, sI_m1n, sI_or, if_pos, if_neg, Option.bind_some, am_call2_e, am_call3_e, am_call4_e, am_call5_e, am_call6_e, am_call7_e, am_call8_e, am_call9_e, am_call10_e, am_call11_e, am_call12_e, am_call13_e, am_call14_e, li_0, li_1, li_2, li_3, li_4, li_5, li_6, li_7, li_8, li_9, li_10, li_12, li_16, li_20, li_21, li_22, li_32, li_33, li_44, li_45, li_48, li_57, li_59, li_60, li_63, li_74, li_75, li_99, li_100, li_109, li_111, li_114, li_126, li_200, li_340, li_580, li_1740, li_65537, li_1000000, ll_0, ll_1, ll_100, s0]) 0 (Nat.zero_le _) am_fuel (by rw [fuelE]; omega) (lN 0) rfl
      rw [q1, q2, hx, hx', f1, f2]
      have b6 := hvj N (Nat.le_refl N)
      have h7 := fpartC (sumN v N) (sumN w N) (by omega) sS (by omega) p1
      have h8 := fpartM (sumN v N) (sumN w N) (by omega) sS (by omega) p1
      refine ⟨if p1 = nI 0 then nI (sumN v N / Nat.gcd (sumN v N) (sumN w N)) else nI (sumN w N / Nat.gcd (sumN v N) (sumN w N)), ?_, ?_⟩ <;> simp (disch := omega) only [Option.bind_some, sI_l, h7, h8]
    · refine ⟨-1000001, ?_, ?_⟩ <;> simp (disch := omega) only [li_0, li_1, li_2, li_3, li_4, li_5, li_6, li_7, li_8, li_9, li_10, li_12, li_16, li_20, li_21, li_22, li_32, li_33, li_44, li_45, li_48, li_57, li_59, li_60, li_63, li_74, li_75, li_99, li_100, li_109, li_111, li_114, li_126, li_200, li_340, li_580, li_1740, li_65537, li_1000000, ll_0, ll_1, ll_100, c1, Option.bind_some, sI_eq, if_neg, if_true]
  · rw [d1, d2 s s1]
    refine ⟨-1000001, ?_, ?_⟩ <;> simp (disch := omega) only [if_true, if_false, am_in_n, am_nz_n, am_nzl_n, sI_add, sI_mul, sI_cl, sI_le, sI_lt, sI_eq, sI_l, lN_add, lN_mul, lN_i, sg_gt, sg_le, sg_eq, sg_ge, sI_rem, sI_div, sI_rem2, sL_rem, sL_div, sL_rem2, sI_sub, sI_m1, sI_m1n, sI_or, if_pos, if_neg, Option.bind_some, am_call2_e, am_call3_e, am_call4_e, am_call5_e, am_call6_e, am_call7_e, am_call8_e, am_call9_e, am_call10_e, am_call11_e, am_call12_e, am_call13_e, am_call14_e, li_0, li_1, li_2, li_3, li_4, li_5, li_6, li_7, li_8, li_9, li_10, li_12, li_16, li_20, li_21, li_22, li_32, li_33, li_44, li_45, li_48, li_57, li_59, li_60, li_63, li_74, li_75, li_99, li_100, li_109, li_111, li_114, li_126, li_200, li_340, li_580, li_1740, li_65537, li_1000000, ll_0, ll_1, ll_100]
theorem q_share (hG : Good N G z th sc of w pl pa s) (hR : Rel N G noi obs res lmany lgens lplf lpaf logf ldrf lspf lscf wmany wf sf s) (p0 p1 p2 p3 : Int32) : ∃ r, F_X6_share lmany lgens lplf lpaf wmany wf p0 p1 p2 p3 = some r ∧ F_X7_share s p0 p1 p2 p3 = some r := by
  obtain ⟨⟨n0, n1, g0, g1, hz, hth, hsc, hof⟩, ⟨s0, s1, s2, s5, s6, s7⟩, ⟨sw, swb, sS⟩, ⟨spl, splb⟩, spa, spab, sp0⟩ := hG
  obtain ⟨⟨rfl, rfl, rfl, rfl, rfl, rfl, r5, r6, r7⟩, rw_, rg, rpl, rpa⟩ := hR
  have hpa : ∀ g k, 0 < g → g < G → k < N → lpaf (g * 12 + k) = nI (pa g k) := fun g k h1 h2 h3 => (rpa g k h1 h2 h3).trans (spa g k h1 h2 h3)
  have hS2 := (sq_le n1 swb).1
  have hwf : ∀ k, k < N → wf k = nI (w k) := fun k hk => (rw_ k hk).trans (sw k hk)
  have hwb : ∀ k, k < N → w k < 2147483648 := fun k hk => by have := swb k hk; omega
  have f1 := fsumC n1 hwf hwb
  have f2 := fsumM s0 n1 sw
  unfold F_X6_share F_X7_share
  rcases hasG p0 g0 g1 with ⟨g, hg, rfl, d1, d2⟩ | ⟨d1, d2⟩
  · rw [d1, d2 s s1, inEq]
    rcases isW01 p1 (nI 0) (nI 99) with c1 | c1
    · rcases isW01 p2 (nI 0) (nI 99) with c2 | c2
      · rcases isW01 p3 (nI 0) (nI 1) with c3 | c3
        · have ha : ∀ k, k < N → ancN pa (G - 1) k (G - 1 - g) < N := fun k hk => ancN_lt hk (fun g k h1 h2 h3 => spab g k h1 (by omega) h3) (G - 1 - g) (by omega)
          have e1 : ∀ k, k < N → F_X1_ancestorIn (nI G) lpaf (nI g) (nI k) = some (nI (ancN pa (G - 1) k (G - 1 - g))) := fun k hk => fancC n1 g0 g1 hg hk hpa spab
          have e2 : ∀ k, k < N → F_X7_up s (nI k) (nI g) = some (nI (ancN pa (G - 1) k (G - 1 - g))) := fun k hk => fupM s1 n1 g0 g1 hg hk spa spab
          have e3 : ∀ k, k < N → F_X1_placeIn lplf (nI g) (nI k) = some (nI (pl g k)) := fun k hk => by rw [fplaceC (by omega) (by omega), rpl _ _ hg hk, spl _ _ hg hk]
          have e4 : ∀ k, k < N → F_X7_placeIn s (nI g) (nI k) = some (nI (pl g k)) := fun k hk => by rw [fplaceM (by omega) (by omega), spl _ _ hg hk]
          have e5 : ∀ k, k < N → F_X5_weightOf wf (nI k) = some (nI (w k)) := fun k hk => by rw [fweightOf (by omega), hwf k hk]
          obtain ⟨v, hv⟩ : ∃ v : Nat → Nat, v = fun k => if F_X6_isWithin (nI (pl g (ancN pa (G - 1) k (G - 1 - g)))) p1 p2 = some (nI 1) then w k else 0 := ⟨_, rfl⟩
          have hvb : ∀ k, k < N → v k ≤ 1000000 := fun k hk => by
            rw [hv]
            show (if _ then w k else 0) ≤ _
            split
            · exact swb k hk
            · omega
          have hvs := sumN_le N hvb
          have hvs2 : N * 1000000 ≤ 12 * 1000000 := Nat.mul_le_mul_right _ n1
          have hvj : ∀ j, j ≤ N → sumN v j ≤ 12 * 1000000 := fun j hj => by have := sumN_mono (w := v) hj; omega
          simp only [am_let]
          simp (disch := omega) only [li_0, li_1, li_2, li_3, li_4, li_5, li_6, li_7, li_8, li_9, li_10, li_12, li_16, li_20, li_21, li_22, li_32, li_33, li_44, li_45, li_48, li_57, li_59, li_60, li_63, li_74, li_75, li_99, li_100, li_109, li_111, li_114, li_126, li_200, li_340, li_580, li_1740, li_65537, li_1000000, ll_0, ll_1, ll_100, c1, c2, c3, Option.bind_some, sI_eq, if_neg]
          unfold F_X4_partOfShare
          simp only [am_let]
          simp (disch := omega) only [li_0, li_1, li_2, li_3, li_4, li_5, li_6, li_7, li_8, li_9, li_10, li_12, li_16, li_20, li_21, li_22, li_32, li_33, li_44, li_45, li_48, li_57, li_59, li_60, li_63, li_74, li_75, li_99, li_100, li_109, li_111, li_114, li_126, li_200, li_340, li_580, li_1740, li_65537, li_1000000, ll_0, ll_1, ll_100]
          obtain ⟨x, hx, q1⟩ := for2L (b := F_X4_partOfShare_B6 (nI N) (fun x1 => (F_X5_sum (nI N) wf).bind fun r3 => (F_X6_partInLowestTerms x1 r3 p3).bind fun r4 => some r4) (nI G) lpaf (nI g) lplf p1 p2 wf) nI N (fun j x => x = lN (sumN v j)) (fun x1 => (F_X5_sum (nI N) wf).bind fun r3 => (F_X6_partInLowestTerms x1 r3 p3).bind fun r4 => some r4) (by
            rintro rec x j hj rfl
            refine ⟨lN (sumN v (j + 1)), rfl, ?_⟩
            have b1 := hwb j hj
            have b3 := hvb j hj
            have b4 := hvj j (by omega)
            have b5 : sumN v (j + 1) = sumN v j + v j := rfl
            rw [b5]
            unfold F_X4_partOfShare_B6 F_X1_many
            simp only [am_let]
            rcases isW01 (nI (pl g (ancN pa (G - 1) j (G - 1 - g)))) p1 p2 with k1 | k1
            · have k2 : v j = w j := by rw [hv]; exact if_pos k1
              simp (disch := omega) only [if_true, if_false, am_in_n, am_nz_n, am_nzl_n, sI_add, sI_mul, sI_cl, sI_le, sI_lt, sI_eq, sI_l, lN_add, lN_mul, lN_i, sg_gt, sg_le, sg_eq, sg_ge, sI_rem, sI_div, sI_rem2, sL_rem, sL_div, sL_rem2, sI_sub, sI_m1, sI_m1n, sI_or, if_pos, if_neg, Option.bind_some, am_call2_e, am_call3_e, am_call4_e, am_call5_e, am_call6_e, am_call7_e, am_call8_e, am_call9_e, am_call10_e, am_call11_e, am_call12_e, am_call13_e, am_call14_e, li_0, li_1, li_2, li_3, li_4, li_5, li_6, li_7, li_8, li_9, li_10, li_12, li_16, li_20, li_21, li_22, li_32, li_33, li_44, li_45, li_48, li_57, li_59, li_60, li_63, li_74, li_75, li_99, li_100, li_109, li_111, li_114, li_126, li_200, li_340, li_580, li_1740, li_65537, li_1000000, ll_0, ll_1, ll_100, e1 j hj, e3 _ (ha j hj), e5 j hj, k1, k2]
            · have k2 : v j = 0 := by
                rw [hv]
                refine if_neg ?_
                rw [k1]
                decide
              simp (disch := omega) only [if_true, if_false, am_in_n, am_nz_n, am_nzl_n, sI_add, sI_mul, sI_cl, sI_le, sI_lt, sI_eq, sI_l, lN_add, lN_mul, lN_i, sg_gt, sg_le, sg_eq, sg_ge, sI_rem, sI_div, sI_rem2, sL_rem, sL_div, sL_rem2, sI_sub, sI_m1, sI_m1n, sI_or, if_pos, if_neg, Option.bind_some, am_call2_e, am_call3_e, am_call4_e, am_call5_e, am_call6_e, am_call7_e, am_call8_e, am_call9_e, am_call10_e, am_call11_e, am_call12_e, am_call13_e, am_call14_e, li_0, li_1, li_2, li_3, li_4, li_5, li_6, li_7, li_8, li_9, li_10, li_12, li_16, li_20, li_21, li_22, li_32, li_33, li_44, li_45, li_48, li_57, li_59, li_60, li_63, li_74, li_75, li_99, li_100, li_109, li_111, li_114, li_126, li_200, li_340, li_580, li_1740, li_65537, li_1000000, ll_0, ll_1, ll_100, e1 j hj, e3 _ (ha j hj), e5 j hj, k1, k2, Nat.add_zero]) (by
            rintro rec x -
            unfold F_X4_partOfShare_B6 F_X1_many
            simp only [am_let]
            simp (disch := omega) only [if_true, if_false, am_in_n, am_nz_n, am_nzl_n, sI_add, sI_mul, sI_cl, sI_le, sI_lt, sI_eq, sI_l, lN_add, lN_mul, lN_i, sg_gt, sg_le, sg_eq, sg_ge, sI_rem, sI_div, sI_rem2, sL_rem, sL_div, sL_rem2, sI_sub, sI_m1, sI_m1n, sI_or, if_pos, if_neg, Option.bind_some, am_call2_e, am_call3_e, am_call4_e, am_call5_e, am_call6_e, am_call7_e, am_call8_e, am_call9_e, am_call10_e, am_call11_e, am_call12_e, am_call13_e, am_call14_e, li_0, li_1, li_2, li_3, li_4, li_5, li_6, li_7, li_8, li_9, li_10, li_12, li_16, li_20, li_21, li_22, li_32, li_33, li_44, li_45, li_48, li_57, li_59, li_60, li_63, li_74, li_75, li_99, li_100, li_109, li_111, li_114, li_126, li_200, li_340, li_580, li_1740, li_65537, li_1000000, ll_0, ll_1, ll_100]) 0 (Nat.zero_le _) am_fuel (by rw [fuelE]; omega) (lN 0) rfl
          obtain ⟨x', hx', q2⟩ := for2L (b := F_X7_share_B47 s (fun x5 => (F_X7_sum s).bind fun r7 => (F_X7_part x5 r7.toInt64 p3).bind fun r8 => some r8) (nI g) p1 p2) nI N (fun j x => x = lN (sumN v j)) (fun x5 => (F_X7_sum s).bind fun r7 => (F_X7_part x5 r7.toInt64 p3).bind fun r8 => some r8) (by
            rintro rec x j hj rfl
            refine ⟨lN (sumN v (j + 1)), rfl, ?_⟩
            have b1 := hwb j hj
            have b3 := hvb j hj
            have b4 := hvj j (by omega)
            have b5 : sumN v (j + 1) = sumN v j + v j := rfl
            rw [b5]
            unfold F_X7_share_B47
            simp only [am_let, inEq]
            rcases isW01 (nI (pl g (ancN pa (G - 1) j (G - 1 - g)))) p1 p2 with k1 | k1
            · have k2 : v j = w j := by rw [hv]; exact if_pos k1
              simp (disch := omega) only [if_true, if_false, am_in_n, am_nz_n, am_nzl_n, sI_add, sI_mul, sI_cl, sI_le, sI_lt, sI_eq, sI_l, lN_add, lN_mul, lN_i, sg_gt, sg_le, sg_eq, sg_ge, sI_rem, sI_div, sI_rem2, sL_rem, sL_div, sL_rem2, sI_sub, sI_m1, sI_m1n, sI_or, if_pos, if_neg, Option.bind_some, am_call2_e, am_call3_e, am_call4_e, am_call5_e, am_call6_e, am_call7_e, am_call8_e, am_call9_e, am_call10_e, am_call11_e, am_call12_e, am_call13_e, am_call14_e, li_0, li_1, li_2, li_3, li_4, li_5, li_6, li_7, li_8, li_9, li_10, li_12, li_16, li_20, li_21, li_22, li_32, li_33, li_44, li_45, li_48, li_57, li_59, li_60, li_63, li_74, li_75, li_99, li_100, li_109, li_111, li_114, li_126, li_200, li_340, li_580, li_1740, li_65537, li_1000000, ll_0, ll_1, ll_100, s0, sw j hj, e2 j hj, e4 _ (ha j hj), k1, k2]
            · have k2 : v j = 0 := by
                rw [hv]
                refine if_neg ?_
                rw [k1]
                decide
              simp (disch := omega) only [if_true, if_false, am_in_n, am_nz_n, am_nzl_n, sI_add, sI_mul, sI_cl, sI_le, sI_lt, sI_eq, sI_l, lN_add, lN_mul, lN_i, sg_gt, sg_le, sg_eq, sg_ge, sI_rem, sI_div, sI_rem2, sL_rem, sL_div, sL_rem2, sI_sub, sI_m1, sI_m1n, sI_or, if_pos, if_neg, Option.bind_some, am_call2_e, am_call3_e, am_call4_e, am_call5_e, am_call6_e, am_call7_e, am_call8_e, am_call9_e, am_call10_e, am_call11_e, am_call12_e, am_call13_e, am_call14_e, li_0, li_1, li_2, li_3, li_4, li_5, li_6, li_7, li_8, li_9, li_10, li_12, li_16, li_20, li_21, li_22, li_32, li_33, li_44, li_45, li_48, li_57, li_59, li_60, li_63, li_74, li_75, li_99, li_100, li_109, li_111, li_114, li_126, li_200, li_340, li_580, li_1740, li_65537, li_1000000, ll_0, ll_1, ll_100, s0, sw j hj, e2 j hj, e4 _ (ha j hj), k1, k2, Nat.add_zero]) (by
            rintro rec x -
            unfold F_X7_share_B47
            simp only [am_let]
            simp (disch := omega) only [if_true, if_false, am_in_n, am_nz_n, am_nzl_n, sI_add, sI_mul, sI_cl, sI_le, sI_lt, sI_eq, sI_l, lN_add, lN_mul, lN_i, sg_gt, sg_le, sg_eq, sg_ge, sI_rem, sI_div, sI_rem2, sL_rem, sL_div, sL_rem2, sI_sub, sI_m1, sI_m1n, sI_or, if_pos, if_neg, Option.bind_some, am_call2_e, am_call3_e, am_call4_e, am_call5_e, am_call6_e, am_call7_e, am_call8_e, am_call9_e, am_call10_e, am_call11_e, am_call12_e, am_call13_e, am_call14_e, li_0, li_1, li_2, li_3, li_4, li_5, li_6, li_7, li_8, li_9, li_10, li_12, li_16, li_20, li_21, li_22, li_32, li_33, li_44, li_45, li_48, li_57, li_59, li_60, li_63, li_74, li_75, li_99, li_100, li_109, li_111, li_114, li_126, li_200, li_340, li_580, li_1740, li_65537, li_1000000, ll_0, ll_1, ll_100, s0]) 0 (Nat.zero_le _) am_fuel (by rw [fuelE]; omega) (lN 0) rfl
          rw [q1, q2, hx, hx', f1, f2]
          have b6 := hvj N (Nat.le_refl N)
          have h7 := fpartC (sumN v N) (sumN w N) (by omega) sS (by omega) p3
          have h8 := fpartM (sumN v N) (sumN w N) (by omega) sS (by omega) p3
          refine ⟨if p3 = nI 0 then nI (sumN v N / Nat.gcd (sumN v N) (sumN w N)) else nI (sumN w N / Nat.gcd (sumN v N) (sumN w N)), ?_, ?_⟩ <;> simp (disch := omega) only [Option.bind_some, sI_l, h7, h8]
        · refine ⟨-1000001, ?_, ?_⟩ <;> (simp (disch := omega) only [li_0, li_1, li_2, li_3, li_4, li_5, li_6, li_7, li_8, li_9, li_10, li_12, li_16, li_20, li_21, li_22, li_32, li_33, li_44, li_45, li_48, li_57, li_59, li_60, li_63, li_74, li_75, li_99, li_100, li_109, li_111, li_114, li_126, li_200, li_340, li_580, li_1740, li_65537, li_1000000, ll_0, ll_1, ll_100, c1, c2, c3, Option.bind_some, sI_eq, if_neg, if_true])
      · refine ⟨-1000001, ?_, ?_⟩ <;> (simp (disch := omega) only [li_0, li_1, li_2, li_3, li_4, li_5, li_6, li_7, li_8, li_9, li_10, li_12, li_16, li_20, li_21, li_22, li_32, li_33, li_44, li_45, li_48, li_57, li_59, li_60, li_63, li_74, li_75, li_99, li_100, li_109, li_111, li_114, li_126, li_200, li_340, li_580, li_1740, li_65537, li_1000000, ll_0, ll_1, ll_100, c1, c2, Option.bind_some, sI_eq, if_neg, if_true])
    · refine ⟨-1000001, ?_, ?_⟩ <;> (simp (disch := omega) only [li_0, li_1, li_2, li_3, li_4, li_5, li_6, li_7, li_8, li_9, li_10, li_12, li_16, li_20, li_21, li_22, li_32, li_33, li_44, li_45, li_48, li_57, li_59, li_60, li_63, li_74, li_75, li_99, li_100, li_109, li_111, li_114, li_126, li_200, li_340, li_580, li_1740, li_65537, li_1000000, ll_0, ll_1, ll_100, c1, Option.bind_some, sI_eq, if_neg, if_true])
  · rw [d1, d2 s s1]
    refine ⟨-1000001, ?_, ?_⟩ <;> simp (disch := omega) only [if_true, if_false, am_in_n, am_nz_n, am_nzl_n, sI_add, sI_mul, sI_cl, sI_le, sI_lt, sI_eq, sI_l, lN_add, lN_mul, lN_i, sg_gt, sg_le, sg_eq, sg_ge, sI_rem, sI_div, sI_rem2, sL_rem, sL_div, sL_rem2, sI_sub, sI_m1, sI_m1n, sI_or, if_pos, if_neg, Option.bind_some, am_call2_e, am_call3_e, am_call4_e, am_call5_e, am_call6_e, am_call7_e, am_call8_e, am_call9_e, am_call10_e, am_call11_e, am_call12_e, am_call13_e, am_call14_e, li_0, li_1, li_2, li_3, li_4, li_5, li_6, li_7, li_8, li_9, li_10, li_12, li_16, li_20, li_21, li_22, li_32, li_33, li_44, li_45, li_48, li_57, li_59, li_60, li_63, li_74, li_75, li_99, li_100, li_109, li_111, li_114, li_126, li_200, li_340, li_580, li_1740, li_65537, li_1000000, ll_0, ll_1, ll_100]
theorem q_count (hG : Good N G z th sc of w pl pa s) (hR : Rel N G noi obs res lmany lgens lplf lpaf logf ldrf lspf lscf wmany wf sf s) (rec len p0 : Int32) : ∃ r, F_X6_count rec noi obs res lmany lgens lplf wmany wf sf len p0 = some r ∧ F_X7_count rec len s p0 = some r := by
  obtain ⟨⟨n0, n1, g0, g1, hz, hth, hsc, hof⟩, ⟨s0, s1, s2, s5, s6, s7⟩, ⟨sw, swb, sS⟩, ⟨spl, splb⟩, spa, spab, sp0⟩ := hG
  obtain ⟨⟨rfl, rfl, rfl, rfl, rfl, rfl, r5, r6, r7⟩, rw_, rg, rpl, rpa⟩ := hR
  have hS2 := (sq_le n1 swb).1
  have hwf : ∀ k, k < N → wf k = nI (w k) := fun k hk => (rw_ k hk).trans (sw k hk)
  have hwb : ∀ k, k < N → w k < 2147483648 := fun k hk => by have := swb k hk; omega
  unfold F_X6_count F_X7_count F_X4_number F_X1_many F_X1_generations F_X3_length
  rw [inEq]
  have e6 : F_X1_howManyUnlikePlaces (nI N) lplf (nI (G - 1)) = some (nI (newN (fun k => s (340 + 12 * (G - 1) + k)) N)) := by
    rw [funlikeC (f := lplf) n1 (show G - 1 < 20 by omega), newN_congr N (fun k hk => rpl (G - 1) k (by omega) hk)]
  have e7 := funlikeM (t := 340) s0 n1 (show G - 1 < 20 by omega) (by omega)
  by_cases h0 : p0 = nI 0
  · subst h0
    refine ⟨nI N, ?_, ?_⟩ <;> simp (disch := omega) only [if_true, if_false, am_in_n, am_nz_n, am_nzl_n, sI_add, sI_mul, sI_cl, sI_le, sI_lt, sI_eq, sI_l, lN_add, lN_mul, lN_i, sg_gt, sg_le, sg_eq, sg_ge, sI_rem, sI_div, sI_rem2, sL_rem, sL_div, sL_rem2, sI_sub, sI_m1, sI_m1n, sI_or, if_pos, if_neg, Option.bind_some, am_call2_e, am_call3_e, am_call4_e, am_call5_e, am_call6_e, am_call7_e, am_call8_e, am_call9_e, am_call10_e, am_call11_e, am_call12_e, am_call13_e, am_call14_e, li_0, li_1, li_2, li_3, li_4, li_5, li_6, li_7, li_8, li_9, li_10, li_12, li_16, li_20, li_21, li_22, li_32, li_33, li_44, li_45, li_48, li_57, li_59, li_60, li_63, li_74, li_75, li_99, li_100, li_109, li_111, li_114, li_126, li_200, li_340, li_580, li_1740, li_65537, li_1000000, ll_0, ll_1, ll_100, s0]
  by_cases h1 : p0 = nI 1
  · subst h1
    refine ⟨nI G, ?_, ?_⟩ <;> simp (disch := omega) only [if_true, if_false, am_in_n, am_nz_n, am_nzl_n, sI_add, sI_mul, sI_cl, sI_le, sI_lt, sI_eq, sI_l, lN_add, lN_mul, lN_i, sg_gt, sg_le, sg_eq, sg_ge, sI_rem, sI_div, sI_rem2, sL_rem, sL_div, sL_rem2, sI_sub, sI_m1, sI_m1n, sI_or, if_pos, if_neg, Option.bind_some, am_call2_e, am_call3_e, am_call4_e, am_call5_e, am_call6_e, am_call7_e, am_call8_e, am_call9_e, am_call10_e, am_call11_e, am_call12_e, am_call13_e, am_call14_e, li_0, li_1, li_2, li_3, li_4, li_5, li_6, li_7, li_8, li_9, li_10, li_12, li_16, li_20, li_21, li_22, li_32, li_33, li_44, li_45, li_48, li_57, li_59, li_60, li_63, li_74, li_75, li_99, li_100, li_109, li_111, li_114, li_126, li_200, li_340, li_580, li_1740, li_65537, li_1000000, ll_0, ll_1, ll_100, s1]
  by_cases h2 : p0 = nI 2
  · subst h2
    refine ⟨nI (sumN w N), ?_, ?_⟩ <;> simp (disch := omega) only [if_true, if_false, am_in_n, am_nz_n, am_nzl_n, sI_add, sI_mul, sI_cl, sI_le, sI_lt, sI_eq, sI_l, lN_add, lN_mul, lN_i, sg_gt, sg_le, sg_eq, sg_ge, sI_rem, sI_div, sI_rem2, sL_rem, sL_div, sL_rem2, sI_sub, sI_m1, sI_m1n, sI_or, if_pos, if_neg, Option.bind_some, am_call2_e, am_call3_e, am_call4_e, am_call5_e, am_call6_e, am_call7_e, am_call8_e, am_call9_e, am_call10_e, am_call11_e, am_call12_e, am_call13_e, am_call14_e, li_0, li_1, li_2, li_3, li_4, li_5, li_6, li_7, li_8, li_9, li_10, li_12, li_16, li_20, li_21, li_22, li_32, li_33, li_44, li_45, li_48, li_57, li_59, li_60, li_63, li_74, li_75, li_99, li_100, li_109, li_111, li_114, li_126, li_200, li_340, li_580, li_1740, li_65537, li_1000000, ll_0, ll_1, ll_100, fsumC n1 hwf hwb, fsumM s0 n1 sw]
  by_cases h3 : p0 = nI 3
  · subst h3
    refine ⟨nI (sumN w N * sumN w N / sumN (fun k => w k * w k) N), ?_, ?_⟩ <;> simp (disch := omega) only [if_true, if_false, am_in_n, am_nz_n, am_nzl_n, sI_add, sI_mul, sI_cl, sI_le, sI_lt, sI_eq, sI_l, lN_add, lN_mul, lN_i, sg_gt, sg_le, sg_eq, sg_ge, sI_rem, sI_div, sI_rem2, sL_rem, sL_div, sL_rem2, sI_sub, sI_m1, sI_m1n, sI_or, if_pos, if_neg, Option.bind_some, am_call2_e, am_call3_e, am_call4_e, am_call5_e, am_call6_e, am_call7_e, am_call8_e, am_call9_e, am_call10_e, am_call11_e, am_call12_e, am_call13_e, am_call14_e, li_0, li_1, li_2, li_3, li_4, li_5, li_6, li_7, li_8, li_9, li_10, li_12, li_16, li_20, li_21, li_22, li_32, li_33, li_44, li_45, li_48, li_57, li_59, li_60, li_63, li_74, li_75, li_99, li_100, li_109, li_111, li_114, li_126, li_200, li_340, li_580, li_1740, li_65537, li_1000000, ll_0, ll_1, ll_100, feffC n1 hwf swb sS, feffM s0 n1 sw swb sS]
  by_cases h4 : p0 = nI 4
  · subst h4
    refine ⟨s 2, ?_, ?_⟩ <;> simp (disch := omega) only [if_true, if_false, am_in_n, am_nz_n, am_nzl_n, sI_add, sI_mul, sI_cl, sI_le, sI_lt, sI_eq, sI_l, lN_add, lN_mul, lN_i, sg_gt, sg_le, sg_eq, sg_ge, sI_rem, sI_div, sI_rem2, sL_rem, sL_div, sL_rem2, sI_sub, sI_m1, sI_m1n, sI_or, if_pos, if_neg, Option.bind_some, am_call2_e, am_call3_e, am_call4_e, am_call5_e, am_call6_e, am_call7_e, am_call8_e, am_call9_e, am_call10_e, am_call11_e, am_call12_e, am_call13_e, am_call14_e, li_0, li_1, li_2, li_3, li_4, li_5, li_6, li_7, li_8, li_9, li_10, li_12, li_16, li_20, li_21, li_22, li_32, li_33, li_44, li_45, li_48, li_57, li_59, li_60, li_63, li_74, li_75, li_99, li_100, li_109, li_111, li_114, li_126, li_200, li_340, li_580, li_1740, li_65537, li_1000000, ll_0, ll_1, ll_100]
  by_cases h5 : p0 = nI 5
  · subst h5
    refine ⟨nI (cntN (fun k => decide (w k = 0)) N), ?_, ?_⟩ <;> simp (disch := omega) only [if_true, if_false, am_in_n, am_nz_n, am_nzl_n, sI_add, sI_mul, sI_cl, sI_le, sI_lt, sI_eq, sI_l, lN_add, lN_mul, lN_i, sg_gt, sg_le, sg_eq, sg_ge, sI_rem, sI_div, sI_rem2, sL_rem, sL_div, sL_rem2, sI_sub, sI_m1, sI_m1n, sI_or, if_pos, if_neg, Option.bind_some, am_call2_e, am_call3_e, am_call4_e, am_call5_e, am_call6_e, am_call7_e, am_call8_e, am_call9_e, am_call10_e, am_call11_e, am_call12_e, am_call13_e, am_call14_e, li_0, li_1, li_2, li_3, li_4, li_5, li_6, li_7, li_8, li_9, li_10, li_12, li_16, li_20, li_21, li_22, li_32, li_33, li_44, li_45, li_48, li_57, li_59, li_60, li_63, li_74, li_75, li_99, li_100, li_109, li_111, li_114, li_126, li_200, li_340, li_580, li_1740, li_65537, li_1000000, ll_0, ll_1, ll_100, fzeroC n1 hwf hwb, fzeroM s0 n1 sw hwb]
  by_cases h6 : p0 = nI 6
  · subst h6
    refine ⟨nI (newN (fun k => s (340 + 12 * (G - 1) + k)) N), ?_, ?_⟩ <;> simp (disch := omega) only [if_true, if_false, am_in_n, am_nz_n, am_nzl_n, sI_add, sI_mul, sI_cl, sI_le, sI_lt, sI_eq, sI_l, lN_add, lN_mul, lN_i, sg_gt, sg_le, sg_eq, sg_ge, sI_rem, sI_div, sI_rem2, sL_rem, sL_div, sL_rem2, sI_sub, sI_m1, sI_m1n, sI_or, if_pos, if_neg, Option.bind_some, am_call2_e, am_call3_e, am_call4_e, am_call5_e, am_call6_e, am_call7_e, am_call8_e, am_call9_e, am_call10_e, am_call11_e, am_call12_e, am_call13_e, am_call14_e, li_0, li_1, li_2, li_3, li_4, li_5, li_6, li_7, li_8, li_9, li_10, li_12, li_16, li_20, li_21, li_22, li_32, li_33, li_44, li_45, li_48, li_57, li_59, li_60, li_63, li_74, li_75, li_99, li_100, li_109, li_111, li_114, li_126, li_200, li_340, li_580, li_1740, li_65537, li_1000000, ll_0, ll_1, ll_100, flateC g0, flateM s1 g0, e6, e7]
  by_cases h7 : p0 = nI 7
  · subst h7
    refine ⟨s 3, ?_, ?_⟩ <;> simp (disch := omega) only [if_true, if_false, am_in_n, am_nz_n, am_nzl_n, sI_add, sI_mul, sI_cl, sI_le, sI_lt, sI_eq, sI_l, lN_add, lN_mul, lN_i, sg_gt, sg_le, sg_eq, sg_ge, sI_rem, sI_div, sI_rem2, sL_rem, sL_div, sL_rem2, sI_sub, sI_m1, sI_m1n, sI_or, if_pos, if_neg, Option.bind_some, am_call2_e, am_call3_e, am_call4_e, am_call5_e, am_call6_e, am_call7_e, am_call8_e, am_call9_e, am_call10_e, am_call11_e, am_call12_e, am_call13_e, am_call14_e, li_0, li_1, li_2, li_3, li_4, li_5, li_6, li_7, li_8, li_9, li_10, li_12, li_16, li_20, li_21, li_22, li_32, li_33, li_44, li_45, li_48, li_57, li_59, li_60, li_63, li_74, li_75, li_99, li_100, li_109, li_111, li_114, li_126, li_200, li_340, li_580, li_1740, li_65537, li_1000000, ll_0, ll_1, ll_100]
  by_cases h8 : p0 = nI 8
  · subst h8
    refine ⟨s 4, ?_, ?_⟩ <;> simp (disch := omega) only [if_true, if_false, am_in_n, am_nz_n, am_nzl_n, sI_add, sI_mul, sI_cl, sI_le, sI_lt, sI_eq, sI_l, lN_add, lN_mul, lN_i, sg_gt, sg_le, sg_eq, sg_ge, sI_rem, sI_div, sI_rem2, sL_rem, sL_div, sL_rem2, sI_sub, sI_m1, sI_m1n, sI_or, if_pos, if_neg, Option.bind_some, am_call2_e, am_call3_e, am_call4_e, am_call5_e, am_call6_e, am_call7_e, am_call8_e, am_call9_e, am_call10_e, am_call11_e, am_call12_e, am_call13_e, am_call14_e, li_0, li_1, li_2, li_3, li_4, li_5, li_6, li_7, li_8, li_9, li_10, li_12, li_16, li_20, li_21, li_22, li_32, li_33, li_44, li_45, li_48, li_57, li_59, li_60, li_63, li_74, li_75, li_99, li_100, li_109, li_111, li_114, li_126, li_200, li_340, li_580, li_1740, li_65537, li_1000000, ll_0, ll_1, ll_100]
  by_cases h9 : p0 = nI 9
  · subst h9
    refine ⟨rec, ?_, ?_⟩ <;> simp (disch := omega) only [if_true, if_false, am_in_n, am_nz_n, am_nzl_n, sI_add, sI_mul, sI_cl, sI_le, sI_lt, sI_eq, sI_l, lN_add, lN_mul, lN_i, sg_gt, sg_le, sg_eq, sg_ge, sI_rem, sI_div, sI_rem2, sL_rem, sL_div, sL_rem2, sI_sub, sI_m1, sI_m1n, sI_or, if_pos, if_neg, Option.bind_some, am_call2_e, am_call3_e, am_call4_e, am_call5_e, am_call6_e, am_call7_e, am_call8_e, am_call9_e, am_call10_e, am_call11_e, am_call12_e, am_call13_e, am_call14_e, li_0, li_1, li_2, li_3, li_4, li_5, li_6, li_7, li_8, li_9, li_10, li_12, li_16, li_20, li_21, li_22, li_32, li_33, li_44, li_45, li_48, li_57, li_59, li_60, li_63, li_74, li_75, li_99, li_100, li_109, li_111, li_114, li_126, li_200, li_340, li_580, li_1740, li_65537, li_1000000, ll_0, ll_1, ll_100]
  by_cases h10 : p0 = nI 10
  · subst h10
    refine ⟨len, ?_, ?_⟩ <;> simp (disch := omega) only [if_true, if_false, am_in_n, am_nz_n, am_nzl_n, sI_add, sI_mul, sI_cl, sI_le, sI_lt, sI_eq, sI_l, lN_add, lN_mul, lN_i, sg_gt, sg_le, sg_eq, sg_ge, sI_rem, sI_div, sI_rem2, sL_rem, sL_div, sL_rem2, sI_sub, sI_m1, sI_m1n, sI_or, if_pos, if_neg, Option.bind_some, am_call2_e, am_call3_e, am_call4_e, am_call5_e, am_call6_e, am_call7_e, am_call8_e, am_call9_e, am_call10_e, am_call11_e, am_call12_e, am_call13_e, am_call14_e, li_0, li_1, li_2, li_3, li_4, li_5, li_6, li_7, li_8, li_9, li_10, li_12, li_16, li_20, li_21, li_22, li_32, li_33, li_44, li_45, li_48, li_57, li_59, li_60, li_63, li_74, li_75, li_99, li_100, li_109, li_111, li_114, li_126, li_200, li_340, li_580, li_1740, li_65537, li_1000000, ll_0, ll_1, ll_100]
  by_cases h20 : p0 = nI 20
  · subst h20
    refine ⟨s 5, ?_, ?_⟩ <;> simp (disch := omega) only [if_true, if_false, am_in_n, am_nz_n, am_nzl_n, sI_add, sI_mul, sI_cl, sI_le, sI_lt, sI_eq, sI_l, lN_add, lN_mul, lN_i, sg_gt, sg_le, sg_eq, sg_ge, sI_rem, sI_div, sI_rem2, sL_rem, sL_div, sL_rem2, sI_sub, sI_m1, sI_m1n, sI_or, if_pos, if_neg, Option.bind_some, am_call2_e, am_call3_e, am_call4_e, am_call5_e, am_call6_e, am_call7_e, am_call8_e, am_call9_e, am_call10_e, am_call11_e, am_call12_e, am_call13_e, am_call14_e, li_0, li_1, li_2, li_3, li_4, li_5, li_6, li_7, li_8, li_9, li_10, li_12, li_16, li_20, li_21, li_22, li_32, li_33, li_44, li_45, li_48, li_57, li_59, li_60, li_63, li_74, li_75, li_99, li_100, li_109, li_111, li_114, li_126, li_200, li_340, li_580, li_1740, li_65537, li_1000000, ll_0, ll_1, ll_100, fat (n := 3) (i := 0) (f := sf) (by omega) (by omega), r5, show F_X6_isWithin (nI 20) (nI 20) (nI 22) = some (nI 1) from rfl, show 5 + 20 - 20 = 5 from rfl]
  by_cases h21 : p0 = nI 21
  · subst h21
    refine ⟨s 6, ?_, ?_⟩ <;> simp (disch := omega) only [if_true, if_false, am_in_n, am_nz_n, am_nzl_n, sI_add, sI_mul, sI_cl, sI_le, sI_lt, sI_eq, sI_l, lN_add, lN_mul, lN_i, sg_gt, sg_le, sg_eq, sg_ge, sI_rem, sI_div, sI_rem2, sL_rem, sL_div, sL_rem2, sI_sub, sI_m1, sI_m1n, sI_or, if_pos, if_neg, Option.bind_some, am_call2_e, am_call3_e, am_call4_e, am_call5_e, am_call6_e, am_call7_e, am_call8_e, am_call9_e, am_call10_e, am_call11_e, am_call12_e, am_call13_e, am_call14_e, li_0, li_1, li_2, li_3, li_4, li_5, li_6, li_7, li_8, li_9, li_10, li_12, li_16, li_20, li_21, li_22, li_32, li_33, li_44, li_45, li_48, li_57, li_59, li_60, li_63, li_74, li_75, li_99, li_100, li_109, li_111, li_114, li_126, li_200, li_340, li_580, li_1740, li_65537, li_1000000, ll_0, ll_1, ll_100, fat (n := 3) (i := 1) (f := sf) (by omega) (by omega), r6, show F_X6_isWithin (nI 21) (nI 20) (nI 22) = some (nI 1) from rfl, show 5 + 21 - 20 = 6 from rfl]
  by_cases h22 : p0 = nI 22
  · subst h22
    refine ⟨s 7, ?_, ?_⟩ <;> simp (disch := omega) only [if_true, if_false, am_in_n, am_nz_n, am_nzl_n, sI_add, sI_mul, sI_cl, sI_le, sI_lt, sI_eq, sI_l, lN_add, lN_mul, lN_i, sg_gt, sg_le, sg_eq, sg_ge, sI_rem, sI_div, sI_rem2, sL_rem, sL_div, sL_rem2, sI_sub, sI_m1, sI_m1n, sI_or, if_pos, if_neg, Option.bind_some, am_call2_e, am_call3_e, am_call4_e, am_call5_e, am_call6_e, am_call7_e, am_call8_e, am_call9_e, am_call10_e, am_call11_e, am_call12_e, am_call13_e, am_call14_e, li_0, li_1, li_2, li_3, li_4, li_5, li_6, li_7, li_8, li_9, li_10, li_12, li_16, li_20, li_21, li_22, li_32, li_33, li_44, li_45, li_48, li_57, li_59, li_60, li_63, li_74, li_75, li_99, li_100, li_109, li_111, li_114, li_126, li_200, li_340, li_580, li_1740, li_65537, li_1000000, ll_0, ll_1, ll_100, fat (n := 3) (i := 2) (f := sf) (by omega) (by omega), r7, show F_X6_isWithin (nI 22) (nI 20) (nI 22) = some (nI 1) from rfl, show 5 + 22 - 20 = 7 from rfl]
  rcases inN p0 (a := 20) (b := 22) (by omega) (by omega) with ⟨j, h1, h2, h3, -⟩ | ⟨-, d1⟩
  · exfalso
    have : j = 20 ∨ j = 21 ∨ j = 22 := by omega
    rcases this with rfl | rfl | rfl
    · exact h20 h3
    · exact h21 h3
    · exact h22 h3
  · refine ⟨-1000001, ?_, ?_⟩ <;> simp (disch := omega) only [if_true, if_false, am_in_n, am_nz_n, am_nzl_n, sI_add, sI_mul, sI_cl, sI_le, sI_lt, sI_eq, sI_l, lN_add, lN_mul, lN_i, sg_gt, sg_le, sg_eq, sg_ge, sI_rem, sI_div, sI_rem2, sL_rem, sL_div, sL_rem2, sI_sub, sI_m1, sI_m1n, sI_or, if_pos, if_neg, Option.bind_some, am_call2_e, am_call3_e, am_call4_e, am_call5_e, am_call6_e, am_call7_e, am_call8_e, am_call9_e, am_call10_e, am_call11_e, am_call12_e, am_call13_e, am_call14_e, li_0, li_1, li_2, li_3, li_4, li_5, li_6, li_7, li_8, li_9, li_10, li_12, li_16, li_20, li_21, li_22, li_32, li_33, li_44, li_45, li_48, li_57, li_59, li_60, li_63, li_74, li_75, li_99, li_100, li_109, li_111, li_114, li_126, li_200, li_340, li_580, li_1740, li_65537, li_1000000, ll_0, ll_1, ll_100, d1, h0, h1, h2, h3, h4, h5, h6, h7, h8, h9, h10, h20, h21, h22]
end Tell2
