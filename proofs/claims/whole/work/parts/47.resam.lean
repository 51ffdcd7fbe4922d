-- resampling, on both sides
section Resam
variable {N G z th sc of : Nat} {w : Nat → Nat} {pl pa : Nat → Nat → Nat} {s : Nat → Int32} {noi obs res lmany lgens : Int32} {lplf lpaf logf ldrf lspf lscf : Nat → Int32} {wmany : Int32} {wf sf : Nat → Int32}
theorem fresam (hG : Good N G z th sc of w pl pa s) (hR : Rel N G noi obs res lmany lgens lplf lpaf logf ldrf lspf lscf wmany wf sf s) (hG20 : G < 20) (mchosen mtimes : Nat → Int32) (mrests : Nat → Int64) (cnoi : Int32) (canc : Nat → Int32) (crst : Nat → Int64) : ∃ a noi' res' lplf' lpaf' logf' lscf' wf' cnoi' canc' crst' z' w' pl' pa' s' f4 f5 f6, F_X4_renew noi res lmany lgens lplf lpaf logf lscf wmany wf sf cnoi canc crst = some (nI a, noi', res', nI (G + 1), lplf', lpaf', logf', lscf', nI N, wf', cnoi', canc', crst') ∧ F_X7_resamples s mchosen mtimes mrests = some (s', f4, f5, f6) ∧ a ≤ 12 ∧ F_X7_unlike s' (nI G) (nI 100) = some (nI a) ∧ Good N (G + 1) z' th sc of w' pl' pa' s' ∧ Rel N (G + 1) noi' obs res' (nI N) (nI (G + 1)) lplf' lpaf' logf' ldrf lspf lscf' (nI N) wf' sf s' := by
  have hG' := hG
  have hR' := hR
  obtain ⟨⟨n0, n1, g0, g1, hz, hth, hsc, hof⟩, ⟨s0, s1, s2, s5, s6, s7⟩, ⟨sw, swb, sS⟩, ⟨spl, splb⟩, spa, spab, sp0⟩ := hG'
  obtain ⟨⟨rfl, rfl, rfl, rfl, rfl, rfl, r5, r6, r7⟩, rw_, rg, rpl, rpa⟩ := hR'
  have hch : ∀ k, k < N → chW sc of N w z k < N := fun k hk => chW_lt hof sS hk
  obtain ⟨a5, q6, hc5, ec⟩ := fchooseC cnoi canc crst n1 hof hsc hz (fun k hk => (rw_ k hk).trans (sw k hk)) swb sS
  obtain ⟨v, c4, c5, c6, ⟨v2, vr⟩, hm5, em⟩ := fchooseM mchosen mtimes mrests s0 s2 s7 n0 n1 hof hsc hz sw swb sS
  obtain ⟨t, ⟨t1, ta, tb, tc, td⟩, tr, ht⟩ := ffollows (s := v) (by rw [vr 1 (by omega)]; exact s1) hG20 (nI 2) (nI 0) (nI 0) (nI sc)
  obtain ⟨w1, hw1, ew1⟩ := fequal (nI N) wf n1
  have hl := flateC g0
  have hadd : F_X1_addResampled (nI G) logf lscf (nI sc) = some (nI (G + 1), upd logf G (nI 2), upd lscf G (nI sc)) := by
    unfold F_X1_addResampled
    simp only [am_let]
    simp (disch := omega) only [li_0, li_1, li_2, li_3, li_4, li_5, li_6, li_7, li_8, li_9, li_10, li_12, li_16, li_20, li_21, li_22, li_32, li_33, li_44, li_45, li_48, li_57, li_59, li_60, li_63, li_74, li_75, li_99, li_100, li_109, li_111, li_114, li_126, li_200, li_340, li_580, li_1740, li_65537, li_1000000, ll_0, ll_1, ll_100, fput (n := 20) (i := G) (by omega) (by omega), Option.bind_some, sI_add]
  have hat1 : F_X2_at 3 sf (nI 1) = some (nI sc) := by rw [fat (by omega) (by omega), r6, s6]
  have hat2 : F_X2_at 3 sf (nI 2) = some (nI of) := by rw [fat (by omega) (by omega), r7, s7]
  -- the model's loop
  have v6 : v 6 = nI sc := by rw [vr 6 (by omega)]; exact s6
  obtain ⟨f, ⟨m1, m2, m3, m4⟩, e5⟩ := for2F (b := F_X7_resamples_B28 (fun f7 => some (upd f7 4 (f7 4 + nI 1), c4, c5, c6)) (nI G) c4) nI N (fun j f => (∀ k, k < j → f (340 + 12 * G + k) = nI (pl (G - 1) (chW sc of N w z k))) ∧ (∀ k, k < j → f (100 + 12 * G + k) = nI (chW sc of N w z k)) ∧ (∀ k, k < j → f (8 + k) = nI 1) ∧ ∀ i, (i < 8 ∨ 20 ≤ i) → (i < 100 + 12 * G ∨ 112 + 12 * G ≤ i) → (i < 340 + 12 * G ∨ 352 + 12 * G ≤ i) → f i = t i) (fun f7 => some (upd f7 4 (f7 4 + nI 1), c4, c5, c6)) (by
    rintro rec f j hj ⟨m1, m2, m3, m4⟩
    have hcj := hch j hj
    have f0 : f 0 = nI N := by rw [m4 0 (by omega) (by omega) (by omega), tr 0 (by omega) (by omega), vr 0 (by omega)]; exact s0
    refine ⟨upd (upd (upd f (100 + 12 * G + j) (nI (chW sc of N w z j))) (340 + 12 * G + j) (nI (pl (G - 1) (chW sc of N w z j)))) (8 + j) (nI 1), ⟨fun k hk => ?_, fun k hk => ?_, fun k hk => ?_, fun i h1 h2 h3 => ?_⟩, ?_⟩
    · by_cases hkj : k = j
      · subst hkj; rw [upd_n (by omega), upd_s]
      · rw [upd_n (by omega), upd_n (by omega), upd_n (by omega)]; exact m1 k (by omega)
    · by_cases hkj : k = j
      · subst hkj; rw [upd_n (by omega), upd_n (by omega), upd_s]
      · rw [upd_n (by omega), upd_n (by omega), upd_n (by omega)]; exact m2 k (by omega)
    · by_cases hkj : k = j
      · subst hkj; exact upd_s _ _ _
      · rw [upd_n (by omega), upd_n (by omega), upd_n (by omega)]; exact m3 k (by omega)
    · rw [upd_n (by omega), upd_n (by omega), upd_n (by omega)]; exact m4 i h1 h2 h3
    · have e3 : F_X7_placeIn (upd f (100 + 12 * G + j) (nI (chW sc of N w z j))) (nI (G - 1)) (nI (chW sc of N w z j)) = some (nI (pl (G - 1) (chW sc of N w z j))) := by
        rw [fplaceM (by omega) (by omega), upd_n (by omega), m4 _ (by omega) (by omega) (by omega), tr _ (by omega) (by omega), vr _ (by omega), spl _ _ (by omega) hcj]
      unfold F_X7_resamples_B28
      simp only [am_let]
      simp (disch := omega) only [li_0, li_1, li_2, li_3, li_4, li_5, li_6, li_7, li_8, li_9, li_10, li_12, li_16, li_20, li_21, li_22, li_32, li_33, li_44, li_45, li_48, li_57, li_59, li_60, li_63, li_74, li_75, li_99, li_100, li_109, li_111, li_114, li_126, li_200, li_340, li_580, li_1740, li_65537, li_1000000, ll_0, ll_1, ll_100, f0, sI_cl, sI_le, if_neg, sI_sub, hm5 j hj, e3, Option.bind_some, sI_mul, sI_add, am_in_n]) (by
    rintro rec f ⟨m1, m2, m3, m4⟩
    have f0 : f 0 = nI N := by rw [m4 0 (by omega) (by omega) (by omega), tr 0 (by omega) (by omega), vr 0 (by omega)]; exact s0
    unfold F_X7_resamples_B28
    simp only [am_let]
    simp (disch := omega) only [li_0, li_1, li_2, li_3, li_4, li_5, li_6, li_7, li_8, li_9, li_10, li_12, li_16, li_20, li_21, li_22, li_32, li_33, li_44, li_45, li_48, li_57, li_59, li_60, li_63, li_74, li_75, li_99, li_100, li_109, li_111, li_114, li_126, li_200, li_340, li_580, li_1740, li_65537, li_1000000, ll_0, ll_1, ll_100, f0, sI_cl, sI_le, if_pos]) 0 (Nat.zero_le _) am_fuel (by rw [fuelE]; omega) t ⟨fun k hk => absurd hk (Nat.not_lt_zero k), fun k hk => absurd hk (Nat.not_lt_zero k), fun k hk => absurd hk (Nat.not_lt_zero k), fun _ _ _ _ => rfl⟩
  -- the class's loop
  have hcl := fun (K13 : (Nat → Int32) → (Nat → Int32) → Option (Int32 × Int32 × Int32 × Int32 × (Nat → Int32) × (Nat → Int32) × (Nat → Int32) × (Nat → Int32) × Int32 × (Nat → Int32) × Int32 × (Nat → Int32) × (Nat → Int64))) => for3F (b := F_X4_renew_B66 (nI N) K13 a5 (nI (G - 1)) (nI (G + 1))) nI N (fun j f g => (∀ k, k < j → f (G * 12 + k) = nI (pl (G - 1) (chW sc of N w z k))) ∧ (∀ k, k < j → g (G * 12 + k) = nI (chW sc of N w z k)) ∧ (∀ i, i < G * 12 → f i = lplf i) ∧ ∀ i, i < G * 12 → g i = lpaf i) K13 (by
    rintro rec f g j hj ⟨k2, k3, k4, k5⟩
    have hcj := hch j hj
    have e3 : F_X1_placeIn f (nI (G - 1)) (nI (chW sc of N w z j)) = some (nI (pl (G - 1) (chW sc of N w z j))) := by rw [fplaceC (by omega) (by omega), k4 _ (by omega), rpl _ _ (by omega) hcj, spl _ _ (by omega) hcj]
    have e4 : F_X0_chosenFor a5 (nI j) = some (nI (chW sc of N w z j)) := by
      unfold F_X0_chosenFor
      simp (disch := omega) only [if_true, if_false, am_in_n, am_nz_n, am_nzl_n, sI_add, sI_mul, sI_cl, sI_le, sI_lt, sI_eq, sI_l, lN_add, lN_mul, lN_i, sg_gt, sg_le, sg_eq, sg_ge, sI_rem, sI_div, sI_rem2, sL_rem, sL_div, sL_rem2, sI_sub, sI_m1, sI_m1n, sI_or, if_pos, if_neg, Option.bind_some, am_call2_e, am_call3_e, am_call4_e, am_call5_e, am_call6_e, am_call7_e, am_call8_e, am_call9_e, am_call10_e, am_call11_e, am_call12_e, am_call13_e, am_call14_e, li_0, li_1, li_2, li_3, li_4, li_5, li_6, li_7, li_8, li_9, li_10, li_12, li_16, li_20, li_21, li_22, li_32, li_33, li_44, li_45, li_48, li_57, li_59, li_60, li_63, li_74, li_75, li_99, li_100, li_109, li_111, li_114, li_126, li_200, li_340, li_580, li_1740, li_65537, li_1000000, ll_0, ll_1, ll_100, hc5 j hj]
    refine ⟨upd f (G * 12 + j) (nI (pl (G - 1) (chW sc of N w z j))), upd g (G * 12 + j) (nI (chW sc of N w z j)), ⟨fun k hk => ?_, fun k hk => ?_, fun i hi => by rw [upd_n (by omega)]; exact k4 i hi, fun i hi => by rw [upd_n (by omega)]; exact k5 i hi⟩, ?_⟩
    · by_cases hkj : k = j
      · subst hkj; exact upd_s _ _ _
      · rw [upd_n (by omega)]; exact k2 k (by omega)
    · by_cases hkj : k = j
      · subst hkj; exact upd_s _ _ _
      · rw [upd_n (by omega)]; exact k3 k (by omega)
    · unfold F_X4_renew_B66 F_X1_many
      simp only [am_let]
      simp (disch := omega) only [li_0, li_1, li_2, li_3, li_4, li_5, li_6, li_7, li_8, li_9, li_10, li_12, li_16, li_20, li_21, li_22, li_32, li_33, li_44, li_45, li_48, li_57, li_59, li_60, li_63, li_74, li_75, li_99, li_100, li_109, li_111, li_114, li_126, li_200, li_340, li_580, li_1740, li_65537, li_1000000, ll_0, ll_1, ll_100, Option.bind_some, sI_le, if_neg, e4, e3, sI_add, fputP hG20 (show j < 12 by omega), am_call2_e]) (by
    rintro rec f g -
    unfold F_X4_renew_B66 F_X1_many
    simp only [am_let]
    simp (disch := omega) only [li_0, li_1, li_2, li_3, li_4, li_5, li_6, li_7, li_8, li_9, li_10, li_12, li_16, li_20, li_21, li_22, li_32, li_33, li_44, li_45, li_48, li_57, li_59, li_60, li_63, li_74, li_75, li_99, li_100, li_109, li_111, li_114, li_126, li_200, li_340, li_580, li_1740, li_65537, li_1000000, ll_0, ll_1, ll_100, Option.bind_some, sI_le, if_pos]) 0 (Nat.zero_le _) am_fuel (by rw [fuelE]; omega) lplf lpaf ⟨fun k hk => absurd hk (Nat.not_lt_zero k), fun k hk => absurd hk (Nat.not_lt_zero k), fun _ _ => rfl, fun _ _ => rfl⟩
  have sr : ∀ i, i ≠ 1 → i ≠ 2 → i ≠ 4 → (i < 8 ∨ 20 ≤ i) → (i < 20 + 4 * G ∨ 24 + 4 * G ≤ i) → (i < 100 + 12 * G ∨ 112 + 12 * G ≤ i) → (i < 340 + 12 * G ∨ 352 + 12 * G ≤ i) → (upd f 4 (f 4 + nI 1)) i = s i := fun i h1 h2 h2' h3 h4 h5 h6 => by rw [upd_n h2', m4 i h3 h5 h6, tr i h1 h4, vr i h2]
  have o0 : (upd f 4 (f 4 + nI 1)) (20 + 4 * G) = nI 2 := by rw [upd_n (by omega), m4 _ (by omega) (by omega) (by omega)]; exact ta
  have o3 : (upd f 4 (f 4 + nI 1)) (23 + 4 * G) = nI sc := by rw [upd_n (by omega), m4 _ (by omega) (by omega) (by omega)]; exact td
  have x2 : (upd f 4 (f 4 + nI 1)) 2 = nI (nzW sc N z) := by rw [upd_n (by omega), m4 _ (by omega) (by omega) (by omega), tr _ (by omega) (by omega)]; exact v2
  have x3 : (upd f 4 (f 4 + nI 1)) 3 = s 3 := sr 3 (by omega) (by omega) (by omega) (by omega) (by omega) (by omega) (by omega)
  have x4 : (upd f 4 (f 4 + nI 1)) 4 = s 4 + nI 1 := by rw [upd_s, m4 4 (by omega) (by omega) (by omega), tr 4 (by omega) (by omega), vr 4 (by omega)]
  have hsum : 0 < sumN (fun _ => 1) N := by
    obtain ⟨M, rfl⟩ : ∃ M, N = M + 1 := ⟨N - 1, by omega⟩
    show 0 < sumN (fun _ => 1) M + 1
    omega
  have key := fun (fpl fpa : Nat → Int32) (k2 : ∀ k, k < N → fpl (G * 12 + k) = nI (pl (G - 1) (chW sc of N w z k))) (k3 : ∀ k, k < N → fpa (G * 12 + k) = nI (chW sc of N w z k)) (k4 : ∀ i, i < G * 12 → fpl i = lplf i) (k5 : ∀ i, i < G * 12 → fpa i = lpaf i) => new_gen hG hR hG20 (s' := upd f 4 (f 4 + nI 1)) (w' := fun _ => 1) (pv := fun k => pl (G - 1) (chW sc of N w z k)) (qv := chW sc of N w z) (z' := nzW sc N z) (lplf' := fpl) (lpaf' := fpa) (logf' := upd logf G (nI 2)) (ldrf' := ldrf) (lspf' := lspf) (lscf' := upd lscf G (nI sc)) (wf' := w1) (by rw [sr 0 (by omega) (by omega) (by omega) (by omega) (by omega) (by omega) (by omega)]; exact s0) (by rw [upd_n (by omega), m4 1 (by omega) (by omega) (by omega)]; exact t1) x2 (nzW_lt hz) (fun k hk => by rw [upd_n (by omega)]; exact m3 k hk) (fun k _ => by omega) hsum (fun k hk => by rw [upd_n (by omega)]; exact m1 k hk) (fun k hk => splb _ _ (by omega) (hch k hk)) (fun k hk => by rw [upd_n (by omega)]; exact m2 k hk) hch (fun i hi => sr i (by omega) (by omega) (by omega) (by omega) (by omega) (by omega) (by omega)) k2 k4 k3 k5 (by rw [upd_s]; exact o0.symm) (fun g hg => upd_n (by omega)) (fun h => by rw [o0] at h; exact absurd h (by decide)) (fun g hg => ⟨rfl, rfl⟩) (fun _ => by rw [upd_s]; exact o3.symm) (fun g hg => upd_n (by omega)) (fun k hk => by rw [upd_n (by omega), m3 k hk]; exact hw1 k hk)
  obtain ⟨fpl, fpa, ⟨k2, k3, k4, k5⟩, e1⟩ := hcl (fun f11 f12 => Option.bind (F_X0_noise (nI (nzW sc N z))) fun r14 => Option.bind (F_X1_many (nI N)) fun r15 => am_call2 (F_X5_makeEqual (nI N) wf r15) fun u16 f17 => Option.bind (F_X1_howManyAreAncestors (nI N) (nI (G + 1)) f12 (nI (G - 1))) fun r19 => some (r19, r14, s 4 + nI 1, nI (G + 1), f11, f12, upd logf G (nI 2), upd lscf G (nI sc), u16, f17, nI (nzW sc N z), a5, q6))
  obtain ⟨hn1, hn2⟩ := key fpl fpa k2 k3 k4 k5
  rw [x2, x3, x4] at hn2
  have hn1' := hn1
  have hn2' := hn2
  obtain ⟨-, ⟨u0, u1, -⟩, -, -, upa, upab, -⟩ := hn1'
  obtain ⟨-, -, -, -, vpa⟩ := hn2'
  have hmask : F_X1_howManyAreAncestors (nI N) (nI (G + 1)) fpa (nI (G - 1)) = some (nI (cntN (fun b => (maskN (chW sc of N w z) N).testBit b) 12)) := by
    refine fmaskC n1 (fun k hk => by have := hch k hk; omega) (fun k hk => ?_)
    rw [fancC n1 (by omega) (by omega) (by omega) hk (fun g k h1 h2 h3 => (vpa g k h1 h2 h3).trans (upa g k h1 h2 h3)) upab]
    have e : G + 1 - 1 - (G - 1) = 1 := by omega
    rw [e]
    show some (nI (if G + 1 - 1 - 0 = G then chW sc of N w z k else pa (G + 1 - 1 - 0) k)) = some (nI (chW sc of N w z k))
    rw [if_pos (by omega)]
  have hcnt : newN (fun k => (upd f 4 (f 4 + nI 1)) (100 + 12 * G + k)) N = cntN (fun b => (maskN (chW sc of N w z) N).testBit b) 12 := by
    rw [mask_new (M := 12) (fun k hk => by have := hch k hk; omega) (by omega)]
    refine newN_congr N (fun k hk => ?_)
    rw [upd_n (by omega)]
    exact m2 k hk
  refine ⟨cntN (fun b => (maskN (chW sc of N w z) N).testBit b) 12, nI (nzW sc N z), s 4 + nI 1, fpl, fpa, upd logf G (nI 2), upd lscf G (nI sc), w1, nI (nzW sc N z), a5, q6, nzW sc N z, _, _, _, upd f 4 (f 4 + nI 1), c4, c5, c6, ?_, ?_, cntN_le _, ?_, hn1, hn2⟩
  · unfold F_X4_renew F_X1_generations
    simp only [am_let]
    rw [s2]
    simp (disch := omega) only [li_0, li_1, li_2, li_3, li_4, li_5, li_6, li_7, li_8, li_9, li_10, li_12, li_16, li_20, li_21, li_22, li_32, li_33, li_44, li_45, li_48, li_57, li_59, li_60, li_63, li_74, li_75, li_99, li_100, li_109, li_111, li_114, li_126, li_200, li_340, li_580, li_1740, li_65537, li_1000000, ll_0, ll_1, ll_100, Option.bind_some, sI_lt, if_pos, hat1, hat2, ec, am_call3_e, hl, hadd]
    rw [e1]
    unfold F_X0_noise F_X1_many
    simp only [Option.bind_some, ew1, am_call2_e, hmask]
  · unfold F_X7_resamples
    simp only [am_let]
    simp (disch := omega) only [li_0, li_1, li_2, li_3, li_4, li_5, li_6, li_7, li_8, li_9, li_10, li_12, li_16, li_20, li_21, li_22, li_32, li_33, li_44, li_45, li_48, li_57, li_59, li_60, li_63, li_74, li_75, li_99, li_100, li_109, li_111, li_114, li_126, li_200, li_340, li_580, li_1740, li_65537, li_1000000, ll_0, ll_1, ll_100, s6, em, am_call4_e, v6, sI_cl, ht, am_call2_e]
    exact e5
  · rw [← hcnt]
    exact funlikeM u0 n1 hG20 (by omega)
theorem o_resample (hG : Good N G z th sc of w pl pa s) (hR : Rel N G noi obs res lmany lgens lplf lpaf logf ldrf lspf lscf wmany wf sf s) {mpasts mruns up : Int32} {mpast fp : Nat → Int32} (hc : F_X7_changes mpasts mruns s mpast = some (up, fp)) (mchosen mtimes : Nat → Int32) (mrests : Nat → Int64) (cnoi : Int32) (canc : Nat → Int32) (crst : Nat → Int64) : ∃ r noi' res' lgens' lplf' lpaf' logf' lscf' wmany' wf' cnoi' canc' crst', F_X4_renew noi res lmany lgens lplf lpaf logf lscf wmany wf sf cnoi canc crst = some (r, noi', res', lgens', lplf', lpaf', logf', lscf', wmany', wf', cnoi', canc', crst') ∧ ((¬ 0 ≤ r ∧ F_X7_resample mpasts mruns s mpast mchosen mtimes mrests = some (r, mpasts, s, mpast, mchosen, mtimes, mrests)) ∨ (0 ≤ r ∧ ∃ G' z' w' pl' pa' s' f4 f5 f6, F_X7_resample mpasts mruns s mpast mchosen mtimes mrests = some (r, up, s', fp, f4, f5, f6) ∧ Good N G' z' th sc of w' pl' pa' s' ∧ Rel N G' noi' obs res' lmany lgens' lplf' lpaf' logf' ldrf lspf lscf' wmany' wf' sf s')) := by
  have hG' := hG
  have hR' := hR
  obtain ⟨⟨n0, n1, g0, g1, hz, hth, hsc, hof⟩, ⟨s0, s1, s2, s5, s6, s7⟩, -⟩ := hG'
  obtain ⟨⟨e1, e2, e3, -⟩, -⟩ := hR'
  by_cases hG20 : G < 20
  · obtain ⟨a, noi', res', lplf', lpaf', logf', lscf', wf', cnoi', canc', crst', z', w', pl', pa', s', f4, f5, f6, h1, h2, h3, h4, h5, h6⟩ := fresam hG hR hG20 mchosen mtimes mrests cnoi canc crst
    have ne : ¬ G = 20 := by omega
    have t1 : s' 1 = nI (G + 1) := h5.2.1.2.1
    refine ⟨nI a, noi', res', nI (G + 1), lplf', lpaf', logf', lscf', nI N, wf', cnoi', canc', crst', h1, Or.inr ⟨nI_nn (by omega), G + 1, z', w', pl', pa', s', f4, f5, f6, ?_, h5, by rw [e1]; exact h6⟩⟩
    unfold F_X7_resample
    simp (disch := omega) only [li_0, li_1, li_2, li_3, li_4, li_5, li_6, li_7, li_8, li_9, li_10, li_12, li_16, li_20, li_21, li_22, li_32, li_33, li_44, li_45, li_48, li_57, li_59, li_60, li_63, li_74, li_75, li_99, li_100, li_109, li_111, li_114, li_126, li_200, li_340, li_580, li_1740, li_65537, li_1000000, ll_0, ll_1, ll_100, sI_cl, s1, sI_eq, ne, if_false, hc, am_call2_e, h2, am_call4_e, flateM t1 (by omega), Option.bind_some, Nat.add_sub_cancel, h4]
  · have e20 : G = 20 := by omega
    subst e20
    refine ⟨-1000003, noi, res, lgens, lplf, lpaf, logf, lscf, wmany, wf, cnoi, canc, crst, ?_, Or.inl ⟨lim_neg, ?_⟩⟩
    · unfold F_X4_renew F_X1_generations
      rw [e2]
      simp (disch := omega) only [li_0, li_1, li_2, li_3, li_4, li_5, li_6, li_7, li_8, li_9, li_10, li_12, li_16, li_20, li_21, li_22, li_32, li_33, li_44, li_45, li_48, li_57, li_59, li_60, li_63, li_74, li_75, li_99, li_100, li_109, li_111, li_114, li_126, li_200, li_340, li_580, li_1740, li_65537, li_1000000, ll_0, ll_1, ll_100, Option.bind_some, sI_lt, Nat.lt_irrefl, if_false]
    · unfold F_X7_resample
      simp (disch := omega) only [li_0, li_1, li_2, li_3, li_4, li_5, li_6, li_7, li_8, li_9, li_10, li_12, li_16, li_20, li_21, li_22, li_32, li_33, li_44, li_45, li_48, li_57, li_59, li_60, li_63, li_74, li_75, li_99, li_100, li_109, li_111, li_114, li_126, li_200, li_340, li_580, li_1740, li_65537, li_1000000, ll_0, ll_1, ll_100, sI_cl, s1, sI_eq, if_true]
end Resam
