-- what a scheme chooses
theorem fdown1 {b : (Int32 → Option Int32) → Int32 → Option Int32} {L : Nat} {p : Nat → Prop} (hL : L < 20) (h1 : ∀ rec d, d ≤ L → p d → b rec (nI (L - d)) = some (nI (L - d))) (h2 : ∀ rec d, d ≤ L → ¬ p d → b rec (nI (L - d)) = rec (if d < L then nI (L - d - 1) else -nI 1)) (h3 : ∀ rec, b rec (-nI 1) = some (-1000004)) : ∃ r, MeetP p L r ∧ am_loop1 b am_fuel (nI L) = some r := by
  rcases MeetP.ex p L with ⟨e, h4, h5, h6⟩ | h4
  · refine ⟨nI (L - e), Or.inl ⟨e, h4, h5, h6, rfl⟩, ?_⟩
    have e1 := for1 (b := b) (fun d => nI (L - d)) e (some (nI (L - e))) (fun rec d hd => by
      have e2 : L - d - 1 = L - (d + 1) := by omega
      rw [h2 rec d (by omega) (h6 d hd), if_pos (by omega), e2]) (fun rec => h1 rec e h4 h5) 0 (Nat.zero_le _) am_fuel (by rw [fuelE]; omega)
    rw [Nat.sub_zero] at e1
    exact e1
  · refine ⟨-1000004, Or.inr ⟨h4, rfl⟩, ?_⟩
    have e1 := for1 (b := b) (fun d => if d ≤ L then nI (L - d) else -nI 1) (L + 1) (some (-1000004)) (fun rec d hd => by
      have hd' : d ≤ L := by omega
      show b rec (if d ≤ L then nI (L - d) else -nI 1) = rec (if d + 1 ≤ L then nI (L - (d + 1)) else -nI 1)
      rw [if_pos hd', h2 rec d hd' (h4 d hd')]
      by_cases hl : d < L
      · have e2 : L - d - 1 = L - (d + 1) := by omega
        rw [if_pos hl, if_pos (by omega), e2]
      · rw [if_neg hl, if_neg (by omega)]) (fun rec => by
      show b rec (if L + 1 ≤ L then nI (L - (L + 1)) else -nI 1) = _
      rw [if_neg (by omega)]
      exact h3 rec) 0 (Nat.zero_le _) am_fuel (by rw [fuelE]; omega)
    have e6 : (if 0 ≤ L then nI (L - 0) else -nI 1) = nI L := by rw [if_pos (Nat.zero_le _), Nat.sub_zero]
    rw [e6] at e1
    exact e1
theorem m1down {L d : Nat} (hd : d ≤ L) : nI (L - d) + -nI 1 = if d < L then nI (L - d - 1) else -nI 1 := by
  by_cases h : d < L
  · rw [if_pos h, sI_m1n (by omega)]
  · have : L - d = 0 := by omega
    rw [if_neg h, this]
    decide
theorem neg1_lt : (-nI 1 < nI 0) = True := by decide
theorem fmeetM {s : Nat → Int32} {pa : Nat → Nat → Nat} {N G one other : Nat} (h0 : s 0 = nI N) (h1s : s 1 = nI G) (hN : N ≤ 12) (hG0 : 1 ≤ G) (hG : G ≤ 20) (h1 : one < N) (h2 : other < N) (hp : ∀ g k, 0 < g → g < G → k < N → s (100 + 12 * g + k) = nI (pa g k)) (hb : ∀ g k, 0 < g → g < G → k < N → pa g k < N) : ∃ r, MeetP (fun d => ancN pa (G - 1) one d = ancN pa (G - 1) other d) (G - 1) r ∧ F_X7_meeting s (nI one) (nI other) (nI 0) = some r := by
  have hx : ∀ k, k < N → ∀ d, d ≤ G - 1 → ancN pa (G - 1) k d < N := fun k hk => ancN_lt hk (fun g k h1 h2 h3 => hb g k h1 (by omega) h3)
  have up : ∀ k d, k < N → d ≤ G - 1 → F_X7_up s (nI k) (nI (G - 1 - d)) = some (nI (ancN pa (G - 1) k d)) := by
    intro k d hk hd
    have e1 : G - 1 - (G - 1 - d) = d := by omega
    rw [fupM h1s hN hG0 hG (show G - 1 - d < G by omega) hk hp hb, e1]
  have inner : ∀ (K : Int32 → Option Int32) (x : Int32) (j : Int32), am_loop2 (F_X7_meeting_B38 s K (nI 0) x (nI one)) am_fuel j (nI 0) = K j := by
    intro K x j
    obtain ⟨n, hn⟩ : ∃ n, am_fuel = n + 1 := ⟨999999, fuelE⟩
    rw [hn]
    show F_X7_meeting_B38 s K (nI 0) x (nI one) (am_loop2 _ n) j (nI 0) = K j
    generalize am_loop2 (F_X7_meeting_B38 s K (nI 0) x (nI one)) n = rec
    unfold F_X7_meeting_B38
    simp (disch := omega) only [if_true, if_false, am_let, am_in_n, am_nz_n, am_nzl_n, sI_add, sI_mul, sI_cl, sI_le, sI_lt, sI_eq, sI_l, lN_add, lN_mul, lN_i, sg_gt, sg_le, sg_eq, sg_ge, sI_rem, sI_div, sI_rem2, sL_rem, sL_div, sL_rem2, sI_sub, sI_m1, sI_m1n, sI_or, if_pos, if_neg, Option.bind_some, am_call2_e, am_call3_e, am_call4_e, am_call5_e, am_call6_e, am_call7_e, am_call8_e, am_call9_e, am_call10_e, am_call11_e, am_call12_e, am_call13_e, am_call14_e, li_0, li_1, li_2, li_3, li_4, li_5, li_6, li_7, li_8, li_9, li_10, li_12, li_16, li_20, li_21, li_22, li_32, li_33, li_44, li_45, li_48, li_57, li_59, li_60, li_63, li_74, li_75, li_99, li_100, li_109, li_111, li_114, li_126, li_200, li_340, li_580, li_1740, li_65537, li_1000000, ll_0, ll_1, ll_100, h0]
  unfold F_X7_meeting
  rw [flateM h1s hG0]
  simp only [am_let, li_0, li_1, li_2, li_3, li_4, li_5, li_6, li_7, li_8, li_9, li_10, li_12, li_16, li_20, li_21, li_22, li_32, li_33, li_44, li_45, li_48, li_57, li_59, li_60, li_63, li_74, li_75, li_99, li_100, li_109, li_111, li_114, li_126, li_200, li_340, li_580, li_1740, li_65537, li_1000000, ll_0, ll_1, ll_100, Option.bind_some]
  refine fdown1 (L := G - 1) (by omega) ?_ ?_ ?_
  · intro rec d hd hpd
    unfold F_X7_meeting_B6
    have hx1 := hx other h2 d hd
    simp (disch := omega) only [am_let, li_0, li_1, li_2, li_3, li_4, li_5, li_6, li_7, li_8, li_9, li_10, li_12, li_16, li_20, li_21, li_22, li_32, li_33, li_44, li_45, li_48, li_57, li_59, li_60, li_63, li_74, li_75, li_99, li_100, li_109, li_111, li_114, li_126, li_200, li_340, li_580, li_1740, li_65537, li_1000000, ll_0, ll_1, ll_100, sI_lt, if_neg, up one d h1 hd, up other d h2 hd, hpd, Option.bind_some, if_true, inner]
    simp (disch := omega) only [sI_eq, if_neg]
  · intro rec d hd hpd
    unfold F_X7_meeting_B6
    have hx1 := hx one h1 d hd
    have hx2 := hx other h2 d hd
    simp (disch := omega) only [am_let, li_0, li_1, li_2, li_3, li_4, li_5, li_6, li_7, li_8, li_9, li_10, li_12, li_16, li_20, li_21, li_22, li_32, li_33, li_44, li_45, li_48, li_57, li_59, li_60, li_63, li_74, li_75, li_99, li_100, li_109, li_111, li_114, li_126, li_200, li_340, li_580, li_1740, li_65537, li_1000000, ll_0, ll_1, ll_100, sI_lt, if_neg, up one d h1 hd, up other d h2 hd, Option.bind_some, inner, sI_eq, hpd, if_true, if_false, m1down hd]
  · intro rec
    unfold F_X7_meeting_B6
    simp (disch := omega) only [li_0, li_1, li_2, li_3, li_4, li_5, li_6, li_7, li_8, li_9, li_10, li_12, li_16, li_20, li_21, li_22, li_32, li_33, li_44, li_45, li_48, li_57, li_59, li_60, li_63, li_74, li_75, li_99, li_100, li_109, li_111, li_114, li_126, li_200, li_340, li_580, li_1740, li_65537, li_1000000, ll_0, ll_1, ll_100, neg1_lt, if_true]
theorem frootM {s : Nat → Int32} {pa : Nat → Nat → Nat} {N G : Nat} (h0 : s 0 = nI N) (h1s : s 1 = nI G) (hN0 : 0 < N) (hN : N ≤ 12) (hG0 : 1 ≤ G) (hG : G ≤ 20) (hp : ∀ g k, 0 < g → g < G → k < N → s (100 + 12 * g + k) = nI (pa g k)) (hb : ∀ g k, 0 < g → g < G → k < N → pa g k < N) : ∃ r, MeetP (fun d => ∀ k, k < N → ancN pa (G - 1) 0 d = ancN pa (G - 1) k d) (G - 1) r ∧ F_X7_meeting s (nI 0) (nI 0) (nI 1) = some r := by
  have hx : ∀ k, k < N → ∀ d, d ≤ G - 1 → ancN pa (G - 1) k d < N := fun k hk => ancN_lt hk (fun g k h1 h2 h3 => hb g k h1 (by omega) h3)
  have up : ∀ k d, k < N → d ≤ G - 1 → F_X7_up s (nI k) (nI (G - 1 - d)) = some (nI (ancN pa (G - 1) k d)) := by
    intro k d hk hd
    have e1 : G - 1 - (G - 1 - d) = d := by omega
    rw [fupM h1s hN hG0 hG (show G - 1 - d < G by omega) hk hp hb, e1]
  have inner : ∀ (K : Int32 → Option Int32) (d : Nat), d ≤ G - 1 → ∃ x, ((∀ k, k < N → ancN pa (G - 1) 0 d = ancN pa (G - 1) k d) → x = nI 1) ∧ (¬ (∀ k, k < N → ancN pa (G - 1) 0 d = ancN pa (G - 1) k d) → x = nI 0) ∧ am_loop2 (F_X7_meeting_B38 s K (nI 1) (nI (G - 1 - d)) (nI 0)) am_fuel (nI 1) (nI 0) = K x := by
    intro K d hd
    obtain ⟨x, ⟨hx1, hx2⟩, e⟩ := for2L (b := F_X7_meeting_B38 s K (nI 1) (nI (G - 1 - d)) (nI 0)) nI N (fun j x => ((∀ k, k < j → ancN pa (G - 1) 0 d = ancN pa (G - 1) k d) → x = nI 1) ∧ (¬ (∀ k, k < j → ancN pa (G - 1) 0 d = ancN pa (G - 1) k d) → x = nI 0)) K (by
      rintro rec x j hj ⟨ha, hc⟩
      have g1 := hx j hj d hd
      have g2 := hx 0 hN0 d hd
      by_cases hall : ∀ k, k < j → ancN pa (G - 1) 0 d = ancN pa (G - 1) k d
      · have hxe := ha hall
        subst hxe
        by_cases hj2 : ancN pa (G - 1) j d = ancN pa (G - 1) 0 d
        · refine ⟨nI 1, ⟨fun _ => rfl, fun h => absurd (fun k hk => ?_) h⟩, ?_⟩
          · by_cases hk2 : k = j
            · subst hk2; exact hj2.symm
            · exact hall k (by omega)
          · unfold F_X7_meeting_B38
            simp (disch := omega) only [if_true, if_false, am_let, am_in_n, am_nz_n, am_nzl_n, sI_add, sI_mul, sI_cl, sI_le, sI_lt, sI_eq, sI_l, lN_add, lN_mul, lN_i, sg_gt, sg_le, sg_eq, sg_ge, sI_rem, sI_div, sI_rem2, sL_rem, sL_div, sL_rem2, sI_sub, sI_m1, sI_m1n, sI_or, if_pos, if_neg, Option.bind_some, am_call2_e, am_call3_e, am_call4_e, am_call5_e, am_call6_e, am_call7_e, am_call8_e, am_call9_e, am_call10_e, am_call11_e, am_call12_e, am_call13_e, am_call14_e, li_0, li_1, li_2, li_3, li_4, li_5, li_6, li_7, li_8, li_9, li_10, li_12, li_16, li_20, li_21, li_22, li_32, li_33, li_44, li_45, li_48, li_57, li_59, li_60, li_63, li_74, li_75, li_99, li_100, li_109, li_111, li_114, li_126, li_200, li_340, li_580, li_1740, li_65537, li_1000000, ll_0, ll_1, ll_100, h0, up j d hj hd, up 0 d hN0 hd, hj2]
        · refine ⟨nI 0, ⟨fun h => absurd (h j (by omega)).symm hj2, fun _ => rfl⟩, ?_⟩
          unfold F_X7_meeting_B38
          simp (disch := omega) only [if_true, if_false, am_let, am_in_n, am_nz_n, am_nzl_n, sI_add, sI_mul, sI_cl, sI_le, sI_lt, sI_eq, sI_l, lN_add, lN_mul, lN_i, sg_gt, sg_le, sg_eq, sg_ge, sI_rem, sI_div, sI_rem2, sL_rem, sL_div, sL_rem2, sI_sub, sI_m1, sI_m1n, sI_or, if_pos, if_neg, Option.bind_some, am_call2_e, am_call3_e, am_call4_e, am_call5_e, am_call6_e, am_call7_e, am_call8_e, am_call9_e, am_call10_e, am_call11_e, am_call12_e, am_call13_e, am_call14_e, li_0, li_1, li_2, li_3, li_4, li_5, li_6, li_7, li_8, li_9, li_10, li_12, li_16, li_20, li_21, li_22, li_32, li_33, li_44, li_45, li_48, li_57, li_59, li_60, li_63, li_74, li_75, li_99, li_100, li_109, li_111, li_114, li_126, li_200, li_340, li_580, li_1740, li_65537, li_1000000, ll_0, ll_1, ll_100, h0, up j d hj hd, up 0 d hN0 hd, hj2]
      · have hxe := hc hall
        subst hxe
        refine ⟨nI 0, ⟨fun h => absurd (fun k hk => h k (by omega)) hall, fun _ => rfl⟩, ?_⟩
        unfold F_X7_meeting_B38
        simp (disch := omega) only [if_true, if_false, am_let, am_in_n, am_nz_n, am_nzl_n, sI_add, sI_mul, sI_cl, sI_le, sI_lt, sI_eq, sI_l, lN_add, lN_mul, lN_i, sg_gt, sg_le, sg_eq, sg_ge, sI_rem, sI_div, sI_rem2, sL_rem, sL_div, sL_rem2, sI_sub, sI_m1, sI_m1n, sI_or, if_pos, if_neg, Option.bind_some, am_call2_e, am_call3_e, am_call4_e, am_call5_e, am_call6_e, am_call7_e, am_call8_e, am_call9_e, am_call10_e, am_call11_e, am_call12_e, am_call13_e, am_call14_e, li_0, li_1, li_2, li_3, li_4, li_5, li_6, li_7, li_8, li_9, li_10, li_12, li_16, li_20, li_21, li_22, li_32, li_33, li_44, li_45, li_48, li_57, li_59, li_60, li_63, li_74, li_75, li_99, li_100, li_109, li_111, li_114, li_126, li_200, li_340, li_580, li_1740, li_65537, li_1000000, ll_0, ll_1, ll_100, h0]) (by
      rintro rec x -
      unfold F_X7_meeting_B38
      simp (disch := omega) only [if_true, if_false, am_let, am_in_n, am_nz_n, am_nzl_n, sI_add, sI_mul, sI_cl, sI_le, sI_lt, sI_eq, sI_l, lN_add, lN_mul, lN_i, sg_gt, sg_le, sg_eq, sg_ge, sI_rem, sI_div, sI_rem2, sL_rem, sL_div, sL_rem2, sI_sub, sI_m1, sI_m1n, sI_or, if_pos, if_neg, Option.bind_some, am_call2_e, am_call3_e, am_call4_e, am_call5_e, am_call6_e, am_call7_e, am_call8_e, am_call9_e, am_call10_e, am_call11_e, am_call12_e, am_call13_e, am_call14_e, li_0, li_1, li_2, li_3, li_4, li_5, li_6, li_7, li_8, li_9, li_10, li_12, li_16, li_20, li_21, li_22, li_32, li_33, li_44, li_45, li_48, li_57, li_59, li_60, li_63, li_74, li_75, li_99, li_100, li_109, li_111, li_114, li_126, li_200, li_340, li_580, li_1740, li_65537, li_1000000, ll_0, ll_1, ll_100, h0]) 0 (Nat.zero_le _) am_fuel (by rw [fuelE]; omega) (nI 1) ⟨fun _ => rfl, fun h => absurd (fun k hk => absurd hk (Nat.not_lt_zero k)) h⟩
    exact ⟨x, hx1, hx2, e⟩
  unfold F_X7_meeting
  rw [flateM h1s hG0]
  simp only [am_let, li_0, li_1, li_2, li_3, li_4, li_5, li_6, li_7, li_8, li_9, li_10, li_12, li_16, li_20, li_21, li_22, li_32, li_33, li_44, li_45, li_48, li_57, li_59, li_60, li_63, li_74, li_75, li_99, li_100, li_109, li_111, li_114, li_126, li_200, li_340, li_580, li_1740, li_65537, li_1000000, ll_0, ll_1, ll_100, Option.bind_some]
  refine fdown1 (L := G - 1) (by omega) ?_ ?_ ?_
  · intro rec d hd hpd
    unfold F_X7_meeting_B6
    simp (disch := omega) only [am_let, li_0, li_1, li_2, li_3, li_4, li_5, li_6, li_7, li_8, li_9, li_10, li_12, li_16, li_20, li_21, li_22, li_32, li_33, li_44, li_45, li_48, li_57, li_59, li_60, li_63, li_74, li_75, li_99, li_100, li_109, li_111, li_114, li_126, li_200, li_340, li_580, li_1740, li_65537, li_1000000, ll_0, ll_1, ll_100, sI_lt, if_neg, up 0 d hN0 hd, Option.bind_some, if_true]
    obtain ⟨x, g1, -, e⟩ := inner (fun x9 => if x9 = nI 0 then rec (nI (G - 1 - d) + -nI 1) else some (nI (G - 1 - d))) d hd
    rw [e, g1 hpd]
    simp (disch := omega) only [sI_eq, if_neg]
  · intro rec d hd hpd
    unfold F_X7_meeting_B6
    simp (disch := omega) only [am_let, li_0, li_1, li_2, li_3, li_4, li_5, li_6, li_7, li_8, li_9, li_10, li_12, li_16, li_20, li_21, li_22, li_32, li_33, li_44, li_45, li_48, li_57, li_59, li_60, li_63, li_74, li_75, li_99, li_100, li_109, li_111, li_114, li_126, li_200, li_340, li_580, li_1740, li_65537, li_1000000, ll_0, ll_1, ll_100, sI_lt, if_neg, up 0 d hN0 hd, Option.bind_some, if_true]
    obtain ⟨x, -, g1, e⟩ := inner (fun x9 => if x9 = nI 0 then rec (nI (G - 1 - d) + -nI 1) else some (nI (G - 1 - d))) d hd
    rw [e, g1 hpd]
    simp (disch := omega) only [if_true, m1down hd]
  · intro rec
    unfold F_X7_meeting_B6
    simp (disch := omega) only [li_0, li_1, li_2, li_3, li_4, li_5, li_6, li_7, li_8, li_9, li_10, li_12, li_16, li_20, li_21, li_22, li_32, li_33, li_44, li_45, li_48, li_57, li_59, li_60, li_63, li_74, li_75, li_99, li_100, li_109, li_111, li_114, li_126, li_200, li_340, li_580, li_1740, li_65537, li_1000000, ll_0, ll_1, ll_100, neg1_lt, if_true]
theorem frootC {f : Nat → Int32} {pa : Nat → Nat → Nat} {N G : Nat} (hN0 : 0 < N) (hN : N ≤ 12) (hG0 : 1 ≤ G) (hG : G ≤ 20) (hp : ∀ g k, 0 < g → g < G → k < N → f (g * 12 + k) = nI (pa g k)) (hb : ∀ g k, 0 < g → g < G → k < N → pa g k < N) : ∃ r, MeetP (fun d => ∀ k, k < N → ancN pa (G - 1) 0 d = ancN pa (G - 1) k d) (G - 1) r ∧ F_X4_meetingOfAll (nI N) (nI G) f = some r := by
  unfold F_X4_meetingOfAll
  rw [flateC hG0]
  simp only [am_let, li_0, li_1, li_2, li_3, li_4, li_5, li_6, li_7, li_8, li_9, li_10, li_12, li_16, li_20, li_21, li_22, li_32, li_33, li_44, li_45, li_48, li_57, li_59, li_60, li_63, li_74, li_75, li_99, li_100, li_109, li_111, li_114, li_126, li_200, li_340, li_580, li_1740, li_65537, li_1000000, ll_0, ll_1, ll_100, Option.bind_some]
  have hinit : MeetP (fun d => ∀ k, k < 1 → ancN pa (G - 1) 0 d = ancN pa (G - 1) k d) (G - 1) (nI (G - 1)) := by
    refine Or.inl ⟨0, Nat.zero_le _, ?_, fun d hd => absurd hd (Nat.not_lt_zero d), rfl⟩
    intro k hk
    have : k = 0 := by omega
    rw [this]
  obtain ⟨x, hx, e⟩ := for2L (b := F_X4_meetingOfAll_B10 (nI N) (fun x2 => some x2) (nI G) f) nI N (fun j x => MeetP (fun d => ∀ k, k < j → ancN pa (G - 1) 0 d = ancN pa (G - 1) k d) (G - 1) x) (fun x2 => some x2) (by
    rintro rec x j hj hI
    obtain ⟨r, h1, h2⟩ := fmeetC hN hG0 hG hN0 hj hp hb
    refine ⟨if r < x then r else x, ?_, ?_⟩
    · have h3 := MeetP.min (by omega) (fun d hd h => fun k hk => ?_) (fun d hd h => ?_) hI h1
      · have e2 : (fun d => (∀ k, k < j → ancN pa (G - 1) 0 d = ancN pa (G - 1) k d) ∧ ancN pa (G - 1) 0 d = ancN pa (G - 1) j d) = fun d => ∀ k, k < j + 1 → ancN pa (G - 1) 0 d = ancN pa (G - 1) k d := by
          funext d
          apply propext
          constructor
          · rintro ⟨g1, g2⟩ k hk
            by_cases hk2 : k = j
            · subst hk2; exact g2
            · exact g1 k (by omega)
          · intro g
            exact ⟨fun k hk => g k (by omega), g j (by omega)⟩
        rw [← e2]
        exact h3
      · show pa (G - 1 - d) (ancN pa (G - 1) 0 d) = pa (G - 1 - d) (ancN pa (G - 1) k d)
        rw [h k hk]
      · show pa (G - 1 - d) (ancN pa (G - 1) 0 d) = pa (G - 1 - d) (ancN pa (G - 1) j d)
        rw [h]
    · unfold F_X4_meetingOfAll_B10 F_X1_many
      simp (disch := omega) only [am_let, li_0, li_1, li_2, li_3, li_4, li_5, li_6, li_7, li_8, li_9, li_10, li_12, li_16, li_20, li_21, li_22, li_32, li_33, li_44, li_45, li_48, li_57, li_59, li_60, li_63, li_74, li_75, li_99, li_100, li_109, li_111, li_114, li_126, li_200, li_340, li_580, li_1740, li_65537, li_1000000, ll_0, ll_1, ll_100, Option.bind_some, sI_le, sI_add, if_neg, h2]) (by
    rintro rec x -
    unfold F_X4_meetingOfAll_B10 F_X1_many
    simp (disch := omega) only [if_true, if_false, am_let, am_in_n, am_nz_n, am_nzl_n, sI_add, sI_mul, sI_cl, sI_le, sI_lt, sI_eq, sI_l, lN_add, lN_mul, lN_i, sg_gt, sg_le, sg_eq, sg_ge, sI_rem, sI_div, sI_rem2, sL_rem, sL_div, sL_rem2, sI_sub, sI_m1, sI_m1n, sI_or, if_pos, if_neg, Option.bind_some, am_call2_e, am_call3_e, am_call4_e, am_call5_e, am_call6_e, am_call7_e, am_call8_e, am_call9_e, am_call10_e, am_call11_e, am_call12_e, am_call13_e, am_call14_e, li_0, li_1, li_2, li_3, li_4, li_5, li_6, li_7, li_8, li_9, li_10, li_12, li_16, li_20, li_21, li_22, li_32, li_33, li_44, li_45, li_48, li_57, li_59, li_60, li_63, li_74, li_75, li_99, li_100, li_109, li_111, li_114, li_126, li_200, li_340, li_580, li_1740, li_65537, li_1000000, ll_0, ll_1, ll_100]) 1 (by omega) am_fuel (by rw [fuelE]; omega) (nI (G - 1)) hinit
  exact ⟨x, hx, e⟩
-- points
def faR (w : Nat → Nat) (c p : Nat) : Nat → Nat
  | 0 => 0
  | n + 1 => if p < c * sumN w n then faR w c p n else n
theorem faR_s {w : Nat → Nat} {p c : Nat} : ∀ N, p < c * sumN w N → faR w c p N < N ∧ p < c * sumN w (faR w c p N + 1) ∧ ∀ i, i < faR w c p N → c * sumN w (i + 1) ≤ p
  | 0, h => by have e : sumN w 0 = 0 := rfl
               rw [e, Nat.mul_zero] at h; omega
  | N + 1, h => by
    by_cases h1 : p < c * sumN w N
    · have e : faR w c p (N + 1) = faR w c p N := if_pos h1
      obtain ⟨h2, h3, h4⟩ := faR_s N h1
      rw [e]
      exact ⟨by omega, h3, h4⟩
    · have e : faR w c p (N + 1) = N := if_neg h1
      rw [e]
      refine ⟨by omega, h, fun i hi => ?_⟩
      have h2 : sumN w (i + 1) ≤ sumN w N := sumN_mono (by omega)
      have h3 : c * sumN w (i + 1) ≤ c * sumN w N := Nat.mul_le_mul_left _ h2
      omega
theorem faR_u {w : Nat → Nat} {p c N e : Nat} (he : e < N) (h1 : p < c * sumN w (e + 1)) (h2 : c * sumN w e ≤ p) : faR w c p N = e := by
  have h3 : sumN w (e + 1) ≤ sumN w N := sumN_mono (by omega)
  have h4 : c * sumN w (e + 1) ≤ c * sumN w N := Nat.mul_le_mul_left _ h3
  obtain ⟨g1, g2, g3⟩ := faR_s (w := w) (c := c) (p := p) N (by omega)
  rcases Nat.lt_trichotomy (faR w c p N) e with h | h | h
  · have h5 : sumN w (faR w c p N + 1) ≤ sumN w e := sumN_mono (by omega)
    have h6 : c * sumN w (faR w c p N + 1) ≤ c * sumN w e := Nat.mul_le_mul_left _ h5
    omega
  · exact h
  · have := g3 e h
    omega
def nzk (z : Nat) : Nat → Nat
  | 0 => z
  | k + 1 => (nzk z k * 75 + 74) % 65537
theorem nzk_lt {z : Nat} (h : z < 65537) : ∀ k, nzk z k < 65537
  | 0 => h
  | k + 1 => Nat.mod_lt _ (by omega)
theorem pt_lt {N S k x : Nat} (hk : k < N) (hx : x < S) : k * S + x < N * S := by
  have h1 : (k + 1) * S ≤ N * S := Nat.mul_le_mul_right _ (by omega)
  have h2 : (k + 1) * S = k * S + S := Nat.succ_mul k S
  omega
theorem off_lt {off S : Nat} (h : off ≤ 99) (hS : 0 < S) : off * S / 100 < S := by
  have h1 : off * S ≤ 99 * S := Nat.mul_le_mul_right _ h
  omega
theorem fnoise {z : Nat} (h : z < 65537) : F_X6_noiseBehind (nI z) = some (nI ((z * 75 + 74) % 65537)) := by
  have e : z * 75 + 74 - (z * 75 + 74) / 65537 * 65537 = (z * 75 + 74) % 65537 := by omega
  unfold F_X6_noiseBehind
  simp (disch := omega) only [if_true, if_false, am_let, am_in_n, am_nz_n, am_nzl_n, sI_add, sI_mul, sI_cl, sI_le, sI_lt, sI_eq, sI_l, lN_add, lN_mul, lN_i, sg_gt, sg_le, sg_eq, sg_ge, sI_rem, sI_div, sI_rem2, sL_rem, sL_div, sL_rem2, sI_sub, sI_m1, sI_m1n, sI_or, if_pos, if_neg, Option.bind_some, am_call2_e, am_call3_e, am_call4_e, am_call5_e, am_call6_e, am_call7_e, am_call8_e, am_call9_e, am_call10_e, am_call11_e, am_call12_e, am_call13_e, am_call14_e, li_0, li_1, li_2, li_3, li_4, li_5, li_6, li_7, li_8, li_9, li_10, li_12, li_16, li_20, li_21, li_22, li_32, li_33, li_44, li_45, li_48, li_57, li_59, li_60, li_63, li_74, li_75, li_99, li_100, li_109, li_111, li_114, li_126, li_200, li_340, li_580, li_1740, li_65537, li_1000000, ll_0, ll_1, ll_100, e]
theorem foffsetC {f : Nat → Int32} {N off : Nat} {w : Nat → Nat} (anc : Nat → Int32) (hN : N ≤ 12) (hoff : off ≤ 99) (hw : ∀ k, k < N → f k = nI (w k)) (hb : ∀ k, k < N → w k ≤ 1000000) (hS : 0 < sumN w N) : ∃ a', (∀ k, k < N → a' k = nI (faR w N (k * sumN w N + off * sumN w N / 100) N)) ∧ F_X0_chooseByOffset anc (nI N) f (nI off) = some a' := by
  have hS2 := (sq_le hN hb).1
  have ho := off_lt hoff hS
  have ho2 : off * sumN w N ≤ 99 * 12000000 := Nat.mul_le_mul hoff hS2
  unfold F_X0_chooseByOffset
  rw [fsumC hN hw (fun k hk => by have := hb k hk; omega)]
  simp (disch := omega) only [am_let, li_0, li_1, li_2, li_3, li_4, li_5, li_6, li_7, li_8, li_9, li_10, li_12, li_16, li_20, li_21, li_22, li_32, li_33, li_44, li_45, li_48, li_57, li_59, li_60, li_63, li_74, li_75, li_99, li_100, li_109, li_111, li_114, li_126, li_200, li_340, li_580, li_1740, li_65537, li_1000000, ll_0, ll_1, ll_100, Option.bind_some, sI_l, lN_mul, sL_div]
  exact for2F (b := F_X0_chooseByOffset_B18 (nI N) (fun f3 => some f3) f (lN (sumN w N)) (lN (off * sumN w N / 100))) nI N (fun j a' => ∀ k, k < j → a' k = nI (faR w N (k * sumN w N + off * sumN w N / 100) N)) (fun f3 => some f3) (by
    intro rec a' j hj h
    have hp := pt_lt (N := N) (S := sumN w N) hj ho
    have hq : j * sumN w N ≤ 12 * 12000000 := Nat.mul_le_mul (by omega) hS2
    obtain ⟨g1, g2, g3⟩ := faR_s N hp
    refine ⟨upd a' j (nI (faR w N (j * sumN w N + off * sumN w N / 100) N)), fun k hk => ?_, ?_⟩
    · by_cases hkj : k = j
      · subst hkj; exact upd_s _ _ _
      · rw [upd_n hkj]; exact h k (by omega)
    · unfold F_X0_chooseByOffset_B18
      simp (disch := omega) only [if_true, if_false, am_let, am_in_n, am_nz_n, am_nzl_n, sI_add, sI_mul, sI_cl, sI_le, sI_lt, sI_eq, sI_l, lN_add, lN_mul, lN_i, sg_gt, sg_le, sg_eq, sg_ge, sI_rem, sI_div, sI_rem2, sL_rem, sL_div, sL_rem2, sI_sub, sI_m1, sI_m1n, sI_or, if_pos, if_neg, Option.bind_some, am_call2_e, am_call3_e, am_call4_e, am_call5_e, am_call6_e, am_call7_e, am_call8_e, am_call9_e, am_call10_e, am_call11_e, am_call12_e, am_call13_e, am_call14_e, li_0, li_1, li_2, li_3, li_4, li_5, li_6, li_7, li_8, li_9, li_10, li_12, li_16, li_20, li_21, li_22, li_32, li_33, li_44, li_45, li_48, li_57, li_59, li_60, li_63, li_74, li_75, li_99, li_100, li_109, li_111, li_114, li_126, li_200, li_340, li_580, li_1740, li_65537, li_1000000, ll_0, ll_1, ll_100, ffirst hN g1 hw hb (show j * sumN w N + off * sumN w N / 100 < 1000000000000 by omega) g2 g3]) (by
    intro rec a' h
    unfold F_X0_chooseByOffset_B18
    simp (disch := omega) only [if_true, if_false, am_let, am_in_n, am_nz_n, am_nzl_n, sI_add, sI_mul, sI_cl, sI_le, sI_lt, sI_eq, sI_l, lN_add, lN_mul, lN_i, sg_gt, sg_le, sg_eq, sg_ge, sI_rem, sI_div, sI_rem2, sL_rem, sL_div, sL_rem2, sI_sub, sI_m1, sI_m1n, sI_or, if_pos, if_neg, Option.bind_some, am_call2_e, am_call3_e, am_call4_e, am_call5_e, am_call6_e, am_call7_e, am_call8_e, am_call9_e, am_call10_e, am_call11_e, am_call12_e, am_call13_e, am_call14_e, li_0, li_1, li_2, li_3, li_4, li_5, li_6, li_7, li_8, li_9, li_10, li_12, li_16, li_20, li_21, li_22, li_32, li_33, li_44, li_45, li_48, li_57, li_59, li_60, li_63, li_74, li_75, li_99, li_100, li_109, li_111, li_114, li_126, li_200, li_340, li_580, li_1740, li_65537, li_1000000, ll_0, ll_1, ll_100]) 0 (Nat.zero_le _) am_fuel (by rw [fuelE]; omega) anc (fun k hk => absurd hk (Nat.not_lt_zero k))
theorem fnoisesC {f : Nat → Int32} {N z : Nat} {w : Nat → Nat} (anc : Nat → Int32) (hN : N ≤ 12) (hz : z < 65537) (hw : ∀ k, k < N → f k = nI (w k)) (hb : ∀ k, k < N → w k ≤ 1000000) (hS : 0 < sumN w N) : ∃ a', (∀ k, k < N → a' k = nI (faR w N (k * sumN w N + nzk z (k + 1) % sumN w N) N)) ∧ F_X0_chooseByNoises (nI z) anc (nI N) f = some (nI (nzk z N), a') := by
  have hS2 := (sq_le hN hb).1
  unfold F_X0_chooseByNoises
  rw [fsumC hN hw (fun k hk => by have := hb k hk; omega)]
  simp (disch := omega) only [am_let, li_0, li_1, li_2, li_3, li_4, li_5, li_6, li_7, li_8, li_9, li_10, li_12, li_16, li_20, li_21, li_22, li_32, li_33, li_44, li_45, li_48, li_57, li_59, li_60, li_63, li_74, li_75, li_99, li_100, li_109, li_111, li_114, li_126, li_200, li_340, li_580, li_1740, li_65537, li_1000000, ll_0, ll_1, ll_100, ll_0, Option.bind_some, sg_gt, if_pos]
  obtain ⟨u, a', ⟨h1, h2⟩, e⟩ := for3F (b := F_X0_chooseByNoises_B15 (nI N) (fun u2 f3 => some (u2, f3)) (lN (sumN w N)) f) nI N (fun j u a' => u = nI (nzk z j) ∧ ∀ k, k < j → a' k = nI (faR w N (k * sumN w N + nzk z (k + 1) % sumN w N) N)) (fun u2 f3 => some (u2, f3)) (by
    rintro rec u a' j hj ⟨rfl, h⟩
    have hz1 := nzk_lt hz j
    have hz2 := nzk_lt hz (j + 1)
    have hm : nzk z (j + 1) % sumN w N < sumN w N := Nat.mod_lt _ hS
    have hp := pt_lt (N := N) (S := sumN w N) hj hm
    have hq : j * sumN w N ≤ 12 * 12000000 := Nat.mul_le_mul (by omega) hS2
    have e1 : (nzk z j * 75 + 74) % 65537 = nzk z (j + 1) := rfl
    obtain ⟨g1, g2, g3⟩ := faR_s N hp
    refine ⟨nI (nzk z (j + 1)), upd a' j (nI (faR w N (j * sumN w N + nzk z (j + 1) % sumN w N) N)), ⟨rfl, fun k hk => ?_⟩, ?_⟩
    · by_cases hkj : k = j
      · subst hkj; exact upd_s _ _ _
      · rw [upd_n hkj]; exact h k (by omega)
    · unfold F_X0_chooseByNoises_B15
      simp (disch := omega) only [if_true, if_false, am_let, am_in_n, am_nz_n, am_nzl_n, sI_add, sI_mul, sI_cl, sI_le, sI_lt, sI_eq, sI_l, lN_add, lN_mul, lN_i, sg_gt, sg_le, sg_eq, sg_ge, sI_rem, sI_div, sI_rem2, sL_rem, sL_div, sL_rem2, sI_sub, sI_m1, sI_m1n, sI_or, if_pos, if_neg, Option.bind_some, am_call2_e, am_call3_e, am_call4_e, am_call5_e, am_call6_e, am_call7_e, am_call8_e, am_call9_e, am_call10_e, am_call11_e, am_call12_e, am_call13_e, am_call14_e, li_0, li_1, li_2, li_3, li_4, li_5, li_6, li_7, li_8, li_9, li_10, li_12, li_16, li_20, li_21, li_22, li_32, li_33, li_44, li_45, li_48, li_57, li_59, li_60, li_63, li_74, li_75, li_99, li_100, li_109, li_111, li_114, li_126, li_200, li_340, li_580, li_1740, li_65537, li_1000000, ll_0, ll_1, ll_100, fnoise hz1, e1, ffirst hN g1 hw hb (show j * sumN w N + nzk z (j + 1) % sumN w N < 1000000000000 by omega) g2 g3]) (by
    rintro rec u a' -
    unfold F_X0_chooseByNoises_B15
    simp (disch := omega) only [if_true, if_false, am_let, am_in_n, am_nz_n, am_nzl_n, sI_add, sI_mul, sI_cl, sI_le, sI_lt, sI_eq, sI_l, lN_add, lN_mul, lN_i, sg_gt, sg_le, sg_eq, sg_ge, sI_rem, sI_div, sI_rem2, sL_rem, sL_div, sL_rem2, sI_sub, sI_m1, sI_m1n, sI_or, if_pos, if_neg, Option.bind_some, am_call2_e, am_call3_e, am_call4_e, am_call5_e, am_call6_e, am_call7_e, am_call8_e, am_call9_e, am_call10_e, am_call11_e, am_call12_e, am_call13_e, am_call14_e, li_0, li_1, li_2, li_3, li_4, li_5, li_6, li_7, li_8, li_9, li_10, li_12, li_16, li_20, li_21, li_22, li_32, li_33, li_44, li_45, li_48, li_57, li_59, li_60, li_63, li_74, li_75, li_99, li_100, li_109, li_111, li_114, li_126, li_200, li_340, li_580, li_1740, li_65537, li_1000000, ll_0, ll_1, ll_100]) 0 (Nat.zero_le _) am_fuel (by rw [fuelE]; omega) (nI z) anc ⟨rfl, fun k hk => absurd hk (Nat.not_lt_zero k)⟩
  exact ⟨a', h2, by rw [e, h1]⟩
theorem fpointM {s : Nat → Int32} {N e p : Nat} {w : Nat → Nat} (K : Int32 → Option ((Nat → Int32) × (Nat → Int32))) (hN : N ≤ 12) (he : e < N) (hw : ∀ k, k < N → s (8 + k) = nI (w k)) (hb : ∀ k, k < N → w k ≤ 1000000) (hp : p < 1000000000000) (h1 : p < N * sumN w (e + 1)) (h2 : ∀ i, i < e → N * sumN w (i + 1) ≤ p) : am_loop2 (F_X7_byPoints_B75 (nI N) (lN p) K s) am_fuel (nI 0) (lN (w 0)) = K (nI e) := by
  have hs2 : ∀ j, j ≤ N → sumN w j ≤ 12000000 := by
    intro j hj
    have h3 : sumN w j ≤ sumN w N := sumN_mono hj
    have h4 := (sq_le hN hb).1
    omega
  have hs : ∀ j, j ≤ N → N * sumN w j ≤ 12 * 12000000 := fun j hj => Nat.mul_le_mul hN (hs2 j hj)
  obtain ⟨x, hx, e1⟩ := for2F (b := F_X7_byPoints_B75 (nI N) (lN p) K s) nI e (fun j x => x = lN (sumN w (j + 1))) (fun _ => K (nI e)) (by
    rintro rec x j hj rfl
    refine ⟨_, rfl, ?_⟩
    have h3 := hb (j + 1) (by omega)
    have h4 := hs (j + 1) (by omega)
    have h5 := h2 j hj
    have h6 := hs2 (j + 1) (by omega)
    have e2 : sumN w (j + 1) + w (j + 1) = sumN w (j + 1 + 1) := rfl
    unfold F_X7_byPoints_B75
    simp (disch := omega) only [if_true, if_false, am_let, am_in_n, am_nz_n, am_nzl_n, sI_add, sI_mul, sI_cl, sI_le, sI_lt, sI_eq, sI_l, lN_add, lN_mul, lN_i, sg_gt, sg_le, sg_eq, sg_ge, sI_rem, sI_div, sI_rem2, sL_rem, sL_div, sL_rem2, sI_sub, sI_m1, sI_m1n, sI_or, if_pos, if_neg, Option.bind_some, am_call2_e, am_call3_e, am_call4_e, am_call5_e, am_call6_e, am_call7_e, am_call8_e, am_call9_e, am_call10_e, am_call11_e, am_call12_e, am_call13_e, am_call14_e, li_0, li_1, li_2, li_3, li_4, li_5, li_6, li_7, li_8, li_9, li_10, li_12, li_16, li_20, li_21, li_22, li_32, li_33, li_44, li_45, li_48, li_57, li_59, li_60, li_63, li_74, li_75, li_99, li_100, li_109, li_111, li_114, li_126, li_200, li_340, li_580, li_1740, li_65537, li_1000000, ll_0, ll_1, ll_100, hw (j + 1) (by omega), e2]) (by
    rintro rec x rfl
    have h4 := hs (e + 1) (by omega)
    have h6 := hs2 (e + 1) (by omega)
    unfold F_X7_byPoints_B75
    simp (disch := omega) only [if_true, if_false, am_let, am_in_n, am_nz_n, am_nzl_n, sI_add, sI_mul, sI_cl, sI_le, sI_lt, sI_eq, sI_l, lN_add, lN_mul, lN_i, sg_gt, sg_le, sg_eq, sg_ge, sI_rem, sI_div, sI_rem2, sL_rem, sL_div, sL_rem2, sI_sub, sI_m1, sI_m1n, sI_or, if_pos, if_neg, Option.bind_some, am_call2_e, am_call3_e, am_call4_e, am_call5_e, am_call6_e, am_call7_e, am_call8_e, am_call9_e, am_call10_e, am_call11_e, am_call12_e, am_call13_e, am_call14_e, li_0, li_1, li_2, li_3, li_4, li_5, li_6, li_7, li_8, li_9, li_10, li_12, li_16, li_20, li_21, li_22, li_32, li_33, li_44, li_45, li_48, li_57, li_59, li_60, li_63, li_74, li_75, li_99, li_100, li_109, li_111, li_114, li_126, li_200, li_340, li_580, li_1740, li_65537, li_1000000, ll_0, ll_1, ll_100]) 0 (Nat.zero_le _) am_fuel (by rw [fuelE]; omega) (lN (w 0)) (by show lN (w 0) = lN (0 + w 0); rw [Nat.zero_add])
  exact e1
theorem foffsetM {s : Nat → Int32} {N off : Nat} {w : Nat → Nat} (ch : Nat → Int32) (h0 : s 0 = nI N) (h7 : s 7 = nI off) (hN0 : 0 < N) (hN : N ≤ 12) (hoff : off ≤ 99) (hw : ∀ k, k < N → s (8 + k) = nI (w k)) (hb : ∀ k, k < N → w k ≤ 1000000) (hS : 0 < sumN w N) : ∃ a', (∀ k, k < N → a' k = nI (faR w N (k * sumN w N + off * sumN w N / 100) N)) ∧ F_X7_byPoints s ch (nI 0) = some (s, a') := by
  have hS2 := (sq_le hN hb).1
  have ho := off_lt hoff hS
  have ho2 : off * sumN w N ≤ 99 * 12000000 := Nat.mul_le_mul hoff hS2
  unfold F_X7_byPoints
  rw [fsumM h0 hN hw]
  simp only [am_let]
  simp (disch := omega) only [li_0, li_1, li_2, li_3, li_4, li_5, li_6, li_7, li_8, li_9, li_10, li_12, li_16, li_20, li_21, li_22, li_32, li_33, li_44, li_45, li_48, li_57, li_59, li_60, li_63, li_74, li_75, li_99, li_100, li_109, li_111, li_114, li_126, li_200, li_340, li_580, li_1740, li_65537, li_1000000, ll_0, ll_1, ll_100, ll_100, Option.bind_some, sI_l, lN_mul, sL_div, sI_cl, h0, h7]
  obtain ⟨f9, a', ⟨h1, h2⟩, e⟩ := for3F (b := F_X7_byPoints_B32 (nI N) (fun f5 f6 => some (f5, f6)) (lN (sumN w N)) (nI 0) (lN (off * sumN w N / 100))) nI N (fun j f9 a' => f9 = s ∧ ∀ k, k < j → a' k = nI (faR w N (k * sumN w N + off * sumN w N / 100) N)) (fun f5 f6 => some (f5, f6)) (by
    rintro rec f9 a' j hj ⟨rfl, h⟩
    have hp := pt_lt (N := N) (S := sumN w N) hj ho
    have hq : j * sumN w N ≤ 12 * 12000000 := Nat.mul_le_mul (by omega) hS2
    obtain ⟨g1, g2, g3⟩ := faR_s N hp
    have hw0 := hw 0 hN0
    have hb0 := hb 0 hN0
    refine ⟨f9, upd a' j (nI (faR w N (j * sumN w N + off * sumN w N / 100) N)), ⟨rfl, fun k hk => ?_⟩, ?_⟩
    · by_cases hkj : k = j
      · subst hkj; exact upd_s _ _ _
      · rw [upd_n hkj]; exact h k (by omega)
    · unfold F_X7_byPoints_B32
      simp only [am_let]
      simp (disch := omega) only [li_0, li_1, li_2, li_3, li_4, li_5, li_6, li_7, li_8, li_9, li_10, li_12, li_16, li_20, li_21, li_22, li_32, li_33, li_44, li_45, li_48, li_57, li_59, li_60, li_63, li_74, li_75, li_99, li_100, li_109, li_111, li_114, li_126, li_200, li_340, li_580, li_1740, li_65537, li_1000000, ll_0, ll_1, ll_100, sI_le, if_neg, if_true, sI_l, sI_cl, lN_mul, lN_add, show f9 8 = nI (w 0) from hw0]
      rw [fpointM _ hN g1 hw hb (show j * sumN w N + off * sumN w N / 100 < 1000000000000 by omega) g2 g3]
      try simp only [am_let]
      simp (disch := omega) only [if_true, if_false, am_in_n, am_nz_n, am_nzl_n, sI_add, sI_mul, sI_cl, sI_le, sI_lt, sI_eq, sI_l, lN_add, lN_mul, lN_i, sg_gt, sg_le, sg_eq, sg_ge, sI_rem, sI_div, sI_rem2, sL_rem, sL_div, sL_rem2, sI_sub, sI_m1, sI_m1n, sI_or, if_pos, if_neg, Option.bind_some, am_call2_e, am_call3_e, am_call4_e, am_call5_e, am_call6_e, am_call7_e, am_call8_e, am_call9_e, am_call10_e, am_call11_e, am_call12_e, am_call13_e, am_call14_e, li_0, li_1, li_2, li_3, li_4, li_5, li_6, li_7, li_8, li_9, li_10, li_12, li_16, li_20, li_21, li_22, li_32, li_33, li_44, li_45, li_48, li_57, li_59, li_60, li_63, li_74, li_75, li_99, li_100, li_109, li_111, li_114, li_126, li_200, li_340, li_580, li_1740, li_65537, li_1000000, ll_0, ll_1, ll_100]) (by
    rintro rec f9 a' -
    unfold F_X7_byPoints_B32
    try simp only [am_let]
    simp (disch := omega) only [if_true, if_false, am_in_n, am_nz_n, am_nzl_n, sI_add, sI_mul, sI_cl, sI_le, sI_lt, sI_eq, sI_l, lN_add, lN_mul, lN_i, sg_gt, sg_le, sg_eq, sg_ge, sI_rem, sI_div, sI_rem2, sL_rem, sL_div, sL_rem2, sI_sub, sI_m1, sI_m1n, sI_or, if_pos, if_neg, Option.bind_some, am_call2_e, am_call3_e, am_call4_e, am_call5_e, am_call6_e, am_call7_e, am_call8_e, am_call9_e, am_call10_e, am_call11_e, am_call12_e, am_call13_e, am_call14_e, li_0, li_1, li_2, li_3, li_4, li_5, li_6, li_7, li_8, li_9, li_10, li_12, li_16, li_20, li_21, li_22, li_32, li_33, li_44, li_45, li_48, li_57, li_59, li_60, li_63, li_74, li_75, li_99, li_100, li_109, li_111, li_114, li_126, li_200, li_340, li_580, li_1740, li_65537, li_1000000, ll_0, ll_1, ll_100]) 0 (Nat.zero_le _) am_fuel (by rw [fuelE]; omega) s ch ⟨rfl, fun k hk => absurd hk (Nat.not_lt_zero k)⟩
  exact ⟨a', h2, by rw [e, h1]⟩
theorem ftakes {s : Nat → Int32} {z : Nat} (h2 : s 2 = nI z) (hz : z < 65537) : F_X7_takes s = some (nI ((z * 75 + 74) % 65537), upd s 2 (nI ((z * 75 + 74) % 65537))) := by
  have e : z * 75 + 74 - (z * 75 + 74) / 65537 * 65537 = (z * 75 + 74) % 65537 := by omega
  unfold F_X7_takes
  try simp only [am_let]
  simp (disch := omega) only [if_true, if_false, am_in_n, am_nz_n, am_nzl_n, sI_add, sI_mul, sI_cl, sI_le, sI_lt, sI_eq, sI_l, lN_add, lN_mul, lN_i, sg_gt, sg_le, sg_eq, sg_ge, sI_rem, sI_div, sI_rem2, sL_rem, sL_div, sL_rem2, sI_sub, sI_m1, sI_m1n, sI_or, if_pos, if_neg, Option.bind_some, am_call2_e, am_call3_e, am_call4_e, am_call5_e, am_call6_e, am_call7_e, am_call8_e, am_call9_e, am_call10_e, am_call11_e, am_call12_e, am_call13_e, am_call14_e, li_0, li_1, li_2, li_3, li_4, li_5, li_6, li_7, li_8, li_9, li_10, li_12, li_16, li_20, li_21, li_22, li_32, li_33, li_44, li_45, li_48, li_57, li_59, li_60, li_63, li_74, li_75, li_99, li_100, li_109, li_111, li_114, li_126, li_200, li_340, li_580, li_1740, li_65537, li_1000000, ll_0, ll_1, ll_100, h2, upd_s, e]
theorem fnoisesM {s : Nat → Int32} {N z : Nat} {w : Nat → Nat} (ch : Nat → Int32) (h0 : s 0 = nI N) (h2 : s 2 = nI z) (hN0 : 0 < N) (hN : N ≤ 12) (hz : z < 65537) (hw : ∀ k, k < N → s (8 + k) = nI (w k)) (hb : ∀ k, k < N → w k ≤ 1000000) (hS : 0 < sumN w N) : ∃ s' a', (s' 2 = nI (nzk z N) ∧ ∀ i, i ≠ 2 → s' i = s i) ∧ (∀ k, k < N → a' k = nI (faR w N (k * sumN w N + nzk z (k + 1) % sumN w N) N)) ∧ F_X7_byPoints s ch (nI 1) = some (s', a') := by
  have hS2 := (sq_le hN hb).1
  unfold F_X7_byPoints
  rw [fsumM h0 hN hw]
  simp only [am_let]
  simp (disch := omega) only [li_0, li_1, li_2, li_3, li_4, li_5, li_6, li_7, li_8, li_9, li_10, li_12, li_16, li_20, li_21, li_22, li_32, li_33, li_44, li_45, li_48, li_57, li_59, li_60, li_63, li_74, li_75, li_99, li_100, li_109, li_111, li_114, li_126, li_200, li_340, li_580, li_1740, li_65537, li_1000000, ll_0, ll_1, ll_100, Option.bind_some, sI_l, sI_cl, h0]
  generalize (s 7).toInt64 * lN (sumN w N) / lN 100 = X4
  obtain ⟨f9, a', ⟨g2, gi, hc⟩, e⟩ := for3F (b := F_X7_byPoints_B32 (nI N) (fun f5 f6 => some (f5, f6)) (lN (sumN w N)) (nI 1) X4) nI N (fun j f9 a' => f9 2 = nI (nzk z j) ∧ (∀ i, i ≠ 2 → f9 i = s i) ∧ ∀ k, k < j → a' k = nI (faR w N (k * sumN w N + nzk z (k + 1) % sumN w N) N)) (fun f5 f6 => some (f5, f6)) (by
    rintro rec f9 a' j hj ⟨g2, gi, h⟩
    have hz1 := nzk_lt hz j
    have hz2 := nzk_lt hz (j + 1)
    have hm : nzk z (j + 1) % sumN w N < sumN w N := Nat.mod_lt _ hS
    have hp := pt_lt (N := N) (S := sumN w N) hj hm
    have hq : j * sumN w N ≤ 12 * 12000000 := Nat.mul_le_mul (by omega) hS2
    have e1 : (nzk z j * 75 + 74) % 65537 = nzk z (j + 1) := rfl
    obtain ⟨g4, g5, g6⟩ := faR_s N hp
    have hw0 : upd f9 2 (nI (nzk z (j + 1))) 8 = nI (w 0) := by rw [upd_n (by omega), gi 8 (by omega)]; exact hw 0 hN0
    have hb0 := hb 0 hN0
    refine ⟨upd f9 2 (nI (nzk z (j + 1))), upd a' j (nI (faR w N (j * sumN w N + nzk z (j + 1) % sumN w N) N)), ⟨upd_s _ _ _, fun i hi => by rw [upd_n hi]; exact gi i hi, fun k hk => ?_⟩, ?_⟩
    · by_cases hkj : k = j
      · subst hkj; exact upd_s _ _ _
      · rw [upd_n hkj]; exact h k (by omega)
    · unfold F_X7_byPoints_B32
      simp only [am_let]
      simp (disch := omega) only [li_0, li_1, li_2, li_3, li_4, li_5, li_6, li_7, li_8, li_9, li_10, li_12, li_16, li_20, li_21, li_22, li_32, li_33, li_44, li_45, li_48, li_57, li_59, li_60, li_63, li_74, li_75, li_99, li_100, li_109, li_111, li_114, li_126, li_200, li_340, li_580, li_1740, li_65537, li_1000000, ll_0, ll_1, ll_100, sI_le, if_neg, sI_eq, ftakes g2 hz1, e1, am_call2_e, am_nzl_n, sL_rem, sI_l, sI_cl, lN_mul, lN_add, hw0]
      rw [fpointM _ hN g4 (fun k hk => by rw [upd_n (by omega), gi _ (by omega)]; exact hw k hk) hb (show j * sumN w N + nzk z (j + 1) % sumN w N < 1000000000000 by omega) g5 g6]
      try simp only [am_let]
      simp (disch := omega) only [if_true, if_false, am_in_n, am_nz_n, am_nzl_n, sI_add, sI_mul, sI_cl, sI_le, sI_lt, sI_eq, sI_l, lN_add, lN_mul, lN_i, sg_gt, sg_le, sg_eq, sg_ge, sI_rem, sI_div, sI_rem2, sL_rem, sL_div, sL_rem2, sI_sub, sI_m1, sI_m1n, sI_or, if_pos, if_neg, Option.bind_some, am_call2_e, am_call3_e, am_call4_e, am_call5_e, am_call6_e, am_call7_e, am_call8_e, am_call9_e, am_call10_e, am_call11_e, am_call12_e, am_call13_e, am_call14_e, li_0, li_1, li_2, li_3, li_4, li_5, li_6, li_7, li_8, li_9, li_10, li_12, li_16, li_20, li_21, li_22, li_32, li_33, li_44, li_45, li_48, li_57, li_59, li_60, li_63, li_74, li_75, li_99, li_100, li_109, li_111, li_114, li_126, li_200, li_340, li_580, li_1740, li_65537, li_1000000, ll_0, ll_1, ll_100]) (by
    rintro rec f9 a' -
    unfold F_X7_byPoints_B32
    try simp only [am_let]
    simp (disch := omega) only [if_true, if_false, am_in_n, am_nz_n, am_nzl_n, sI_add, sI_mul, sI_cl, sI_le, sI_lt, sI_eq, sI_l, lN_add, lN_mul, lN_i, sg_gt, sg_le, sg_eq, sg_ge, sI_rem, sI_div, sI_rem2, sL_rem, sL_div, sL_rem2, sI_sub, sI_m1, sI_m1n, sI_or, if_pos, if_neg, Option.bind_some, am_call2_e, am_call3_e, am_call4_e, am_call5_e, am_call6_e, am_call7_e, am_call8_e, am_call9_e, am_call10_e, am_call11_e, am_call12_e, am_call13_e, am_call14_e, li_0, li_1, li_2, li_3, li_4, li_5, li_6, li_7, li_8, li_9, li_10, li_12, li_16, li_20, li_21, li_22, li_32, li_33, li_44, li_45, li_48, li_57, li_59, li_60, li_63, li_74, li_75, li_99, li_100, li_109, li_111, li_114, li_126, li_200, li_340, li_580, li_1740, li_65537, li_1000000, ll_0, ll_1, ll_100]) 0 (Nat.zero_le _) am_fuel (by rw [fuelE]; omega) s ch ⟨h2, fun _ _ => rfl, fun k hk => absurd hk (Nat.not_lt_zero k)⟩
  exact ⟨f9, a', ⟨g2, gi⟩, hc, e⟩
