-- copies, settings, a new beginning
theorem inv_neg : ¬ (0 : Int32) ≤ -1000001 := by decide
theorem np_neg : ¬ (0 : Int32) ≤ -1000002 := by decide
theorem lim_neg : ¬ (0 : Int32) ≤ -1000003 := by decide
theorem nI_nn {n : Nat} (h : n < 2147483648) : (0 : Int32) ≤ nI n := nI_pos' h
section Begin
variable {N G z th sc of : Nat} {w : Nat → Nat} {pl pa : Nat → Nat → Nat} {s : Nat → Int32} {noi obs res lmany lgens : Int32} {lplf lpaf logf ldrf lspf lscf : Nat → Int32} {wmany : Int32} {wf sf : Nat → Int32}
theorem fcopyState (hG : Good N G z th sc of w pl pa s) (hR : Rel N G noi obs res lmany lgens lplf lpaf logf ldrf lspf lscf wmany wf sf s) (dn do_ dr dm dg : Int32) (d1 d2 d3 d4 d5 d6 : Nat → Int32) (dw : Int32) (d7 d8 : Nat → Int32) : ∃ f1 f2 f3 f4 f5 f6 f7 f8, Rel N G noi obs res lmany lgens f1 f2 f3 f4 f5 f6 wmany f7 f8 s ∧ F_X4_copyState dn do_ dr dm dg d1 d2 d3 d4 d5 d6 dw d7 d8 noi obs res lmany lgens lplf lpaf logf ldrf lspf lscf wmany wf sf = some (noi, obs, res, lmany, lgens, f1, f2, f3, f4, f5, f6, wmany, f7, f8) := by
  obtain ⟨⟨n0, n1, g0, g1, hz, hth, hsc, hof⟩, -, -, -, -⟩ := hG
  obtain ⟨⟨r0, r1, r2, r3, r4, r4', r5, r6, r7⟩, rw_, rg, rpl, rpa⟩ := hR
  obtain ⟨f1, a1, b1⟩ := fcopyRow 240 (by omega) d1 lplf
  obtain ⟨f2, a2, b2⟩ := fcopyRow 240 (by omega) d2 lpaf
  obtain ⟨f3, a3, b3⟩ := fcopyRow 20 (by omega) d3 logf
  obtain ⟨f4, a4, b4⟩ := fcopyRow 20 (by omega) d4 ldrf
  obtain ⟨f5, a5, b5⟩ := fcopyRow 20 (by omega) d5 lspf
  obtain ⟨f6, a6, b6⟩ := fcopyRow 20 (by omega) d6 lscf
  obtain ⟨f7, a7, b7⟩ := fcopyW dw wmany d7 wf
  obtain ⟨f8, a8, b8⟩ := fcopyRow 3 (by omega) d8 sf
  refine ⟨f1, f2, f3, f4, f5, f6, f7, f8, ⟨⟨r0, r1, r2, r3, r4, r4', (a8 0 (by omega)).trans r5, (a8 1 (by omega)).trans r6, (a8 2 (by omega)).trans r7⟩, fun k hk => (a7 k (by omega)).trans (rw_ k hk), fun g hg => ?_, fun g k hg hk => (a1 _ (by omega)).trans (rpl g k hg hk), fun g k h0 hg hk => (a2 _ (by omega)).trans (rpa g k h0 hg hk)⟩, ?_⟩
  · obtain ⟨o1, o2, o3⟩ := rg g hg
    rw [a3 g (by omega), a4 g (by omega), a5 g (by omega), a6 g (by omega)]
    exact ⟨o1, o2, o3⟩
  · unfold F_X4_copyState F_X1_copyLineage
    simp only [b1, b2, b3, b4, b5, b6, b7, b8, Option.bind_some, am_call8_e, am_call2_e]
theorem o_set (hG : Good N G z th sc of w pl pa s) (hR : Rel N G noi obs res lmany lgens lplf lpaf logf ldrf lspf lscf wmany wf sf s) {mpasts mruns up : Int32} {mpast fp : Nat → Int32} (hc : F_X7_changes mpasts mruns s mpast = some (up, fp)) (p0 p1 : Int32) : ∃ r sf', F_X4_putSetting sf p0 p1 = some (r, sf') ∧ ((¬ 0 ≤ r ∧ F_X7_set mpasts mruns s mpast p0 p1 = some (r, mpasts, s, mpast)) ∨ (0 ≤ r ∧ ∃ th' sc' of' s', F_X7_set mpasts mruns s mpast p0 p1 = some (r, up, s', fp) ∧ Good N G z th' sc' of' w pl pa s' ∧ Rel N G noi obs res lmany lgens lplf lpaf logf ldrf lspf lscf wmany wf sf' s')) := by
  obtain ⟨⟨n0, n1, g0, g1, hz, hth, hsc, hof⟩, ⟨s0, s1, s2, s5, s6, s7⟩, ⟨sw, swb, sS⟩, ⟨spl, splb⟩, spa, spab, sp0⟩ := hG
  obtain ⟨⟨r0, r1, r2, r3, r4, r4', r5, r6, r7⟩, rw_, rg, rpl, rpa⟩ := hR
  unfold F_X4_putSetting F_X7_set F_X4_greatestSetting
  simp only [am_let]
  rw [inEq]
  rcases inN p0 (a := 0) (b := 2) (by omega) (by omega) with ⟨j, -, hj, rfl, c1⟩ | ⟨-, c1⟩
  · have key : ∀ (M : Nat), M < 100 → (j = 0 → M = 12) → (j = 1 → M = 2) → (j = 2 → M = 99) → ∃ r sf', (Option.bind (F_X6_isWithin p1 (nI 0) (nI M)) fun r3 => if r3 = nI 0 then some (-1000001, sf) else Option.bind (F_X2_at 3 sf (nI j)) fun r4 => Option.bind (F_X2_put 3 sf (nI j) p1) fun f5 => some (r4, f5)) = some (r, sf') ∧ ((¬ 0 ≤ r ∧ (Option.bind (F_X6_isWithin p1 (nI 0) (nI M)) fun r4 => if r4 = nI 0 then some (-1000001, mpasts, s, mpast) else am_call2 (F_X7_changes mpasts mruns s mpast) fun u5 f6 => am_in (nI 5 + nI j) 580 (am_in (nI 5 + nI j) 580 (some (s (nI 5 + nI j).toNatClampNeg, u5, upd s (nI 5 + nI j).toNatClampNeg p1, f6)))) = some (r, mpasts, s, mpast)) ∨ (0 ≤ r ∧ ∃ th' sc' of' s', (Option.bind (F_X6_isWithin p1 (nI 0) (nI M)) fun r4 => if r4 = nI 0 then some (-1000001, mpasts, s, mpast) else am_call2 (F_X7_changes mpasts mruns s mpast) fun u5 f6 => am_in (nI 5 + nI j) 580 (am_in (nI 5 + nI j) 580 (some (s (nI 5 + nI j).toNatClampNeg, u5, upd s (nI 5 + nI j).toNatClampNeg p1, f6)))) = some (r, up, s', fp) ∧ Good N G z th' sc' of' w pl pa s' ∧ Rel N G noi obs res lmany lgens lplf lpaf logf ldrf lspf lscf wmany wf sf' s')) := by
      intro M hM m0 m1 m2
      rcases inN p1 (a := 0) (b := M) (by omega) (by omega) with ⟨v, -, hv, rfl, c2⟩ | ⟨-, c2⟩
      · have hs : ∃ x, x < 100 ∧ s (5 + j) = nI x ∧ sf j = nI x := by
          have : j = 0 ∨ j = 1 ∨ j = 2 := by omega
          rcases this with rfl | rfl | rfl
          · exact ⟨th, by omega, s5, r5.trans s5⟩
          · exact ⟨sc, by omega, s6, r6.trans s6⟩
          · exact ⟨of, by omega, s7, r7.trans s7⟩
        obtain ⟨x, hx, e1, e2⟩ := hs
        have us : ∀ i, i ≠ 5 + j → upd s (5 + j) (nI v) i = s i := fun i hi => upd_n hi
        have hRn : Rel N G noi obs res lmany lgens lplf lpaf logf ldrf lspf lscf wmany wf (upd sf j (nI v)) (upd s (5 + j) (nI v)) := by
          refine ⟨⟨r0, r1, r2, by rw [us _ (by omega)]; exact r3, by rw [us _ (by omega)]; exact r4, by rw [us _ (by omega)]; exact r4', ?_, ?_, ?_⟩, fun k hk => by rw [us _ (by omega)]; exact rw_ k hk, fun g hg => ?_, fun g k hg hk => by rw [us _ (by omega)]; exact rpl g k hg hk, fun g k h0 hg hk => by rw [us _ (by omega)]; exact rpa g k h0 hg hk⟩
          · by_cases h : j = 0
            · subst h; rw [upd_s]; exact (upd_s _ _ _).symm
            · rw [upd_n (Ne.symm h), us _ (by omega)]; exact r5
          · by_cases h : j = 1
            · subst h; rw [upd_s]; exact (upd_s _ _ _).symm
            · rw [upd_n (Ne.symm h), us _ (by omega)]; exact r6
          · by_cases h : j = 2
            · subst h; rw [upd_s]; exact (upd_s _ _ _).symm
            · rw [upd_n (Ne.symm h), us _ (by omega)]; exact r7
          · rw [us _ (by omega), us _ (by omega), us _ (by omega), us _ (by omega)]; exact rg g hg
        refine ⟨nI x, upd sf j (nI v), ?_, Or.inr ⟨nI_nn (by omega), if j = 0 then v else th, if j = 1 then v else sc, if j = 2 then v else of, upd s (5 + j) (nI v), ?_, ?_, hRn⟩⟩
        · simp (disch := omega) only [if_true, if_false, am_in_n, am_nz_n, am_nzl_n, sI_add, sI_mul, sI_cl, sI_le, sI_lt, sI_eq, sI_l, lN_add, lN_mul, lN_i, sg_gt, sg_le, sg_eq, sg_ge, sI_rem, sI_div, sI_rem2, sL_rem, sL_div, sL_rem2, sI_sub, sI_m1, sI_m1n, sI_or, if_pos, if_neg, Option.bind_some, am_call2_e, am_call3_e, am_call4_e, am_call5_e, am_call6_e, am_call7_e, am_call8_e, am_call9_e, am_call10_e, am_call11_e, am_call12_e, am_call13_e, am_call14_e, li_0, li_1, li_2, li_3, li_4, li_5, li_6, li_7, li_8, li_9, li_10, li_12, li_16, li_20, li_21, li_22, li_32, li_33, li_44, li_45, li_48, li_57, li_59, li_60, li_63, li_74, li_75, li_99, li_100, li_109, li_111, li_114, li_126, li_200, li_340, li_580, li_1740, li_65537, li_1000000, ll_0, ll_1, ll_100, c2, fat (n := 3) (i := j) (f := sf) (by omega) (by omega), fput (n := 3) (i := j) (f := sf) (v := nI v) (by omega) (by omega), e2]
        · simp (disch := omega) only [if_true, if_false, am_in_n, am_nz_n, am_nzl_n, sI_add, sI_mul, sI_cl, sI_le, sI_lt, sI_eq, sI_l, lN_add, lN_mul, lN_i, sg_gt, sg_le, sg_eq, sg_ge, sI_rem, sI_div, sI_rem2, sL_rem, sL_div, sL_rem2, sI_sub, sI_m1, sI_m1n, sI_or, if_pos, if_neg, Option.bind_some, am_call2_e, am_call3_e, am_call4_e, am_call5_e, am_call6_e, am_call7_e, am_call8_e, am_call9_e, am_call10_e, am_call11_e, am_call12_e, am_call13_e, am_call14_e, li_0, li_1, li_2, li_3, li_4, li_5, li_6, li_7, li_8, li_9, li_10, li_12, li_16, li_20, li_21, li_22, li_32, li_33, li_44, li_45, li_48, li_57, li_59, li_60, li_63, li_74, li_75, li_99, li_100, li_109, li_111, li_114, li_126, li_200, li_340, li_580, li_1740, li_65537, li_1000000, ll_0, ll_1, ll_100, c2, hc, e1]
        · refine ⟨⟨n0, n1, g0, g1, hz, ?_, ?_, ?_⟩, ⟨by rw [us _ (by omega)]; exact s0, by rw [us _ (by omega)]; exact s1, by rw [us _ (by omega)]; exact s2, ?_, ?_, ?_⟩, ⟨fun k hk => by rw [us _ (by omega)]; exact sw k hk, swb, sS⟩, ⟨fun g k hg hk => by rw [us _ (by omega)]; exact spl g k hg hk, splb⟩, fun g k h0 hg hk => by rw [us _ (by omega)]; exact spa g k h0 hg hk, spab, fun k hk => by rw [us _ (by omega)]; exact sp0 k hk⟩
          · split
            · have := m0 (by assumption); omega
            · exact hth
          · split
            · have := m1 (by assumption); omega
            · exact hsc
          · split
            · have := m2 (by assumption); omega
            · exact hof
          · by_cases h : j = 0
            · subst h; rw [if_pos rfl]; exact upd_s _ _ _
            · rw [if_neg h, us _ (by omega)]; exact s5
          · by_cases h : j = 1
            · subst h; rw [if_pos rfl]; exact upd_s _ _ _
            · rw [if_neg h, us _ (by omega)]; exact s6
          · by_cases h : j = 2
            · subst h; rw [if_pos rfl]; exact upd_s _ _ _
            · rw [if_neg h, us _ (by omega)]; exact s7
      · refine ⟨-1000001, sf, ?_, Or.inl ⟨inv_neg, ?_⟩⟩ <;> simp (disch := omega) only [if_true, if_false, am_in_n, am_nz_n, am_nzl_n, sI_add, sI_mul, sI_cl, sI_le, sI_lt, sI_eq, sI_l, lN_add, lN_mul, lN_i, sg_gt, sg_le, sg_eq, sg_ge, sI_rem, sI_div, sI_rem2, sL_rem, sL_div, sL_rem2, sI_sub, sI_m1, sI_m1n, sI_or, if_pos, if_neg, Option.bind_some, am_call2_e, am_call3_e, am_call4_e, am_call5_e, am_call6_e, am_call7_e, am_call8_e, am_call9_e, am_call10_e, am_call11_e, am_call12_e, am_call13_e, am_call14_e, li_0, li_1, li_2, li_3, li_4, li_5, li_6, li_7, li_8, li_9, li_10, li_12, li_16, li_20, li_21, li_22, li_32, li_33, li_44, li_45, li_48, li_57, li_59, li_60, li_63, li_74, li_75, li_99, li_100, li_109, li_111, li_114, li_126, li_200, li_340, li_580, li_1740, li_65537, li_1000000, ll_0, ll_1, ll_100, c2]
    have : j = 0 ∨ j = 1 ∨ j = 2 := by omega
    rcases this with rfl | rfl | rfl
    · simp (disch := omega) only [li_0, li_1, li_2, li_3, li_4, li_5, li_6, li_7, li_8, li_9, li_10, li_12, li_16, li_20, li_21, li_22, li_32, li_33, li_44, li_45, li_48, li_57, li_59, li_60, li_63, li_74, li_75, li_99, li_100, li_109, li_111, li_114, li_126, li_200, li_340, li_580, li_1740, li_65537, li_1000000, ll_0, ll_1, ll_100, c1, Option.bind_some, sI_eq, if_pos, if_neg]
      exact key 12 (by omega) (fun _ => rfl) (fun h => by omega) (fun h => by omega)
    · simp (disch := omega) only [li_0, li_1, li_2, li_3, li_4, li_5, li_6, li_7, li_8, li_9, li_10, li_12, li_16, li_20, li_21, li_22, li_32, li_33, li_44, li_45, li_48, li_57, li_59, li_60, li_63, li_74, li_75, li_99, li_100, li_109, li_111, li_114, li_126, li_200, li_340, li_580, li_1740, li_65537, li_1000000, ll_0, ll_1, ll_100, c1, Option.bind_some, sI_eq, if_pos, if_neg]
      exact key 2 (by omega) (fun h => by omega) (fun _ => rfl) (fun h => by omega)
    · simp (disch := omega) only [li_0, li_1, li_2, li_3, li_4, li_5, li_6, li_7, li_8, li_9, li_10, li_12, li_16, li_20, li_21, li_22, li_32, li_33, li_44, li_45, li_48, li_57, li_59, li_60, li_63, li_74, li_75, li_99, li_100, li_109, li_111, li_114, li_126, li_200, li_340, li_580, li_1740, li_65537, li_1000000, ll_0, ll_1, ll_100, c1, Option.bind_some, sI_eq, if_pos, if_neg]
      exact key 99 (by omega) (fun h => by omega) (fun h => by omega) (fun _ => rfl)
  · refine ⟨-1000001, sf, ?_, Or.inl ⟨inv_neg, ?_⟩⟩ <;> simp (disch := omega) only [if_true, if_false, am_in_n, am_nz_n, am_nzl_n, sI_add, sI_mul, sI_cl, sI_le, sI_lt, sI_eq, sI_l, lN_add, lN_mul, lN_i, sg_gt, sg_le, sg_eq, sg_ge, sI_rem, sI_div, sI_rem2, sL_rem, sL_div, sL_rem2, sI_sub, sI_m1, sI_m1n, sI_or, if_pos, if_neg, Option.bind_some, am_call2_e, am_call3_e, am_call4_e, am_call5_e, am_call6_e, am_call7_e, am_call8_e, am_call9_e, am_call10_e, am_call11_e, am_call12_e, am_call13_e, am_call14_e, li_0, li_1, li_2, li_3, li_4, li_5, li_6, li_7, li_8, li_9, li_10, li_12, li_16, li_20, li_21, li_22, li_32, li_33, li_44, li_45, li_48, li_57, li_59, li_60, li_63, li_74, li_75, li_99, li_100, li_109, li_111, li_114, li_126, li_200, li_340, li_580, li_1740, li_65537, li_1000000, ll_0, ll_1, ll_100, c1]
end Begin
