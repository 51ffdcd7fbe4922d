-- copies, settings, a new beginning
theorem inv_neg : ¬ (0 : Int32) ≤ -1000001 := by decide
theorem np_neg : ¬ (0 : Int32) ≤ -1000002 := by decide
theorem lim_neg : ¬ (0 : Int32) ≤ -1000003 := by decide
theorem nI_nn {n : Nat} (h : n < 2147483648) : (0 : Int32) ≤ nI n := nI_pos' h
section Begin
variable {N G z th sc of : Nat} {w : Nat → Nat} {pl pa : Nat → Nat → Nat} {s : Nat → Int32} {noi obs res lmany lgens : Int32} {lplf lpaf logf ldrf lspf lscf : Nat → Int32} {wmany : Int32} {wf sf : Nat → Int32}
theorem fcopyState (hG : Good N G z th sc of w pl pa s) (hR : Rel N G noi obs res lmany lgens lplf lpaf logf ldrf lspf lscf wmany wf sf s) (dn do_ dr dm dg : Int32) (d1 d2 d3 d4 d5 d6 : Nat → Int32) (dw : Int32) (d7 d8 : Nat → Int32) : ∃ f1 f2 f3 f4 f5 f6 f7 f8, Rel N G noi obs res lmany lgens f1 f2 f3 f4 f5 f6 wmany f7 f8 s ∧ F_X4_copyState dn do_ dr dm dg d1 d2 d3 d4 d5 d6 dw d7 d8 noi obs res lmany lgens lplf lpaf logf ldrf lspf lscf wmany wf sf = some (noi, obs, res, lmany, lgens, f1, f2, f3, f4, f5, f6, wmany, f7, f8) := by
  obtain ⟨⟨n0, n1, g0, g1, hz, hth, hsc, hof⟩, -, -, -, -⟩ := hG
  obtain ⟨⟨r0, r1, r2, r3, r4, r4', r5, r6, r7⟩, rw_, rg, rpl, rpa⟩ := hR
  obtain ⟨f1, a1, b1⟩ := fcopyRow 240 (by omega) d1 lplf
  obtain ⟨f2, a2, b2⟩ := fcopyRow 240 (by omega) d2 lpaf
  obtain ⟨f3, a3, b3⟩ := fcopyRow 20 (by omega) d3 logf
  obtain ⟨f4, a4, b4⟩ := fcopyRow 20 (by omega) d4 ldrf
  obtain ⟨f5, a5, b5⟩ := fcopyRow 20 (by omega) d5 lspf
  obtain ⟨f6, a6, b6⟩ := fcopyRow 20 (by omega) d6 lscf
  obtain ⟨f7, a7, b7⟩ := fcopyW dw wmany d7 wf
  obtain ⟨f8, a8, b8⟩ := fcopyRow 3 (by omega) d8 sf
  refine ⟨f1, f2, f3, f4, f5, f6, f7, f8, ⟨⟨r0, r1, r2, r3, r4, r4', (a8 0 (by omega)).trans r5, (a8 1 (by omega)).trans r6, (a8 2 (by omega)).trans r7⟩, fun k hk => (a7 k (by omega)).trans (rw_ k hk), fun g hg => ?_, fun g k hg hk => (a1 _ (by omega)).trans (rpl g k hg hk), fun g k h0 hg hk => (a2 _ (by omega)).trans (rpa g k h0 hg hk)⟩, ?_⟩
  · obtain ⟨o1, o2, o3⟩ := rg g hg
    rw [a3 g (by omega), a4 g (by omega), a5 g (by omega), a6 g (by omega)]
    exact ⟨o1, o2, o3⟩
  · unfold F_X4_copyState F_X1_copyLineage
    simp only [b1, b2, b3, b4, b5, b6, b7, b8, Option.bind_some, am_call8_e, am_call2_e]
end Begin

