-- observe, on both sides
section Obs
variable {N G z th sc of : Nat} {w : Nat → Nat} {pl pa : Nat → Nat → Nat} {s : Nat → Int32} {noi obs res lmany lgens : Int32} {lplf lpaf logf ldrf lspf lscf : Nat → Int32} {wmany : Int32} {wf sf : Nat → Int32}
theorem frenew20 (cnoi : Int32) (canc : Nat → Int32) (crst : Nat → Int64) : F_X4_renew noi res lmany (nI 20) lplf lpaf logf lscf wmany wf sf cnoi canc crst = some (-1000003, noi, res, nI 20, lplf, lpaf, logf, lscf, wmany, wf, cnoi, canc, crst) := by
  unfold F_X4_renew F_X1_generations
  simp (disch := omega) only [li_0, li_1, li_2, li_3, li_4, li_5, li_6, li_7, li_8, li_9, li_10, li_11, li_12, li_13, li_14, li_15, li_16, li_19, li_20, li_21, li_22, li_23, li_32, li_36, li_48, li_50, li_60, li_63, li_74, li_75, li_98, li_99, li_100, li_199, li_200, li_256, li_7919, li_65537, li_1000000, li_1000001, li_10000000, ll_0, ll_1, ll_100, ll_65535, Option.bind_some, sI_lt, Nat.lt_irrefl, if_false]
theorem nI10 : ¬ nI 1 = (0 : Int32) := by decide
theorem nI00 : nI 0 = (0 : Int32) := id rfl
end Obs

