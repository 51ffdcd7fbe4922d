-- the model's shares
-- both sides, all schemes
def chW (sch off N : Nat) (w : Nat → Nat) (z k : Nat) : Nat := if sch = 0 then faR w N (k * sumN w N + off * sumN w N / 100) N else if sch = 1 then faR w N (k * sumN w N + nzk z (k + 1) % sumN w N) N else faR (tmN w N) 1 k N
def nzW (sch N z : Nat) : Nat := if sch = 1 then nzk z N else z
theorem chW_lt {sch off N z k : Nat} {w : Nat → Nat} (hoff : off ≤ 99) (hS : 0 < sumN w N) (hk : k < N) : chW sch off N w z k < N := by
  unfold chW
  split
  · exact (faR_s N (pt_lt hk (off_lt hoff hS))).1
  · split
    · exact (faR_s N (pt_lt hk (Nat.mod_lt _ hS))).1
    · exact (faR_s N (by rw [tm_sum hS]; omega)).1
theorem nzW_lt {sch N z : Nat} (hz : z < 65537) : nzW sch N z < 65537 := by
  unfold nzW
  split
  · exact nzk_lt hz N
  · exact hz
theorem fchooseC {f : Nat → Int32} {N off sch z : Nat} {w : Nat → Nat} (n0 : Int32) (anc : Nat → Int32) (rst : Nat → Int64) (hN : N ≤ 12) (hoff : off ≤ 99) (hsch : sch ≤ 2) (hz : z < 65537) (hw : ∀ k, k < N → f k = nI (w k)) (hb : ∀ k, k < N → w k ≤ 1000000) (hS : 0 < sumN w N) : ∃ a' r', (∀ k, k < N → a' k = nI (chW sch off N w z k)) ∧ F_X0_choose n0 anc rst (nI N) f (nI sch) (nI off) (nI z) = some (nI (nzW sch N z), a', r') := by
  unfold F_X0_choose chW nzW
  have h3 : sch = 0 ∨ sch = 1 ∨ sch = 2 := by omega
  rcases h3 with rfl | rfl | rfl
  · obtain ⟨a', h1, h2⟩ := foffsetC anc hN hoff hw hb hS
    exact ⟨a', rst, h1, by simp (disch := omega) only [if_true, if_false, am_in_n, am_nz_n, am_nzl_n, sI_add, sI_mul, sI_cl, sI_le, sI_lt, sI_eq, sI_l, lN_add, lN_mul, lN_i, sg_gt, sg_le, sg_eq, sg_ge, sI_rem, sI_div, sI_rem2, sL_rem, sL_div, sL_rem2, sI_sub, sI_m1, sI_m1n, sI_or, if_pos, if_neg, Option.bind_some, am_call2_e, am_call3_e, am_call4_e, am_call5_e, am_call6_e, am_call7_e, am_call8_e, am_call9_e, am_call10_e, am_call11_e, am_call12_e, am_call13_e, am_call14_e, li_0, li_1, li_2, li_3, li_4, li_5, li_6, li_7, li_8, li_9, li_10, li_11, li_12, li_13, li_14, li_15, li_16, li_19, li_20, li_21, li_22, li_23, li_32, li_36, li_48, li_50, li_60, li_63, li_74, li_75, li_98, li_99, li_100, li_199, li_200, li_256, li_7919, li_65537, li_1000000, li_1000001, li_10000000, ll_0, ll_1, ll_100, ll_65535, h2]⟩
  · obtain ⟨a', h1, h2⟩ := fnoisesC anc hN hz hw hb hS
    exact ⟨a', rst, h1, by simp (disch := omega) only [if_true, if_false, am_in_n, am_nz_n, am_nzl_n, sI_add, sI_mul, sI_cl, sI_le, sI_lt, sI_eq, sI_l, lN_add, lN_mul, lN_i, sg_gt, sg_le, sg_eq, sg_ge, sI_rem, sI_div, sI_rem2, sL_rem, sL_div, sL_rem2, sI_sub, sI_m1, sI_m1n, sI_or, if_pos, if_neg, Option.bind_some, am_call2_e, am_call3_e, am_call4_e, am_call5_e, am_call6_e, am_call7_e, am_call8_e, am_call9_e, am_call10_e, am_call11_e, am_call12_e, am_call13_e, am_call14_e, li_0, li_1, li_2, li_3, li_4, li_5, li_6, li_7, li_8, li_9, li_10, li_11, li_12, li_13, li_14, li_15, li_16, li_19, li_20, li_21, li_22, li_23, li_32, li_36, li_48, li_50, li_60, li_63, li_74, li_75, li_98, li_99, li_100, li_199, li_200, li_256, li_7919, li_65537, li_1000000, li_1000001, li_10000000, ll_0, ll_1, ll_100, ll_65535, h2]⟩
  · obtain ⟨a', r', h1, h2⟩ := fsharesC anc rst hN hw hb hS
    exact ⟨a', r', h1, by simp (disch := omega) only [if_true, if_false, am_in_n, am_nz_n, am_nzl_n, sI_add, sI_mul, sI_cl, sI_le, sI_lt, sI_eq, sI_l, lN_add, lN_mul, lN_i, sg_gt, sg_le, sg_eq, sg_ge, sI_rem, sI_div, sI_rem2, sL_rem, sL_div, sL_rem2, sI_sub, sI_m1, sI_m1n, sI_or, if_pos, if_neg, Option.bind_some, am_call2_e, am_call3_e, am_call4_e, am_call5_e, am_call6_e, am_call7_e, am_call8_e, am_call9_e, am_call10_e, am_call11_e, am_call12_e, am_call13_e, am_call14_e, li_0, li_1, li_2, li_3, li_4, li_5, li_6, li_7, li_8, li_9, li_10, li_11, li_12, li_13, li_14, li_15, li_16, li_19, li_20, li_21, li_22, li_23, li_32, li_36, li_48, li_50, li_60, li_63, li_74, li_75, li_98, li_99, li_100, li_199, li_200, li_256, li_7919, li_65537, li_1000000, li_1000001, li_10000000, ll_0, ll_1, ll_100, ll_65535, h2]⟩
