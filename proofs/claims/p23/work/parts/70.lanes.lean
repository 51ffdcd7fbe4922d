-- four places of sixteen bits in a long; the law's cells of places and parents
def bl (x : Int64) (i : Nat) : Bool := x.toBitVec.getLsbD i
theorem bl_ext {x y : Int64} (h : ∀ i, i < 64 → bl x i = bl y i) : x = y := Int64.toBitVec_inj.mp (BitVec.eq_of_getLsbD_eq (fun i hi => h i hi))
theorem bl_or (x y : Int64) (i : Nat) : bl (x ||| y) i = (bl x i || bl y i) := by unfold bl; rw [Int64.toBitVec_or, BitVec.getLsbD_or]
theorem bl_and (x y : Int64) (i : Nat) : bl (x &&& y) i = (bl x i && bl y i) := by unfold bl; rw [Int64.toBitVec_and, BitVec.getLsbD_and]
theorem bl_xor (x y : Int64) (i : Nat) : bl (x ^^^ y) i = (bl x i ^^ bl y i) := by unfold bl; rw [Int64.toBitVec_xor, BitVec.getLsbD_xor]
theorem bl_big {x : Int64} {i : Nat} (h : 64 ≤ i) : bl x i = false := BitVec.getLsbD_of_ge _ _ h
theorem bl_65535 (i : Nat) : bl 65535 i = decide (i < 16) := by
  rcases Nat.lt_or_ge i 64 with h | h
  · exact (by decide +kernel : ∀ i, i < 64 → bl 65535 i = decide (i < 16)) i h
  · rw [bl_big h, decide_eq_false (by omega)]
theorem bl_m1 : ∀ i, i < 64 → bl (-1) i = true := by decide +kernel
theorem bl_sa : ∀ n, n < 64 → (((nI n).toInt64 &&& 63).toBitVec.smod 64).toNat = n := by decide +kernel
theorem bl_shl (n : Nat) (hn : n < 64) (x : Int64) {i : Nat} (hi : i < 64) : bl (x <<< ((nI n).toInt64 &&& 63)) i = (decide (n ≤ i) && bl x (i - n)) := by
  unfold bl
  rw [Int64.toBitVec_shiftLeft]
  show (x.toBitVec <<< (((nI n).toInt64 &&& 63).toBitVec.smod 64).toNat).getLsbD i = _
  rw [bl_sa n hn, BitVec.getLsbD_shiftLeft]
  rcases Nat.lt_or_ge i n with h | h
  · simp [h, Nat.not_le.mpr h]
  · simp [hi, h, Nat.not_lt.mpr h]
theorem bl_shr (n : Nat) (hn : n < 64) (x : Int64) {i : Nat} (hi : i < 64) : bl (x >>> ((nI n).toInt64 &&& 63)) i = if n + i < 64 then bl x (n + i) else bl x 63 := by
  unfold bl
  rw [Int64.toBitVec_shiftRight]
  show (x.toBitVec.sshiftRight (((nI n).toInt64 &&& 63).toBitVec.smod 64).toNat).getLsbD i = _
  rw [bl_sa n hn, BitVec.getLsbD_sshiftRight, BitVec.msb_eq_getLsbD_last]
  simp [hi]
theorem bl_lN {v i : Nat} (hv : v < 65536) (hi : 16 ≤ i) : bl (lN v) i = false := by
  show (BitVec.ofNat 64 v).getLsbD i = false
  have h : v.testBit i = false := Nat.testBit_lt_two_pow (Nat.lt_of_lt_of_le hv (Nat.pow_le_pow_right (n := 2) (by omega) hi))
  rw [BitVec.getLsbD_ofNat, h, Bool.and_false]
def laneL (x : Int64) (r : Nat) : Int64 := (x >>> ((nI (16 * r)).toInt64 &&& 63)) &&& 65535
def putL (x : Int64) (r : Nat) (V : Int64) : Int64 := (x &&& ((65535 <<< ((nI (16 * r)).toInt64 &&& 63)) ^^^ (-1))) ||| (V <<< ((nI (16 * r)).toInt64 &&& 63))
theorem lane_b (x : Int64) {r i : Nat} (hr : r < 4) (hi : i < 64) : bl (laneL x r) i = (decide (i < 16) && bl x (16 * r + i)) := by
  unfold laneL
  rw [bl_and, bl_shr _ (by omega) _ hi, bl_65535]
  by_cases h : i < 16
  · rw [if_pos (by omega), decide_eq_true h, Bool.and_true, Bool.true_and]
  · rw [decide_eq_false h, Bool.and_false, Bool.false_and]
theorem lane_put {x : Int64} {r r2 v : Nat} (hr : r < 4) (hr2 : r2 < 4) (hv : v < 65536) : laneL (putL x r (lN v)) r2 = if r2 = r then lN v else laneL x r2 := by
  apply bl_ext
  intro i hi
  rw [lane_b _ hr2 hi]
  by_cases h16 : i < 16
  · have hj : 16 * r2 + i < 64 := by omega
    have e0 : bl (putL x r (lN v)) (16 * r2 + i) = ((bl x (16 * r2 + i) && ((decide (16 * r ≤ 16 * r2 + i) && decide (16 * r2 + i - 16 * r < 16)) ^^ true)) || (decide (16 * r ≤ 16 * r2 + i) && bl (lN v) (16 * r2 + i - 16 * r))) := by
      unfold putL
      rw [bl_or, bl_and, bl_xor, bl_shl _ (by omega) _ hj, bl_shl _ (by omega) _ hj, bl_m1 _ hj, bl_65535]
    rw [e0, decide_eq_true h16, Bool.true_and]
    by_cases e : r2 = r
    · subst e
      rw [if_pos rfl, Nat.add_sub_cancel_left, decide_eq_true h16, decide_eq_true (Nat.le_add_right _ _)]
      simp
    · rw [if_neg e, lane_b _ hr2 hi, decide_eq_true h16, Bool.true_and]
      by_cases hl : 16 * r ≤ 16 * r2 + i
      · rw [bl_lN hv (by omega), decide_eq_true hl, decide_eq_false (show ¬ (16 * r2 + i - 16 * r < 16) by omega)]
        simp
      · rw [decide_eq_false hl]
        simp
  · rw [decide_eq_false h16, Bool.false_and]
    by_cases e : r2 = r
    · rw [if_pos e, bl_lN hv (by omega)]
    · rw [if_neg e, lane_b _ hr2 hi, decide_eq_false h16, Bool.false_and]
def cAt (c : Nat → Int64) (g k : Nat) : Int64 := laneL (c (3 * g + k / 4)) (k % 4)
def putC (c : Nat → Int64) (g k x : Nat) : Nat → Int64 := vp_updL c (3 * g + k / 4) (putL (c (3 * g + k / 4)) (k % 4) (lN x))
theorem cAt_put {c : Nat → Int64} {g k g2 k2 x : Nat} (hk : k < 12) (hk2 : k2 < 12) (hx : x < 65536) : cAt (putC c g k x) g2 k2 = if g2 = g ∧ k2 = k then lN x else cAt c g2 k2 := by
  unfold cAt putC
  by_cases h : 3 * g2 + k2 / 4 = 3 * g + k / 4
  · rw [h, updL_s, lane_put (by omega) (by omega) hx]
    by_cases h2 : k2 % 4 = k % 4
    · rw [if_pos h2, if_pos (by omega)]
    · rw [if_neg h2, if_neg (by omega)]
  · rw [updL_n h, if_neg (by omega)]
theorem l_of {c : Nat → Int64} {g k v : Nat} (hg : g < 20) (hk : k < 12) (h : cAt c g k = lN v) (hv : v < 65536) : F_L_of c (nI g) (nI k) = some (nI v) := by
  unfold F_L_of
  simp (disch := omega) only [li_3, li_4, li_16, sI_mul, sI_div, sI_rem2, sI_add, am_in_n, sI_cl]
  show some (cAt c g k).toInt32 = _
  rw [h, lN_i]
theorem l_put {c : Nat → Int64} {g k v q : Nat} (hg : g < 20) (hk : k < 12) (hv : v + 256 * q < 65536) : F_L_put c (nI g) (nI k) (nI v) (nI q) = some (putC c g k (v + 256 * q)) := by
  unfold F_L_put
  rw [am_let_e]
  simp (disch := omega) only [li_3, li_4, li_16, li_256, sI_mul, sI_div, sI_rem2, sI_add, am_in_n, sI_cl, am_let_e, sI_l]
  unfold putC putL
  rw [sI_l (show 16 * (k % 4) < 2147483648 by omega)]
theorem l_place {g : Nat → Int32} {c : Nat → Int64} {G k p q : Nat} (h1 : g 1 = nI G) (hG0 : 1 ≤ G) (hG : G ≤ 20) (hk : k < 12) (hp : p ≤ 99) (hq : q ≤ 15) (h : cAt c (G - 1) k = lN (p + 256 * q)) : F_L_place g c (nI k) = some (nI p) := by
  unfold F_L_place
  have e1 : (1 : Int32).toNatClampNeg = 1 := by decide
  rw [e1, h1, li_1, sI_sub hG0, l_of (v := p + 256 * q) (by omega) hk h (by omega), Option.bind_some, li_256]
  simp (disch := omega) only [sI_div, sI_mul, sI_rem2]
  rw [show (p + 256 * q) % 256 = p by omega]
-- what the law's cells hold
def CRel (N G : Nat) (c : Nat → Int64) (pl pa : Nat → Nat → Nat) : Prop := ∀ g k, g < G → k < N → cAt c g k = lN (pl g k + 256 * (if g = 0 then 15 else pa g k))
