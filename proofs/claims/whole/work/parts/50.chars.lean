-- the text: what stands at a place, digits, numbers
def hrN (L : Nat) (c : Nat → Nat) (p : Nat) : Nat := if p < L then c p else 0
def dgB (L : Nat) (c : Nat → Nat) (p : Nat) : Bool := decide (48 ≤ hrN L c p ∧ hrN L c p ≤ 57)
def nvN (L : Nat) (c : Nat → Nat) (p : Nat) : Nat := if dgB L c p = true then (if dgB L c (p + 1) = true then (hrN L c p - 48) * 10 + hrN L c (p + 1) - 48 else hrN L c p - 48) else 0
def npN (L : Nat) (c : Nat → Nat) (p : Nat) : Nat := if dgB L c p = true then (if dgB L c (p + 1) = true then p + 1 + 1 else p + 1) else p
def Txt (L : Nat) (c : Nat → Nat) (ch text : Nat → Int32) : Prop := L ≤ 60 ∧ (∀ i, i < L → 32 ≤ c i ∧ c i ≤ 126) ∧ (∀ i, i < L → ch i = nI (c i)) ∧ ∀ i, i < L → text i = nI (c i)
theorem wI {x a b : Nat} (hx : x < 1000) (ha : a < 1000) (hb : b < 1000) : F_X6_isWithin (nI x) (nI a) (nI b) = some (if a ≤ x ∧ x ≤ b then nI 1 else nI 0) := by
  unfold F_X6_isWithin
  by_cases h1 : a ≤ x
  · by_cases h2 : x ≤ b
    · rw [if_pos (show a ≤ x ∧ x ≤ b from ⟨h1, h2⟩)]
      have n1 : ¬ x < a := by omega
      have n2 : ¬ b < x := by omega
      simp (disch := omega) only [li_0, li_1, li_2, li_3, li_4, li_5, li_6, li_7, li_8, li_9, li_10, li_12, li_16, li_20, li_21, li_22, li_32, li_33, li_44, li_45, li_48, li_57, li_59, li_60, li_63, li_74, li_75, li_99, li_100, li_109, li_111, li_114, li_126, li_200, li_340, li_580, li_1740, li_65537, li_1000000, ll_0, ll_1, ll_100, sI_lt, n1, n2, if_false]
    · rw [if_neg (show ¬ (a ≤ x ∧ x ≤ b) from fun h => h2 h.2)]
      have n1 : ¬ x < a := by omega
      have n2 : b < x := by omega
      simp (disch := omega) only [li_0, li_1, li_2, li_3, li_4, li_5, li_6, li_7, li_8, li_9, li_10, li_12, li_16, li_20, li_21, li_22, li_32, li_33, li_44, li_45, li_48, li_57, li_59, li_60, li_63, li_74, li_75, li_99, li_100, li_109, li_111, li_114, li_126, li_200, li_340, li_580, li_1740, li_65537, li_1000000, ll_0, ll_1, ll_100, sI_lt, n1, n2, if_false, if_true]
  · rw [if_neg (show ¬ (a ≤ x ∧ x ≤ b) from fun h => h1 h.1)]
    have n1 : x < a := by omega
    simp (disch := omega) only [li_0, li_1, li_2, li_3, li_4, li_5, li_6, li_7, li_8, li_9, li_10, li_12, li_16, li_20, li_21, li_22, li_32, li_33, li_44, li_45, li_48, li_57, li_59, li_60, li_63, li_74, li_75, li_99, li_100, li_109, li_111, li_114, li_126, li_200, li_340, li_580, li_1740, li_65537, li_1000000, ll_0, ll_1, ll_100, sI_lt, n1, if_true]
section Chars
variable {L : Nat} {c : Nat → Nat} {ch text : Nat → Int32}
theorem hr_le (hT : Txt L c ch text) (p : Nat) : hrN L c p ≤ 126 := by
  unfold hrN
  split
  · exact (hT.2.1 p (by assumption)).2
  · omega
theorem hr_in {p : Nat} (h : 0 < hrN L c p) : p < L := by
  unfold hrN at h
  split at h
  · assumption
  · omega
theorem dg_in {p : Nat} (h : dgB L c p = true) : p < L ∧ 48 ≤ hrN L c p ∧ hrN L c p ≤ 57 := by
  have h1 : 48 ≤ hrN L c p ∧ hrN L c p ≤ 57 := of_decide_eq_true h
  exact ⟨hr_in (L := L) (c := c) (p := p) (by omega), h1⟩
theorem np_le {p : Nat} : p ≤ npN L c p ∧ npN L c p ≤ p + 2 := by
  unfold npN
  split
  · split <;> omega
  · omega
theorem hereC (hT : Txt L c ch text) {p : Nat} (hp : p < 1000) : F_X3_here (nI L) (nI p) ch = some (nI (hrN L c p)) := by
  obtain ⟨hL, hc, hch, htx⟩ := hT
  unfold F_X3_here hrN
  by_cases h : p < L
  · have n1 : ¬ L ≤ p := by omega
    have n2 : p < 60 := by omega
    simp (disch := omega) only [li_0, li_1, li_2, li_3, li_4, li_5, li_6, li_7, li_8, li_9, li_10, li_12, li_16, li_20, li_21, li_22, li_32, li_33, li_44, li_45, li_48, li_57, li_59, li_60, li_63, li_74, li_75, li_99, li_100, li_109, li_111, li_114, li_126, li_200, li_340, li_580, li_1740, li_65537, li_1000000, ll_0, ll_1, ll_100, sI_lt, sI_le, Nat.not_lt_zero, if_false, n1, n2, if_true, am_in_n, sI_cl, hch p h, h]
  · have n1 : L ≤ p := by omega
    simp (disch := omega) only [li_0, li_1, li_2, li_3, li_4, li_5, li_6, li_7, li_8, li_9, li_10, li_12, li_16, li_20, li_21, li_22, li_32, li_33, li_44, li_45, li_48, li_57, li_59, li_60, li_63, li_74, li_75, li_99, li_100, li_109, li_111, li_114, li_126, li_200, li_340, li_580, li_1740, li_65537, li_1000000, ll_0, ll_1, ll_100, sI_lt, sI_le, Nat.not_lt_zero, if_false, n1, h, if_true]
theorem digC (hT : Txt L c ch text) {p : Nat} (hp : p < 1000) : F_X3_isDigitHere (nI L) (nI p) ch = some (if dgB L c p = true then nI 1 else nI 0) := by
  have hh := hr_le hT p
  unfold F_X3_isDigitHere
  rw [hereC hT hp]
  simp (disch := omega) only [li_0, li_1, li_2, li_3, li_4, li_5, li_6, li_7, li_8, li_9, li_10, li_12, li_16, li_20, li_21, li_22, li_32, li_33, li_44, li_45, li_48, li_57, li_59, li_60, li_63, li_74, li_75, li_99, li_100, li_109, li_111, li_114, li_126, li_200, li_340, li_580, li_1740, li_65537, li_1000000, ll_0, ll_1, ll_100, Option.bind_some, wI]
  unfold dgB
  by_cases h : 48 ≤ hrN L c p ∧ hrN L c p ≤ 57
  · rw [if_pos h, decide_eq_true h, if_pos rfl]
    rfl
  · rw [if_neg h, decide_eq_false h, if_neg Bool.false_ne_true]
    rfl
theorem passC (hT : Txt L c ch text) {p x : Nat} (hp : p < 1000) (hx : x < 1000) : F_X3_pass (nI L) (nI p) ch (nI x) = some (if hrN L c p = x then nI 1 else nI 0, if hrN L c p = x then nI (p + 1) else nI p) := by
  have hh := hr_le hT p
  unfold F_X3_pass
  rw [hereC hT hp]
  simp only [am_let]
  simp (disch := omega) only [li_0, li_1, li_2, li_3, li_4, li_5, li_6, li_7, li_8, li_9, li_10, li_12, li_16, li_20, li_21, li_22, li_32, li_33, li_44, li_45, li_48, li_57, li_59, li_60, li_63, li_74, li_75, li_99, li_100, li_109, li_111, li_114, li_126, li_200, li_340, li_580, li_1740, li_65537, li_1000000, ll_0, ll_1, ll_100, Option.bind_some, sI_eq, sI_add]
  by_cases h : hrN L c p = x
  · rw [if_pos h, if_pos h, if_pos h]
  · rw [if_neg h, if_neg h, if_neg h]
theorem isAtM (hT : Txt L c ch text) {p a b : Nat} (hp : p < 1000) (ha0 : 0 < a) (ha : a < 1000) (hb : b < 1000) : F_X7_isAt (nI L) (nI p) text (nI a) (nI b) = some (if a ≤ hrN L c p ∧ hrN L c p ≤ b then nI 1 else nI 0) := by
  have hT' := hT
  obtain ⟨hL, hc, hch, htx⟩ := hT
  unfold F_X7_isAt
  rw [inEq]
  by_cases h : p < L
  · have n1 : ¬ L ≤ p := by omega
    have hcp := hc p h
    have e : hrN L c p = c p := by unfold hrN; rw [if_pos h]
    simp (disch := omega) only [li_0, li_1, li_2, li_3, li_4, li_5, li_6, li_7, li_8, li_9, li_10, li_12, li_16, li_20, li_21, li_22, li_32, li_33, li_44, li_45, li_48, li_57, li_59, li_60, li_63, li_74, li_75, li_99, li_100, li_109, li_111, li_114, li_126, li_200, li_340, li_580, li_1740, li_65537, li_1000000, ll_0, ll_1, ll_100, sI_le, n1, if_false, am_in_n, sI_cl, htx p h, wI, Option.bind_some, e]
    by_cases h2 : a ≤ c p ∧ c p ≤ b
    · rw [if_pos h2, if_neg (by decide)]
    · rw [if_neg h2, if_pos rfl]
  · have n1 : L ≤ p := by omega
    have e : hrN L c p = 0 := by unfold hrN; rw [if_neg h]
    have n2 : ¬ (a ≤ 0 ∧ 0 ≤ b) := by omega
    simp (disch := omega) only [li_0, li_1, li_2, li_3, li_4, li_5, li_6, li_7, li_8, li_9, li_10, li_12, li_16, li_20, li_21, li_22, li_32, li_33, li_44, li_45, li_48, li_57, li_59, li_60, li_63, li_74, li_75, li_99, li_100, li_109, li_111, li_114, li_126, li_200, li_340, li_580, li_1740, li_65537, li_1000000, ll_0, ll_1, ll_100, sI_le, n1, if_true, e, n2, if_false]
theorem digM (hT : Txt L c ch text) {p : Nat} (hp : p < 1000) : F_X7_isAt (nI L) (nI p) text (nI 48) (nI 57) = some (if dgB L c p = true then nI 1 else nI 0) := by
  rw [isAtM hT hp (by omega) (by omega) (by omega)]
  unfold dgB
  by_cases h : 48 ≤ hrN L c p ∧ hrN L c p ≤ 57
  · rw [if_pos h, decide_eq_true h, if_pos rfl]
  · rw [if_neg h, decide_eq_false h, if_neg Bool.false_ne_true]
theorem passM (hT : Txt L c ch text) {p x : Nat} (hp : p < 1000) (hx0 : 0 < x) (hx : x < 1000) : F_X7_passes (nI L) (nI p) text (nI x) = some (if hrN L c p = x then nI 1 else nI 0, if hrN L c p = x then nI (p + 1) else nI p) := by
  have n10 : ¬ nI 1 = nI 0 := by decide
  unfold F_X7_passes
  rw [isAtM hT hp hx0 hx hx]
  simp only [am_let]
  by_cases h : hrN L c p = x
  · have h2 : x ≤ hrN L c p ∧ hrN L c p ≤ x := by omega
    simp (disch := omega) only [li_0, li_1, li_2, li_3, li_4, li_5, li_6, li_7, li_8, li_9, li_10, li_12, li_16, li_20, li_21, li_22, li_32, li_33, li_44, li_45, li_48, li_57, li_59, li_60, li_63, li_74, li_75, li_99, li_100, li_109, li_111, li_114, li_126, li_200, li_340, li_580, li_1740, li_65537, li_1000000, ll_0, ll_1, ll_100, Option.bind_some, if_pos h2, if_pos h, n10, if_false, sI_add, am_bool1]
  · have h2 : ¬ (x ≤ hrN L c p ∧ hrN L c p ≤ x) := by omega
    simp (disch := omega) only [li_0, li_1, li_2, li_3, li_4, li_5, li_6, li_7, li_8, li_9, li_10, li_12, li_16, li_20, li_21, li_22, li_32, li_33, li_44, li_45, li_48, li_57, li_59, li_60, li_63, li_74, li_75, li_99, li_100, li_109, li_111, li_114, li_126, li_200, li_340, li_580, li_1740, li_65537, li_1000000, ll_0, ll_1, ll_100, Option.bind_some, if_neg h2, if_neg h, if_true, sI_add, am_bool0, Nat.add_zero]
theorem numC (hT : Txt L c ch text) {p : Nat} (hp : p < 900) : F_X3_readNumber (nI L) (nI p) ch = some (nI (nvN L c p), nI (npN L c p)) := by
  unfold F_X3_readNumber
  simp only [am_let]
  obtain ⟨k, hk⟩ : ∃ k, am_fuel = k + 1 + 1 + 1 := ⟨999997, fuelE⟩
  rw [hk]
  have one : ∀ (n x j q : Nat), x < 1000 → j < 10 → q < 1000 → am_loop3 (F_X3_readNumber_B4 (fun x1 u2 => some (x1, u2)) (nI L) ch) (n + 1) (nI x) (nI j) (nI q) = if 2 ≤ j then some (nI x, nI q) else if dgB L c q = true then am_loop3 (F_X3_readNumber_B4 (fun x1 u2 => some (x1, u2)) (nI L) ch) n (nI (x * 10 + hrN L c q - 48)) (nI (j + 1)) (nI (q + 1)) else some (nI x, nI q) := by
    intro n x j q hx hj hq
    show F_X3_readNumber_B4 _ _ _ (am_loop3 (F_X3_readNumber_B4 (fun x1 u2 => some (x1, u2)) (nI L) ch) n) (nI x) (nI j) (nI q) = _
    generalize am_loop3 (F_X3_readNumber_B4 (fun x1 u2 => some (x1, u2)) (nI L) ch) n = rec
    unfold F_X3_readNumber_B4
    simp only [am_let]
    by_cases h : 2 ≤ j
    · simp (disch := omega) only [li_0, li_1, li_2, li_3, li_4, li_5, li_6, li_7, li_8, li_9, li_10, li_12, li_16, li_20, li_21, li_22, li_32, li_33, li_44, li_45, li_48, li_57, li_59, li_60, li_63, li_74, li_75, li_99, li_100, li_109, li_111, li_114, li_126, li_200, li_340, li_580, li_1740, li_65537, li_1000000, ll_0, ll_1, ll_100, sI_le, h, if_true]
    · by_cases h2 : dgB L c q = true
      · have h3 := dg_in h2
        have n1 : ¬ nI 1 = nI 0 := by decide
        simp (disch := omega) only [li_0, li_1, li_2, li_3, li_4, li_5, li_6, li_7, li_8, li_9, li_10, li_12, li_16, li_20, li_21, li_22, li_32, li_33, li_44, li_45, li_48, li_57, li_59, li_60, li_63, li_74, li_75, li_99, li_100, li_109, li_111, li_114, li_126, li_200, li_340, li_580, li_1740, li_65537, li_1000000, ll_0, ll_1, ll_100, sI_le, h, if_false, digC hT hq, h2, if_true, Option.bind_some, n1, hereC hT hq, sI_mul, sI_add, sI_sub]
      · simp (disch := omega) only [li_0, li_1, li_2, li_3, li_4, li_5, li_6, li_7, li_8, li_9, li_10, li_12, li_16, li_20, li_21, li_22, li_32, li_33, li_44, li_45, li_48, li_57, li_59, li_60, li_63, li_74, li_75, li_99, li_100, li_109, li_111, li_114, li_126, li_200, li_340, li_580, li_1740, li_65537, li_1000000, ll_0, ll_1, ll_100, sI_le, h, if_false, digC hT hq, h2, if_true, Option.bind_some, Bool.false_eq_true]
  simp only [li_0, li_1, li_2, li_3, li_4, li_5, li_6, li_7, li_8, li_9, li_10, li_12, li_16, li_20, li_21, li_22, li_32, li_33, li_44, li_45, li_48, li_57, li_59, li_60, li_63, li_74, li_75, li_99, li_100, li_109, li_111, li_114, li_126, li_200, li_340, li_580, li_1740, li_65537, li_1000000, ll_0, ll_1, ll_100]
  rw [one (k + 1 + 1) 0 0 p (by omega) (by omega) (by omega), if_neg (show ¬ 2 ≤ 0 by omega)]
  unfold nvN npN
  by_cases h1 : dgB L c p = true
  · have h1' := dg_in h1
    have e1 : 0 * 10 + hrN L c p - 48 = hrN L c p - 48 := by omega
    rw [one (k + 1) _ _ (p + 1) (by omega) (by omega) (by omega), if_neg (show ¬ 2 ≤ 0 + 1 by omega), e1]
    by_cases h2 : dgB L c (p + 1) = true
    · have h2' := dg_in h2
      rw [one k _ _ (p + 1 + 1) (by omega) (by omega) (by omega), if_pos (show 2 ≤ 0 + 1 + 1 by omega)]
      simp only [if_pos h1, if_pos h2]
    · simp only [if_pos h1, if_neg h2]
  · simp only [if_neg h1]
theorem numM (hT : Txt L c ch text) {p q : Nat} (hp : p < 900) (hq : q < 2) (told : Nat → Int32) : ∃ t' : Nat → Int32, t' q = nI (nvN L c p) ∧ (∀ i, i ≠ q → t' i = told i) ∧ F_X7_number (nI L) (nI p) text told (nI q) = some (if dgB L c p = true then nI 1 else nI 0, nI (npN L c p), t') := by
  have htx := hT.2.2.2
  unfold F_X7_number
  simp only [am_let]
  obtain ⟨k, hk⟩ : ∃ k, am_fuel = k + 1 + 1 + 1 := ⟨999997, fuelE⟩
  rw [hk]
  have one : ∀ (K : Int32 → (Nat → Int32) → Option (Int32 × Int32 × (Nat → Int32))) (n r x : Nat) (f : Nat → Int32), r < 1000 → p ≤ r → x < 1000 → f q = nI x → am_loop2 (F_X7_number_B12 (nI L) text K (nI p) (nI q)) (n + 1) (nI r) f = if dgB L c r = true then (if 2 ≤ r - p then K (nI r) f else am_loop2 (F_X7_number_B12 (nI L) text K (nI p) (nI q)) n (nI (r + 1)) (upd f q (nI (10 * x + hrN L c r - 48)))) else K (nI r) f := by
    intro K n r x f hr hpr hx hf
    show F_X7_number_B12 _ _ _ _ _ (am_loop2 (F_X7_number_B12 (nI L) text K (nI p) (nI q)) n) (nI r) f = _
    generalize am_loop2 (F_X7_number_B12 (nI L) text K (nI p) (nI q)) n = rec
    unfold F_X7_number_B12
    simp only [am_let]
    by_cases h2 : dgB L c r = true
    · have h3 := dg_in h2
      have n1 : ¬ nI 1 = nI 0 := by decide
      have e : text r = nI (hrN L c r) := by
        rw [htx r h3.1]
        unfold hrN
        rw [if_pos h3.1]
      have hL := hT.1
      by_cases h : 2 ≤ r - p
      · simp (disch := omega) only [li_0, li_1, li_2, li_3, li_4, li_5, li_6, li_7, li_8, li_9, li_10, li_12, li_16, li_20, li_21, li_22, li_32, li_33, li_44, li_45, li_48, li_57, li_59, li_60, li_63, li_74, li_75, li_99, li_100, li_109, li_111, li_114, li_126, li_200, li_340, li_580, li_1740, li_65537, li_1000000, ll_0, ll_1, ll_100, digM hT hr, h2, if_true, Option.bind_some, n1, if_false, sI_sub, sI_le, h]
      · simp (disch := omega) only [li_0, li_1, li_2, li_3, li_4, li_5, li_6, li_7, li_8, li_9, li_10, li_12, li_16, li_20, li_21, li_22, li_32, li_33, li_44, li_45, li_48, li_57, li_59, li_60, li_63, li_74, li_75, li_99, li_100, li_109, li_111, li_114, li_126, li_200, li_340, li_580, li_1740, li_65537, li_1000000, ll_0, ll_1, ll_100, digM hT hr, h2, if_true, Option.bind_some, n1, if_false, sI_sub, sI_le, h, am_in_n, sI_cl, hf, e, sI_mul, sI_add]
    · simp (disch := omega) only [li_0, li_1, li_2, li_3, li_4, li_5, li_6, li_7, li_8, li_9, li_10, li_12, li_16, li_20, li_21, li_22, li_32, li_33, li_44, li_45, li_48, li_57, li_59, li_60, li_63, li_74, li_75, li_99, li_100, li_109, li_111, li_114, li_126, li_200, li_340, li_580, li_1740, li_65537, li_1000000, ll_0, ll_1, ll_100, digM hT hr, h2, if_false, if_true, Option.bind_some, Bool.false_eq_true]
  simp (disch := omega) only [li_0, li_1, li_2, li_3, li_4, li_5, li_6, li_7, li_8, li_9, li_10, li_12, li_16, li_20, li_21, li_22, li_32, li_33, li_44, li_45, li_48, li_57, li_59, li_60, li_63, li_74, li_75, li_99, li_100, li_109, li_111, li_114, li_126, li_200, li_340, li_580, li_1740, li_65537, li_1000000, ll_0, ll_1, ll_100, am_in_n, sI_cl]
  have e0 : upd told q (nI 0) q = nI 0 := upd_s _ _ _
  have hL := hT.1
  rw [one _ (k + 1 + 1) p 0 _ (by omega) (Nat.le_refl _) (by omega) e0]
  unfold nvN npN
  by_cases h1 : dgB L c p = true
  · have h1' := dg_in h1
    have e1 : 10 * 0 + hrN L c p - 48 = hrN L c p - 48 := by omega
    rw [e1, one _ (k + 1) (p + 1) (hrN L c p - 48) _ (by omega) (by omega) (by omega) (upd_s _ _ _)]
    simp only [if_pos h1, if_neg (show ¬ 2 ≤ p - p by omega)]
    by_cases h2 : dgB L c (p + 1) = true
    · have h2' := dg_in h2
      have e2 : 10 * (hrN L c p - 48) + hrN L c (p + 1) - 48 = (hrN L c p - 48) * 10 + hrN L c (p + 1) - 48 := by omega
      rw [e2, one _ k (p + 1 + 1) ((hrN L c p - 48) * 10 + hrN L c (p + 1) - 48) _ (by omega) (by omega) (by omega) (upd_s _ _ _)]
      simp only [if_pos h2, if_neg (show ¬ 2 ≤ p + 1 - p by omega), if_pos (show 2 ≤ p + 1 + 1 - p by omega)]
      refine ⟨upd (upd (upd told q (nI 0)) q (nI (hrN L c p - 48))) q (nI ((hrN L c p - 48) * 10 + hrN L c (p + 1) - 48)), upd_s _ _ _, fun i hi => by rw [upd_n hi, upd_n hi, upd_n hi], ?_⟩
      have n4 : ¬ p + 1 + 1 ≤ p := by omega
      by_cases h3 : dgB L c (p + 1 + 1) = true
      · simp (disch := omega) only [if_pos h3, sI_le, n4, if_false]
      · simp (disch := omega) only [if_neg h3, if_false, sI_le, n4]
    · simp only [if_neg h2]
      refine ⟨upd (upd told q (nI 0)) q (nI (hrN L c p - 48)), upd_s _ _ _, fun i hi => by rw [upd_n hi, upd_n hi], ?_⟩
      have n4 : ¬ p + 1 ≤ p := by omega
      simp (disch := omega) only [if_false, sI_le, n4]
  · simp only [if_neg h1]
    refine ⟨upd told q (nI 0), upd_s _ _ _, fun i hi => by rw [upd_n hi], ?_⟩
    simp (disch := omega) only [if_true, sI_le, Nat.le_refl]
end Chars
