-- an order, read on both sides
section Order
variable {L : Nat} {c : Nat → Nat} {ch text : Nat → Int32}
def sgI (mn : Bool) (x : Nat) : Int32 := if mn = true then -nI x else nI x
-- the numbers of an order from q on (its sign read): whether they are there, where it ends
def n1N (L : Nat) (c : Nat → Nat) (q : Nat) : Bool := dgB L c q && (decide (hrN L c (npN L c q) = 44) && dgB L c (npN L c q + 1))
def e1N (L : Nat) (c : Nat → Nat) (q : Nat) : Nat := if dgB L c q = true then (if hrN L c (npN L c q) = 44 then (if dgB L c (npN L c q + 1) = true then npN L c (npN L c q + 1) else npN L c q + 1) else npN L c q) else q
theorem np_no {q : Nat} (h : ¬ dgB L c q = true) : npN L c q = q := if_neg h
theorem n1_le {q : Nat} : q ≤ e1N L c q ∧ e1N L c q ≤ q + 5 := by
  have h1 := np_le (L := L) (c := c) (p := q)
  have h2 := np_le (L := L) (c := c) (p := npN L c q + 1)
  unfold e1N
  split
  · split
    · split <;> omega
    · omega
  · omega
-- where the numbers of an order begin, and its sign
def mnB (L : Nat) (c : Nat → Nat) (k p : Nat) : Bool := decide (k = 109 ∧ hrN L c p = 45)
def q1N (L : Nat) (c : Nat → Nat) (k p : Nat) : Nat := if mnB L c k p = true then p + 1 else p
theorem fnumsC (hT : Txt L c ch text) {p k : Nat} (hp : p < 800) (hk : k = 109 ∨ k = 111) (fst snd : Int32) : ∃ a b : Int32, F_X3_readNumbers (nI L) (nI p) (nI k) fst snd ch = some (if n1N L c (q1N L c k p) = true then nI 1 else nI 0, nI (e1N L c (q1N L c k p)), a, b) ∧ (n1N L c (q1N L c k p) = true → a = sgI (mnB L c k p) (nvN L c (q1N L c k p)) ∧ b = nI (nvN L c (npN L c (q1N L c k p) + 1))) := by
  have n10 : ¬ nI 1 = nI 0 := by decide
  have key : ∀ (q : Nat) (mn : Bool), q < 801 → ∃ a b : Int32, (Option.bind (F_X3_isDigitHere (nI L) (nI q) ch) fun r4 => if r4 = nI 0 then some (nI 0, nI q, fst, snd) else am_call2 (F_X3_readNumber (nI L) (nI q) ch) fun r5 u6 => if (if mn = true then nI 1 else nI 0) = nI 0 then (am_call2 (F_X3_pass (nI L) u6 ch (nI 44)) fun r9 u10 => if r9 = nI 0 then some (nI 0, u10, r5, snd) else Option.bind (F_X3_isDigitHere (nI L) u10 ch) fun r11 => if r11 = nI 0 then some (nI 0, u10, r5, snd) else am_call2 (F_X3_readNumber (nI L) u10 ch) fun r12 u13 => some (nI 1, u13, r5, r12)) else (am_call2 (F_X3_pass (nI L) u6 ch (nI 44)) fun r9 u10 => if r9 = nI 0 then some (nI 0, u10, -r5, snd) else Option.bind (F_X3_isDigitHere (nI L) u10 ch) fun r11 => if r11 = nI 0 then some (nI 0, u10, -r5, snd) else am_call2 (F_X3_readNumber (nI L) u10 ch) fun r12 u13 => some (nI 1, u13, -r5, r12))) = some (if n1N L c q = true then nI 1 else nI 0, nI (e1N L c q), a, b) ∧ (n1N L c q = true → a = sgI mn (nvN L c q) ∧ b = nI (nvN L c (npN L c q + 1))) := by
    intro q mn hq
    have h1 := np_le (L := L) (c := c) (p := q)
    have h2 := np_le (L := L) (c := c) (p := npN L c q + 1)
    unfold n1N e1N
    rw [digC hT (by omega), numC hT (by omega)]
    have e44 := passC hT (p := npN L c q) (x := 44) (by omega) (by omega)
    by_cases d1 : dgB L c q = true
    · by_cases d2 : hrN L c (npN L c q) = 44
      · by_cases d3 : dgB L c (npN L c q + 1) = true
        · refine ⟨sgI mn (nvN L c q), nI (nvN L c (npN L c q + 1)), ?_, fun _ => ⟨rfl, rfl⟩⟩
          have e1 := digC hT (p := npN L c q + 1) (by omega)
          have e2 := numC hT (p := npN L c q + 1) (by omega)
          cases mn <;> simp only [d1, d2, d3, if_true, if_false, Option.bind_some, n10, am_call2_e, e44, e1, e2, Bool.false_eq_true, Bool.and_true, decide_true, sgI]
        · refine ⟨sgI mn (nvN L c q), snd, ?_, fun h => ?_⟩
          · have e1 := digC hT (p := npN L c q + 1) (by omega)
            cases mn <;> simp only [d1, d2, d3, if_true, if_false, Option.bind_some, n10, am_call2_e, e44, e1, Bool.false_eq_true, Bool.and_false, Bool.and_true, decide_true, sgI]
          · simp only [d1, d2, d3, Bool.and_false, Bool.and_true, decide_true, Bool.false_eq_true] at h
      · refine ⟨sgI mn (nvN L c q), snd, ?_, fun h => ?_⟩
        · cases mn <;> simp only [d1, d2, if_true, if_false, Option.bind_some, n10, am_call2_e, e44, Bool.false_eq_true, Bool.and_false, Bool.false_and, Bool.and_true, decide_false, sgI]
        · simp only [d1, d2, Bool.and_false, Bool.false_and, Bool.and_true, decide_false, Bool.false_eq_true] at h
    · refine ⟨fst, snd, ?_, fun h => ?_⟩
      · simp only [d1, if_true, if_false, Option.bind_some, Bool.false_eq_true, Bool.false_and]
      · simp only [d1, Bool.false_and, Bool.false_eq_true] at h
  unfold F_X3_readNumbers
  simp only [am_let]
  simp only [li_0, li_1, li_2, li_3, li_4, li_5, li_6, li_7, li_8, li_9, li_10, li_12, li_16, li_20, li_21, li_22, li_32, li_33, li_44, li_45, li_48, li_57, li_59, li_60, li_63, li_74, li_75, li_99, li_100, li_109, li_111, li_114, li_126, li_200, li_340, li_580, li_1740, li_65537, li_1000000, ll_0, ll_1, ll_100]
  by_cases hk9 : k = 109
  · subst hk9
    rw [if_pos rfl, passC hT (by omega) (by omega)]
    unfold q1N mnB
    by_cases hm : hrN L c p = 45
    · have key1 := key (p + 1) true (by omega)
      simp only [if_true, n10, if_false] at key1
      simp only [hm, if_true, am_call2_e, n10, if_false, true_and, and_self, decide_true]
      exact key1
    · have key1 := key p false (by omega)
      simp only [if_true, Bool.false_eq_true, if_false] at key1
      simp only [hm, if_true, am_call2_e, if_false, and_false, decide_false, Bool.false_eq_true]
      exact key1
  · have key1 := key p false (by omega)
    have e9 : ¬ nI k = nI 109 := by rw [sI_eq (by omega) (by omega)]; exact hk9
    unfold q1N mnB
    simp only [if_true, Bool.false_eq_true, if_false] at key1
    simp only [e9, hk9, if_true, if_false, false_and, decide_false, Bool.false_eq_true]
    exact key1
def okB (L : Nat) (c : Nat → Nat) (p : Nat) : Bool := if hrN L c p = 114 then decide (hrN L c (p + 1) = 59) else decide (hrN L c p = 109 ∨ hrN L c p = 111) && (n1N L c (q1N L c (hrN L c p) (p + 1)) && decide (hrN L c (e1N L c (q1N L c (hrN L c p) (p + 1))) = 59))
def endN (L : Nat) (c : Nat → Nat) (p : Nat) : Nat := if hrN L c p = 114 then (if hrN L c (p + 1) = 59 then p + 1 + 1 else p + 1) else if hrN L c p = 109 ∨ hrN L c p = 111 then (if n1N L c (q1N L c (hrN L c p) (p + 1)) = true then (if hrN L c (e1N L c (q1N L c (hrN L c p) (p + 1))) = 59 then e1N L c (q1N L c (hrN L c p) (p + 1)) + 1 else e1N L c (q1N L c (hrN L c p) (p + 1))) else e1N L c (q1N L c (hrN L c p) (p + 1))) else p
def faN (L : Nat) (c : Nat → Nat) (p : Nat) : Int32 := sgI (mnB L c (hrN L c p) (p + 1)) (nvN L c (q1N L c (hrN L c p) (p + 1)))
def fbN (L : Nat) (c : Nat → Nat) (p : Nat) : Int32 := nI (nvN L c (npN L c (q1N L c (hrN L c p) (p + 1)) + 1))
theorem ok_end {p : Nat} (h : okB L c p = true) : p < endN L c p ∧ endN L c p ≤ L ∧ (hrN L c p = 109 ∨ hrN L c p = 111 ∨ hrN L c p = 114) := by
  unfold okB at h
  unfold endN
  by_cases h1 : hrN L c p = 114
  · rw [if_pos h1] at h ⊢
    have h2 := of_decide_eq_true h
    rw [if_pos h2]
    have := hr_in (L := L) (c := c) (p := p + 1) (by omega)
    exact ⟨by omega, by omega, Or.inr (Or.inr h1)⟩
  · rw [if_neg h1] at h ⊢
    obtain ⟨h2, h3⟩ := (Bool.and_eq_true _ _).mp h
    obtain ⟨h4, h5⟩ := (Bool.and_eq_true _ _).mp h3
    have h2 := of_decide_eq_true h2
    have h5 := of_decide_eq_true h5
    rw [if_pos h2, if_pos h4, if_pos h5]
    have h6 := hr_in (L := L) (c := c) (p := e1N L c (q1N L c (hrN L c p) (p + 1))) (by omega)
    have h7 := n1_le (L := L) (c := c) (q := q1N L c (hrN L c p) (p + 1))
    have h8 : p + 1 ≤ q1N L c (hrN L c p) (p + 1) := by unfold q1N; split <;> omega
    exact ⟨by omega, by omega, by omega⟩
theorem end_lt (hT : Txt L c ch text) {p : Nat} (hp : p < L) : endN L c p < 1000 := by
  have hL := hT.1
  have h7 := n1_le (L := L) (c := c) (q := q1N L c (hrN L c p) (p + 1))
  have h8 : q1N L c (hrN L c p) (p + 1) ≤ p + 2 := by unfold q1N; split <;> omega
  unfold endN
  split
  · split <;> omega
  · split
    · split
      · split <;> omega
      · omega
    · omega
theorem freadC (hT : Txt L c ch text) {p : Nat} (hp : p < L) (kin fst snd : Int32) : ∃ a b : Int32, F_X3_readOrder (nI L) (nI p) kin fst snd ch = some (if okB L c p = true then nI 1 else nI 0, nI (endN L c p), nI (hrN L c p), a, b) ∧ (okB L c p = true → ¬ hrN L c p = 114 → a = faN L c p ∧ b = fbN L c p) := by
  have n10 : ¬ nI 1 = nI 0 := by decide
  have hL := hT.1
  have hh := hr_le hT p
  unfold F_X3_readOrder
  simp only [am_let]
  rw [hereC hT (by omega)]
  simp (disch := omega) only [li_0, li_1, li_2, li_3, li_4, li_5, li_6, li_7, li_8, li_9, li_10, li_12, li_16, li_20, li_21, li_22, li_32, li_33, li_44, li_45, li_48, li_57, li_59, li_60, li_63, li_74, li_75, li_99, li_100, li_109, li_111, li_114, li_126, li_200, li_340, li_580, li_1740, li_65537, li_1000000, ll_0, ll_1, ll_100, Option.bind_some, sI_add]
  unfold okB endN faN fbN
  by_cases h1 : hrN L c p = 114
  · have e9 : ¬ nI 114 = nI 109 := by decide
    have e11 : ¬ nI 114 = nI 111 := by decide
    rw [h1, passC hT (by omega) (by omega)]
    refine ⟨fst, snd, ?_, fun _ h => absurd rfl h⟩
    by_cases h2 : hrN L c (p + 1) = 59
    · simp only [e9, e11, if_false, if_true, h2, am_call2_e, n10, decide_true]
    · simp only [e9, e11, if_false, if_true, h2, am_call2_e, decide_false, Bool.false_eq_true]
  · by_cases h2 : hrN L c p = 109 ∨ hrN L c p = 111
    · obtain ⟨a, b, e1, e2⟩ := fnumsC hT (p := p + 1) (k := hrN L c p) (by omega) h2 fst snd
      have h3 := n1_le (L := L) (c := c) (q := q1N L c (hrN L c p) (p + 1))
      have h4 : q1N L c (hrN L c p) (p + 1) ≤ p + 1 + 1 := by unfold q1N; split <;> omega
      have e14 : ¬ nI (hrN L c p) = nI 114 := by rw [sI_eq (by omega) (by omega)]; exact h1
      have e0 : ∀ X Y : Option (Int32 × Int32 × Int32 × Int32 × Int32), (if nI (hrN L c p) = nI 109 then X else if nI (hrN L c p) = nI 111 then X else Y) = X := by
        intro X Y
        rcases h2 with h | h
        · rw [if_pos (show nI (hrN L c p) = nI 109 by rw [h])]
        · rw [if_neg (show ¬ nI (hrN L c p) = nI 109 by rw [h]; decide), if_pos (show nI (hrN L c p) = nI 111 by rw [h])]
      rw [e0, if_neg e14, e1]
      simp only [am_call4_e]
      refine ⟨a, b, ?_, fun h _ => e2 ?_⟩
      · rw [if_neg h1, if_neg h1, if_pos h2, decide_eq_true h2]
        by_cases h5 : n1N L c (q1N L c (hrN L c p) (p + 1)) = true
        · rw [if_pos h5, if_neg n10, if_pos h5, h5, passC hT (by omega) (by omega)]
          by_cases h6 : hrN L c (e1N L c (q1N L c (hrN L c p) (p + 1))) = 59
          · simp only [h6, if_true, am_call2_e, n10, if_false, decide_true, Bool.and_true]
          · simp only [h6, if_true, am_call2_e, if_false, decide_false, Bool.and_false, Bool.false_eq_true]
        · rw [if_neg h5, if_pos rfl, if_neg h5]
          simp only [h5, Bool.false_and, Bool.and_false, Bool.false_eq_true, if_false]
      · rw [if_neg h1] at h
        exact ((Bool.and_eq_true _ _).mp ((Bool.and_eq_true _ _).mp h).2).1
    · have e9 : ¬ nI (hrN L c p) = nI 109 := by rw [sI_eq (by omega) (by omega)]; omega
      have e11 : ¬ nI (hrN L c p) = nI 111 := by rw [sI_eq (by omega) (by omega)]; omega
      have e14 : ¬ nI (hrN L c p) = nI 114 := by rw [sI_eq (by omega) (by omega)]; exact h1
      refine ⟨fst, snd, ?_, fun h => ?_⟩
      · simp only [e9, e11, e14, if_false, h1, h2, decide_false, Bool.false_and, Bool.false_eq_true]
      · rw [if_neg h1, decide_eq_false h2, Bool.false_and] at h
        exact absurd h Bool.false_ne_true
theorem freadM (hT : Txt L c ch text) {p : Nat} (hp : p < L) (mkind : Int32) (told : Nat → Int32) : ∃ (kM : Int32) (t' : Nat → Int32), F_X7_reads (nI L) (nI p) mkind text told = some (if okB L c p = true then nI 1 else nI 0, nI (endN L c p), kM, t') ∧ (okB L c p = true → kM = nI (hrN L c p) ∧ (¬ hrN L c p = 114 → t' 0 = faN L c p ∧ t' 1 = fbN L c p)) := by
  have n10 : ¬ nI 1 = nI 0 := by decide
  have hL := hT.1
  have hh := hr_le hT p
  have hcp := hT.2.1 p hp
  have ehr : hrN L c p = c p := by unfold hrN; rw [if_pos hp]
  have key : ∀ {R : Type} (J : Int32 → Int32 → (Nat → Int32) → Option R) (q : Nat), q < 802 → ∃ t' : Nat → Int32, (n1N L c q = true → t' 0 = nI (nvN L c q) ∧ t' 1 = nI (nvN L c (npN L c q + 1))) ∧ (am_call3 (F_X7_number (nI L) (nI q) text told (nI 0)) fun r9 u10 f11 => if r9 = nI 0 then J (nI 0) u10 f11 else am_call2 (F_X7_passes (nI L) u10 text (nI 44)) fun r21 u22 => if r21 = nI 0 then J (nI 0) u22 f11 else am_call3 (F_X7_number (nI L) u22 text f11 (nI 1)) fun r23 u24 f25 => if r23 = nI 0 then J (nI 0) u24 f25 else am_call2 (F_X7_passes (nI L) u24 text (nI 59)) fun r26 u27 => if r26 = nI 0 then J (nI 0) u27 f25 else J (nI 1) u27 f25) = J (if n1N L c q = true ∧ hrN L c (e1N L c q) = 59 then nI 1 else nI 0) (nI (if n1N L c q = true ∧ hrN L c (e1N L c q) = 59 then e1N L c q + 1 else e1N L c q)) t' := by
    intro R J q hq
    have h1 := np_le (L := L) (c := c) (p := q)
    have h2 := np_le (L := L) (c := c) (p := npN L c q + 1)
    obtain ⟨t1, a1, a2, a3⟩ := numM hT (p := q) (q := 0) (by omega) (by omega) told
    obtain ⟨t2, b1, b2, b3⟩ := numM hT (p := npN L c q + 1) (q := 1) (by omega) (by omega) t1
    have e44 := passM hT (p := npN L c q) (x := 44) (by omega) (by omega) (by omega)
    have e59 := passM hT (p := npN L c (npN L c q + 1)) (x := 59) (by omega) (by omega) (by omega)
    rw [a3]
    unfold n1N e1N
    by_cases d1 : dgB L c q = true
    · by_cases d2 : hrN L c (npN L c q) = 44
      · by_cases d3 : dgB L c (npN L c q + 1) = true
        · refine ⟨t2, fun _ => ⟨(b2 0 (by omega)).trans a1, b1⟩, ?_⟩
          by_cases d4 : hrN L c (npN L c (npN L c q + 1)) = 59
          · simp only [d1, d2, d3, d4, if_true, if_false, n10, am_call2_e, am_call3_e, e44, e59, b3, Bool.and_true, decide_true, and_self]
          · simp only [d1, d2, d3, d4, if_true, if_false, n10, am_call2_e, am_call3_e, e44, e59, b3, Bool.and_true, decide_true, and_false]
        · refine ⟨t2, fun h => ?_, ?_⟩
          · simp only [d1, d2, d3, Bool.and_false, Bool.and_true, decide_true, Bool.false_eq_true] at h
          · have e0 : npN L c (npN L c q + 1) = npN L c q + 1 := np_no d3
            rw [e0] at b3
            simp only [d1, d2, d3, if_true, if_false, n10, am_call2_e, am_call3_e, e44, b3, Bool.and_false, Bool.and_true, decide_true, false_and, Bool.false_eq_true]
      · refine ⟨t1, fun h => ?_, ?_⟩
        · simp only [d1, d2, Bool.and_false, Bool.false_and, Bool.and_true, decide_false, Bool.false_eq_true] at h
        · simp only [d1, d2, if_true, if_false, n10, am_call2_e, am_call3_e, e44, Bool.and_false, Bool.false_and, decide_false, false_and, Bool.false_eq_true]
    · refine ⟨t1, fun h => ?_, ?_⟩
      · simp only [d1, Bool.false_and, Bool.false_eq_true] at h
      · have e0 : npN L c q = q := by
          unfold npN
          rw [if_neg d1]
        simp only [d1, if_true, if_false, am_call3_e, Bool.false_and, false_and, Bool.false_eq_true, e0]
  unfold F_X7_reads
  simp only [li_0, li_1, li_2, li_3, li_4, li_5, li_6, li_7, li_8, li_9, li_10, li_12, li_16, li_20, li_21, li_22, li_32, li_33, li_44, li_45, li_48, li_57, li_59, li_60, li_63, li_74, li_75, li_99, li_100, li_109, li_111, li_114, li_126, li_200, li_340, li_580, li_1740, li_65537, li_1000000, ll_0, ll_1, ll_100]
  rw [isAtM hT (by omega) (by omega) (by omega) (by omega)]
  by_cases h33 : 33 ≤ hrN L c p
  · have e33 : 33 ≤ hrN L c p ∧ hrN L c p ≤ 126 := ⟨h33, hh⟩
    have etx : text p = nI (hrN L c p) := by rw [ehr]; exact hT.2.2.2 p hp
    rw [if_pos e33, Option.bind_some, am_let_e]
    try dsimp only
    rw [if_neg n10, am_in_n (by omega) (by omega), sI_cl (by omega), etx, am_let_e]
    try dsimp only
    by_cases h1 : hrN L c p = 114
    · have e9 : ¬ nI 114 = nI 109 := by decide
      have e11 : ¬ nI 114 = nI 111 := by decide
      unfold okB endN
      rw [h1, if_neg e9, if_neg e11, if_pos rfl, am_let_e]
      try dsimp only
      rw [if_pos rfl, sI_add, passM hT (by omega) (by omega) (by omega)]
      refine ⟨nI 114, told, ?_, fun _ => ⟨rfl, fun h => absurd rfl h⟩⟩
      by_cases h2 : hrN L c (p + 1) = 59
      · simp only [if_true, h2, am_call2_e, decide_true, am_bool1]
      · simp only [if_true, if_false, h2, am_call2_e, decide_false, am_bool0, Bool.false_eq_true]
    · have e14 : ¬ nI (hrN L c p) = nI 114 := by rw [sI_eq (by omega) (by omega)]; exact h1
      by_cases h2 : hrN L c p = 109 ∨ hrN L c p = 111
      · have fin : ∀ (mn : Bool) (q : Nat) (t' : Nat → Int32), mn = mnB L c (hrN L c p) (p + 1) → q = q1N L c (hrN L c p) (p + 1) → (n1N L c q = true → t' 0 = nI (nvN L c q) ∧ t' 1 = nI (nvN L c (npN L c q + 1))) → ∃ (kM : Int32) (t2 : Nat → Int32), am_bool (if n1N L c q = true ∧ hrN L c (e1N L c q) = 59 then nI 1 else nI 0) (some ((if n1N L c q = true ∧ hrN L c (e1N L c q) = 59 then nI 1 else nI 0), nI (if n1N L c q = true ∧ hrN L c (e1N L c q) = 59 then e1N L c q + 1 else e1N L c q), nI (hrN L c p), upd t' 0 (if mn = true then -(t' 0) else t' 0))) = some (if okB L c p = true then nI 1 else nI 0, nI (endN L c p), kM, t2) ∧ (okB L c p = true → kM = nI (hrN L c p) ∧ (¬ hrN L c p = 114 → t2 0 = faN L c p ∧ t2 1 = fbN L c p)) := by
          intro mn q t' hmn hq ht
          unfold okB endN faN fbN
          rw [← hmn, ← hq, if_neg h1, if_neg h1, if_pos h2, decide_eq_true h2]
          refine ⟨nI (hrN L c p), upd t' 0 (if mn = true then -(t' 0) else t' 0), ?_, fun h => ⟨rfl, fun _ => ?_⟩⟩
          · by_cases h3 : n1N L c q = true
            · by_cases h4 : hrN L c (e1N L c q) = 59
              · simp only [h3, h4, and_self, if_true, am_bool1, decide_true, Bool.and_true]
              · simp only [h3, h4, and_false, if_false, if_true, am_bool0, decide_false, Bool.and_false, Bool.false_eq_true]
            · simp only [h3, false_and, if_false, am_bool0, Bool.false_and, Bool.and_false, Bool.false_eq_true]
          · obtain ⟨h3, h4⟩ := ht ((Bool.and_eq_true _ _).mp ((Bool.and_eq_true _ _).mp h).2).1
            rw [upd_s, upd_n (by omega), h3, h4]
            exact ⟨by unfold sgI; rfl, rfl⟩
        by_cases h9 : hrN L c p = 109
        · have e9 : nI (hrN L c p) = nI 109 := by rw [h9]
          rw [if_pos e9, am_let_e]
          try dsimp only
          rw [if_neg e14, am_let_e]
          try dsimp only
          rw [am_let_e]
          try dsimp only
          rw [if_pos e9, sI_add, passM hT (by omega) (by omega) (by omega), am_call2_e]
          by_cases hm : hrN L c (p + 1) = 45
          · have hmn : true = mnB L c (hrN L c p) (p + 1) := by unfold mnB; rw [h9]; exact (decide_eq_true ⟨rfl, hm⟩).symm
            have hq : p + 1 + 1 = q1N L c (hrN L c p) (p + 1) := by unfold q1N; rw [← hmn, if_pos rfl]
            rw [if_pos hm, if_pos hm]
            obtain ⟨t', k1, k2⟩ := key (fun j12 u13 f14 => am_bool j12 (some (j12, u13, nI (hrN L c p), upd f14 0 (-(f14 0))))) (p + 1 + 1) (by omega)
            obtain ⟨kM, t2, k3, k4⟩ := fin true (p + 1 + 1) t' hmn hq k1
            simp only [if_true] at k3
            rw [if_neg n10]
            exact ⟨kM, t2, k2.trans k3, k4⟩
          · have hmn : false = mnB L c (hrN L c p) (p + 1) := by unfold mnB; exact (decide_eq_false (fun h => hm h.2)).symm
            have hq : p + 1 = q1N L c (hrN L c p) (p + 1) := by unfold q1N; rw [← hmn, if_neg Bool.false_ne_true]
            rw [if_neg hm, if_neg hm]
            obtain ⟨t', k1, k2⟩ := key (fun j12 u13 f14 => am_bool j12 (some (j12, u13, nI (hrN L c p), upd f14 0 (f14 0)))) (p + 1) (by omega)
            obtain ⟨kM, t2, k3, k4⟩ := fin false (p + 1) t' hmn hq k1
            simp only [Bool.false_eq_true, if_false] at k3
            rw [if_pos rfl]
            exact ⟨kM, t2, k2.trans k3, k4⟩
        · have h11 : hrN L c p = 111 := by omega
          have e9 : ¬ nI (hrN L c p) = nI 109 := by rw [sI_eq (by omega) (by omega)]; exact h9
          have e11 : nI (hrN L c p) = nI 111 := by rw [h11]
          have hmn : false = mnB L c (hrN L c p) (p + 1) := by unfold mnB; exact (decide_eq_false (fun h => h9 h.1)).symm
          have hq : p + 1 = q1N L c (hrN L c p) (p + 1) := by unfold q1N; rw [← hmn, if_neg Bool.false_ne_true]
          rw [if_neg e9, if_pos e11, am_let_e]
          try dsimp only
          rw [if_neg e14, am_let_e]
          try dsimp only
          rw [am_let_e]
          try dsimp only
          rw [if_neg e9, sI_add]
          obtain ⟨t', k1, k2⟩ := key (fun j12 u13 f14 => am_bool j12 (some (j12, u13, nI (hrN L c p), upd f14 0 (f14 0)))) (p + 1) (by omega)
          obtain ⟨kM, t2, k3, k4⟩ := fin false (p + 1) t' hmn hq k1
          simp only [Bool.false_eq_true, if_false] at k3
          exact ⟨kM, t2, k2.trans k3, k4⟩
      · have e9 : ¬ nI (hrN L c p) = nI 109 := by rw [sI_eq (by omega) (by omega)]; omega
        have e11 : ¬ nI (hrN L c p) = nI 111 := by rw [sI_eq (by omega) (by omega)]; omega
        rw [if_neg e9, if_neg e11, if_neg e14]
        unfold okB endN
        refine ⟨nI (hrN L c p), told, ?_, fun h => ?_⟩
        rotate_left
        · rw [if_neg h1, decide_eq_false h2, Bool.false_and] at h
          exact absurd h Bool.false_ne_true
        · rw [if_neg h1, if_neg h1, if_neg h2, decide_eq_false h2, Bool.false_and, if_neg Bool.false_ne_true]
  · have e33 : ¬ (33 ≤ hrN L c p ∧ hrN L c p ≤ 126) := fun h => h33 h.1
    have e9 : ¬ nI 0 = nI 109 := by decide
    have e11 : ¬ nI 0 = nI 111 := by decide
    have e14 : ¬ nI 0 = nI 114 := by decide
    have h1 : ¬ hrN L c p = 114 := by omega
    have h2 : ¬ (hrN L c p = 109 ∨ hrN L c p = 111) := by omega
    rw [if_neg e33, Option.bind_some, am_let_e]
    try dsimp only
    rw [if_pos rfl, am_let_e]
    try dsimp only
    rw [if_neg e9, if_neg e11, if_neg e14]
    unfold okB endN
    refine ⟨nI 0, told, ?_, fun h => ?_⟩
    rotate_left
    · rw [if_neg h1, decide_eq_false h2, Bool.false_and] at h
      exact absurd h Bool.false_ne_true
    · rw [if_neg h1, if_neg h1, if_neg h2, decide_eq_false h2, Bool.false_and, if_neg Bool.false_ne_true]
end Order
