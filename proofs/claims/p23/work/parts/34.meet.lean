-- sets of ancestors as bits; common ancestors
def maskN (a : Nat → Nat) : Nat → Nat
  | 0 => 0
  | n + 1 => maskN a n ||| 2 ^ a n
theorem mask_lt {a : Nat → Nat} : ∀ {n}, (∀ k, k < n → a k < 12) → maskN a n < 4096
  | 0, _ => by show 0 < 4096; omega
  | n + 1, h => by
    show maskN a n ||| 2 ^ a n < 2 ^ 12
    have h1 : maskN a n < 2 ^ 12 := mask_lt (fun k hk => h k (by omega))
    have h2 : 2 ^ a n < 2 ^ 12 := Nat.pow_lt_pow_right (by omega) (h n (by omega))
    exact Nat.or_lt_two_pow h1 h2
theorem mask_bit {a : Nat → Nat} {b : Nat} : ∀ {n}, (maskN a n).testBit b = true ↔ ∃ k, k < n ∧ a k = b
  | 0 => by
    show (0 : Nat).testBit b = true ↔ _
    rw [Nat.zero_testBit]
    exact ⟨fun h => (by cases h), fun ⟨k, h, _⟩ => absurd h (Nat.not_lt_zero k)⟩
  | n + 1 => by
    show (maskN a n ||| 2 ^ a n).testBit b = true ↔ _
    rw [Nat.testBit_or, Bool.or_eq_true, mask_bit (n := n), Nat.testBit_two_pow, decide_eq_true_eq]
    constructor
    · rintro (⟨k, h1, h2⟩ | h)
      · exact ⟨k, by omega, h2⟩
      · exact ⟨n, by omega, h⟩
    · rintro ⟨k, h1, h2⟩
      by_cases hk : k = n
      · subst hk; exact Or.inr h2
      · exact Or.inl ⟨k, by omega, h2⟩
theorem shl1 : ∀ r, r < 12 → nI 1 <<< (nI r &&& 31) = nI (2 ^ r) := by decide
theorem fbits0 : ∀ a, a < 64 → ∀ b, b < 64 → F_J6_bitCount_0f7a4 (nI (64 * a + b)) = some (nI (cntN (fun k => (64 * a + b).testBit k) 12)) := by decide +kernel
theorem fbits (m : Nat) (h : m < 4096) : F_J6_bitCount_0f7a4 (nI m) = some (nI (cntN (fun b => m.testBit b) 12)) := by
  have h1 := fbits0 (m / 64) (by omega) (m % 64) (by omega)
  rw [Nat.div_add_mod] at h1
  exact h1
theorem cnt_more {p : Nat → Bool} {n : Nat} : ∀ d, (∀ k, n ≤ k → k < n + d → p k = false) → cntN p (n + d) = cntN p n
  | 0, _ => rfl
  | d + 1, h => by
    show cntN p (n + d) + (if p (n + d) then 1 else 0) = cntN p n
    rw [cnt_more d (fun k h1 h2 => h k h1 (by omega)), h (n + d) (by omega) (by omega)]
    rfl
theorem cntN_congr {p q : Nat → Bool} : ∀ n, (∀ k, k < n → p k = q k) → cntN p n = cntN q n
  | 0, _ => rfl
  | n + 1, h => by
    show cntN p n + (if p n then 1 else 0) = cntN q n + (if q n then 1 else 0)
    rw [cntN_congr n (fun k hk => h k (by omega)), h n (by omega)]
theorem fmaskC {f : Nat → Int32} {N G g : Nat} {a : Nat → Nat} (hN : N ≤ 12) (ha : ∀ k, k < N → a k < 12) (hu : ∀ k, k < N → F_X1_ancestorIn (nI G) f (nI g) (nI k) = some (nI (a k))) : F_X1_howManyAreAncestors (nI N) (nI G) f (nI g) = some (nI (cntN (fun b => (maskN a N).testBit b) 12)) := by
  unfold F_X1_howManyAreAncestors
  simp only [am_let, li_0, li_1, li_2, li_3, li_4, li_5, li_6, li_7, li_8, li_9, li_10, li_11, li_12, li_13, li_14, li_15, li_16, li_19, li_20, li_21, li_22, li_23, li_32, li_36, li_48, li_50, li_60, li_63, li_74, li_75, li_98, li_99, li_100, li_199, li_200, li_256, li_7919, li_65537, li_1000000, li_1000001, li_10000000, ll_0, ll_1, ll_100, ll_65535]
  obtain ⟨x, hx, e⟩ := for2L (b := F_X1_howManyAreAncestors_B4 (nI N) (fun x1 => (F_J6_bitCount_0f7a4 x1).bind fun r3 => some r3) (nI G) f (nI g)) nI N (fun j x => x = nI (maskN a j)) (fun x1 => (F_J6_bitCount_0f7a4 x1).bind fun r3 => some r3) (by
    rintro rec x j hj rfl
    refine ⟨_, rfl, ?_⟩
    have e1 : nI (maskN a j) ||| nI (2 ^ a j) = nI (maskN a (j + 1)) := sI_or _ _
    unfold F_X1_howManyAreAncestors_B4
    simp (disch := omega) only [am_let, li_0, li_1, li_2, li_3, li_4, li_5, li_6, li_7, li_8, li_9, li_10, li_11, li_12, li_13, li_14, li_15, li_16, li_19, li_20, li_21, li_22, li_23, li_32, li_36, li_48, li_50, li_60, li_63, li_74, li_75, li_98, li_99, li_100, li_199, li_200, li_256, li_7919, li_65537, li_1000000, li_1000001, li_10000000, ll_0, ll_1, ll_100, ll_65535, sI_le, sI_add, if_neg, hu j hj, Option.bind_some, shl1 _ (ha j hj), e1]) (by
    rintro rec x rfl
    unfold F_X1_howManyAreAncestors_B4
    simp (disch := omega) only [if_true, if_false, am_let, am_in_n, am_nz_n, am_nzl_n, sI_add, sI_mul, sI_cl, sI_le, sI_lt, sI_eq, sI_l, lN_add, lN_mul, lN_i, sg_gt, sg_le, sg_eq, sg_ge, sI_rem, sI_div, sI_rem2, sL_rem, sL_div, sL_rem2, sI_sub, sI_m1, sI_m1n, sI_or, if_pos, if_neg, Option.bind_some, am_call2_e, am_call3_e, am_call4_e, am_call5_e, am_call6_e, am_call7_e, am_call8_e, am_call9_e, am_call10_e, am_call11_e, am_call12_e, am_call13_e, am_call14_e, li_0, li_1, li_2, li_3, li_4, li_5, li_6, li_7, li_8, li_9, li_10, li_11, li_12, li_13, li_14, li_15, li_16, li_19, li_20, li_21, li_22, li_23, li_32, li_36, li_48, li_50, li_60, li_63, li_74, li_75, li_98, li_99, li_100, li_199, li_200, li_256, li_7919, li_65537, li_1000000, li_1000001, li_10000000, ll_0, ll_1, ll_100, ll_65535]) 0 (Nat.zero_le _) am_fuel (by rw [fuelE]; omega) (nI 0) rfl
  rw [e, hx, fbits _ (mask_lt ha)]
  rfl
theorem bit1 (m k : Nat) (hm : m < 4096) (hk : k < 12) : (nI m >>> (nI k &&& 31)) &&& nI 1 = nI (if m.testBit k then 1 else 0) := by
  have h31 : ∀ k, k < 12 → ((nI k &&& 31 : Int32).toBitVec.smod 32).toNat = k := by decide
  rw [pk_shrN (by omega) (nI k &&& 31) k (h31 k hk)]
  have h2 : m / 2 ^ k ≤ m := Nat.div_le_self _ _
  rw [pk_andN (by omega) 1 (show (nI 1).toBitVec.toNat = 2 ^ 1 - 1 from rfl), Nat.testBit_eq_decide_div_mod_eq]
  by_cases h : m / 2 ^ k % 2 = 1
  · rw [Nat.pow_one, h]; rfl
  · have : m / 2 ^ k % 2 = 0 := by omega
    rw [Nat.pow_one, this]; rfl
theorem cnt_set {p : Nat → Bool} {x : Nat} : ∀ {M}, x < M → cntN (fun b => p b || decide (x = b)) M = cntN p M + (if p x then 0 else 1)
  | 0, h => absurd h (Nat.not_lt_zero x)
  | M + 1, h => by
    show cntN (fun b => p b || decide (x = b)) M + (if (p M || decide (x = M)) = true then 1 else 0) = cntN p M + (if p M = true then 1 else 0) + (if p x = true then 0 else 1)
    by_cases hx : x = M
    · subst hx
      have e : cntN (fun b => p b || decide (x = b)) x = cntN p x := by
        apply cntN_congr
        intro k hk
        have : ¬ x = k := by omega
        simp only [this, decide_false, Bool.or_false]
      rw [e]
      cases h2 : p x <;> simp
    · rw [cnt_set (M := M) (by omega)]
      simp only [hx, decide_false, Bool.or_false]
      omega
theorem mask_new {a : Nat → Nat} {M : Nat} : ∀ {n}, (∀ k, k < n → a k < M) → M ≤ 2147483648 → cntN (fun b => (maskN a n).testBit b) M = newN (fun k => nI (a k)) n
  | 0, _, _ => by
    have e : cntN (fun b => (maskN a 0).testBit b) M = cntN (fun _ => false) M := by
      apply cntN_congr
      intro k _
      exact Nat.zero_testBit k
    rw [e]
    have : ∀ M, cntN (fun _ => false) M = 0 := by
      intro M
      induction M with
      | zero => rfl
      | succ M ih => show cntN (fun _ => false) M + 0 = 0; rw [ih]
    exact this M
  | n + 1, h, hM => by
    have hn := h n (by omega)
    show _ = newN (fun k => nI (a k)) n + (if nonN (fun k => nI (a k)) (nI (a n)) n = true then 1 else 0)
    rw [← mask_new (n := n) (fun k hk => h k (by omega)) hM]
    have e : cntN (fun b => (maskN a (n + 1)).testBit b) M = cntN (fun b => (maskN a n).testBit b || decide (a n = b)) M := by
      apply cntN_congr
      intro k _
      show (maskN a n ||| 2 ^ a n).testBit k = _
      rw [Nat.testBit_or, Nat.testBit_two_pow]
    rw [e, cnt_set hn]
    congr 1
    cases h1 : nonN (fun k => nI (a k)) (nI (a n)) n with
    | true =>
      have h2 := nonN_t h1
      have h3 : ¬ (maskN a n).testBit (a n) = true := by
        rw [mask_bit]
        rintro ⟨k, h4, h5⟩
        exact h2 k h4 (by show nI (a k) = nI (a n); rw [h5])
      rw [if_neg h3]; rfl
    | false =>
      obtain ⟨k, h2, h3, -⟩ := nonN_f h1
      have h4 : a k = a n := (nI_eq (by have := h k (by omega); omega) (by omega)).mp h3
      have h5 : (maskN a n).testBit (a n) = true := mask_bit.mpr ⟨k, h2, h4⟩
      rw [if_pos h5]; rfl
-- the latest generation for which something holds
def MeetP (p : Nat → Prop) (L : Nat) (r : Int32) : Prop := (∃ e, e ≤ L ∧ p e ∧ (∀ d, d < e → ¬ p d) ∧ r = nI (L - e)) ∨ ((∀ d, d ≤ L → ¬ p d) ∧ r = -1000004)
theorem MeetP.uniq {p q : Nat → Prop} {L : Nat} {r r' : Int32} (hpq : ∀ d, d ≤ L → (p d ↔ q d)) (h : MeetP p L r) (h' : MeetP q L r') : r = r' := by
  rcases h with ⟨e, h1, h2, h3, h4⟩ | ⟨h1, h4⟩ <;> rcases h' with ⟨e', g1, g2, g3, g4⟩ | ⟨g1, g4⟩
  · have : e = e' := by
      rcases Nat.lt_trichotomy e e' with h | h | h
      · exact absurd ((hpq e h1).mp h2) (g3 e h)
      · exact h
      · exact absurd ((hpq e' g1).mpr g2) (h3 e' h)
    rw [h4, g4, this]
  · exact absurd ((hpq e h1).mp h2) (g1 e h1)
  · exact absurd ((hpq e' g1).mpr g2) (h1 e' g1)
  · rw [h4, g4]
theorem MeetP.ex (p : Nat → Prop) (L : Nat) : (∃ e, e ≤ L ∧ p e ∧ ∀ d, d < e → ¬ p d) ∨ ∀ d, d ≤ L → ¬ p d := by
  by_cases h : ∃ e, e ≤ L ∧ p e
  · left
    obtain ⟨e, h1, h2⟩ := h
    induction e using Nat.strongRecOn with
    | _ e ih =>
      by_cases h3 : ∃ d, d < e ∧ p d
      · obtain ⟨d, h4, h5⟩ := h3
        exact ih d h4 (by omega) h5
      · exact ⟨e, h1, h2, fun d hd hp => h3 ⟨d, hd, hp⟩⟩
  · right
    intro d hd hp
    exact h ⟨d, hd, hp⟩
theorem MeetP.min {p q : Nat → Prop} {L : Nat} {a b : Int32} (hL : L < 20) (hp : ∀ d, d + 1 ≤ L → p d → p (d + 1)) (hq : ∀ d, d + 1 ≤ L → q d → q (d + 1)) (h : MeetP p L a) (h' : MeetP q L b) : MeetP (fun d => p d ∧ q d) L (if b < a then b else a) := by
  have up : ∀ (P : Nat → Prop), (∀ d, d + 1 ≤ L → P d → P (d + 1)) → ∀ e d, e ≤ d → d ≤ L → P e → P d := by
    intro P hP e d hed
    induction d with
    | zero => intro _ h; have : e = 0 := by omega
              subst this; exact h
    | succ d ih =>
      intro hd h
      by_cases h1 : e = d + 1
      · subst h1; exact h
      · exact hP d hd (ih (by omega) (by omega) h)
  have neg : ∀ t, t < 20 → (-1000004 : Int32) < nI t := by decide
  have neg2 : ∀ t, t < 20 → ¬ nI t < (-1000004 : Int32) := by decide
  rcases h with ⟨e, h1, h2, h3, rfl⟩ | ⟨h1, rfl⟩ <;> rcases h' with ⟨e', g1, g2, g3, rfl⟩ | ⟨g1, rfl⟩
  · by_cases hlt : L - e' < L - e
    · have : nI (L - e') < nI (L - e) := nI_lt hlt (by omega)
      rw [if_pos this]
      exact Or.inl ⟨e', g1, ⟨up p hp e e' (by omega) g1 h2, g2⟩, fun d hd hpq => g3 d hd hpq.2, rfl⟩
    · have : ¬ nI (L - e') < nI (L - e) := nI_nlt (by omega) (by omega)
      rw [if_neg this]
      exact Or.inl ⟨e, h1, ⟨h2, up q hq e' e (by omega) h1 g2⟩, fun d hd hpq => h3 d hd hpq.1, rfl⟩
  · rw [if_pos (neg _ (by omega))]
    exact Or.inr ⟨fun d hd hpq => g1 d hd hpq.2, rfl⟩
  · rw [if_neg (neg2 _ (by omega))]
    exact Or.inr ⟨fun d hd hpq => h1 d hd hpq.1, rfl⟩
  · rw [if_neg (by decide)]
    exact Or.inr ⟨fun d hd hpq => g1 d hd hpq.2, rfl⟩
