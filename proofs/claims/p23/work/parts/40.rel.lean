-- a state of the class beside the model's row; what both tell of it
def Good (N G z th sc of : Nat) (w : Nat → Nat) (pl pa : Nat → Nat → Nat) (s : Nat → Int32) : Prop :=
  (0 < N ∧ N ≤ 12 ∧ 1 ≤ G ∧ G ≤ 20 ∧ z < 65537 ∧ th ≤ 12 ∧ sc ≤ 2 ∧ of ≤ 99) ∧ (s 0 = nI N ∧ s 1 = nI G ∧ s 2 = nI z ∧ s 5 = nI th ∧ s 6 = nI sc ∧ s 7 = nI of) ∧
  ((∀ k, k < N → s (8 + k) = nI (w k)) ∧ (∀ k, k < N → w k ≤ 1000000) ∧ 0 < sumN w N) ∧
  ((∀ g k, g < G → k < N → s (340 + 12 * g + k) = nI (pl g k)) ∧ ∀ g k, g < G → k < N → pl g k ≤ 99) ∧
  ((∀ g k, 0 < g → g < G → k < N → s (100 + 12 * g + k) = nI (pa g k)) ∧ (∀ g k, 0 < g → g < G → k < N → pa g k < N) ∧ ∀ k, k < N → s (100 + k) = -1000004)
def Rel (N G : Nat) (noi obs res lmany lgens : Int32) (lplf lpaf logf ldrf lspf lscf : Nat → Int32) (wmany : Int32) (wf sf s : Nat → Int32) : Prop :=
  (lmany = nI N ∧ lgens = nI G ∧ wmany = nI N ∧ noi = s 2 ∧ obs = s 3 ∧ res = s 4 ∧ sf 0 = s 5 ∧ sf 1 = s 6 ∧ sf 2 = s 7) ∧
  (∀ k, k < N → wf k = s (8 + k)) ∧
  (∀ g, g < G → logf g = s (20 + 4 * g) ∧ (s (20 + 4 * g) = nI 1 → ldrf g = s (21 + 4 * g) ∧ lspf g = s (22 + 4 * g)) ∧ (s (20 + 4 * g) = nI 2 → lscf g = s (23 + 4 * g))) ∧
  (∀ g k, g < G → k < N → lplf (g * 12 + k) = s (340 + 12 * g + k)) ∧
  (∀ g k, 0 < g → g < G → k < N → lpaf (g * 12 + k) = s (100 + 12 * g + k))
theorem inN (v : Int32) {a b : Nat} (ha : a < 2147483648) (hb : b < 2147483648) : (∃ j, a ≤ j ∧ j ≤ b ∧ v = nI j ∧ F_X6_isWithin v (nI a) (nI b) = some (nI 1)) ∨ ((∀ j, a ≤ j → j ≤ b → ¬ v = nI j) ∧ F_X6_isWithin v (nI a) (nI b) = some (nI 0)) := by
  unfold F_X6_isWithin
  by_cases h1 : v < nI a
  · right
    refine ⟨fun j h2 h3 h4 => ?_, by rw [if_pos h1]; rfl⟩
    subst h4
    rw [sI_lt (by omega) (by omega)] at h1
    omega
  · by_cases h2 : nI b < v
    · right
      refine ⟨fun j h3 h4 h5 => ?_, by rw [if_neg h1, if_pos h2]; rfl⟩
      subst h5
      rw [sI_lt (by omega) (by omega)] at h2
      omega
    · left
      obtain ⟨j, h3, h4, h5⟩ := rng ha hb (Int32.not_lt.mp h1) (Int32.not_lt.mp h2)
      exact ⟨j, h3, h4, h5, by rw [if_neg h1, if_neg h2]; rfl⟩
theorem isW01 (v a b : Int32) : F_X6_isWithin v a b = some (nI 1) ∨ F_X6_isWithin v a b = some (nI 0) := by
  unfold F_X6_isWithin
  by_cases h1 : v < a
  · right; rw [if_pos h1]; rfl
  · by_cases h2 : b < v
    · right; rw [if_neg h1, if_pos h2]; rfl
    · left; rw [if_neg h1, if_neg h2]; rfl
theorem am_bool1 {R : Type} {k : Option R} : am_bool (nI 1) k = k := rfl
theorem am_bool0 {R : Type} {k : Option R} : am_bool (nI 0) k = k := rfl
section Tell
variable {N G z th sc of : Nat} {w : Nat → Nat} {pl pa : Nat → Nat → Nat} {s : Nat → Int32} {noi obs res lmany lgens : Int32} {lplf lpaf logf ldrf lspf lscf : Nat → Int32} {wmany : Int32} {wf sf : Nat → Int32}
end Tell

