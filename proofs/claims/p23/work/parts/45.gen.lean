-- a new generation; moves
def clampN (x : Int32) : Nat := if x < nI 0 then 0 else if nI 99 < x then 99 else x.toNatClampNeg
theorem clamp3 (x : Int32) : (x < nI 0 ∧ clampN x = 0) ∨ (nI 100 ≤ x ∧ clampN x = 99) ∨ ∃ j, j < 100 ∧ x = nI j ∧ clampN x = j := by
  rcases pk_ix x (n := 100) (by omega) with h | h | ⟨j, h1, h2⟩
  · left
    exact ⟨h, if_pos h⟩
  · right; left
    have h1 : nI 99 < x := Int32.lt_of_lt_of_le (nI_lt (by omega) (by omega)) h
    have h2 : ¬ x < nI 0 := Int32.not_lt.mpr (Int32.le_of_lt (Int32.lt_of_lt_of_le (nI_lt (by omega) (by omega)) h))
    refine ⟨h, ?_⟩
    unfold clampN
    rw [if_neg h2, if_pos h1]
  · right; right
    subst h2
    refine ⟨j, h1, rfl, ?_⟩
    unfold clampN
    simp (disch := omega) only [sI_lt, if_neg, sI_cl]
theorem clamp_le (x : Int32) : clampN x ≤ 99 := by
  rcases clamp3 x with ⟨-, h⟩ | ⟨-, h⟩ | ⟨j, h1, -, h⟩ <;> omega
theorem fnearI (x : Int32) : F_X6_nearestPlace x = some (nI (clampN x)) := by
  unfold F_X6_nearestPlace
  simp only [am_let]
  simp only [li_0, li_1, li_2, li_3, li_4, li_5, li_6, li_7, li_8, li_9, li_10, li_11, li_12, li_13, li_14, li_15, li_16, li_19, li_20, li_21, li_22, li_23, li_32, li_36, li_48, li_50, li_60, li_63, li_74, li_75, li_98, li_99, li_100, li_199, li_200, li_256, li_7919, li_65537, li_1000000, li_1000001, li_10000000, ll_0, ll_1, ll_100, ll_65535]
  rcases clamp3 x with ⟨h1, h⟩ | ⟨h1, h⟩ | ⟨j, h1, h2, h⟩
  · have h2 : x < nI 99 := Int32.lt_trans h1 (nI_lt (by omega) (by omega))
    have h3 : ¬ nI 0 < x := Int32.not_lt.mpr (Int32.le_of_lt h1)
    rw [h, if_pos h2, if_neg h3]
  · have h2 : ¬ x < nI 99 := Int32.not_lt.mpr (Int32.le_of_lt (Int32.lt_of_lt_of_le (nI_lt (by omega) (by omega)) h1))
    rw [h, if_neg h2, if_pos (nI_lt (by omega) (by omega))]
  · rw [h]
    subst h2
    by_cases h3 : j < 99
    · by_cases h4 : 0 < j
      · simp (disch := omega) only [sI_lt, if_pos]
      · have : j = 0 := by omega
        subst this
        rfl
    · have : j = 99 := by omega
      subst this
      rfl
theorem clampM {R : Type} (x : Int32) (k : Int32 → Option R) : (if nI 0 ≤ x then (if x ≤ nI 99 then k x else k (nI 99)) else k (nI 0)) = k (nI (clampN x)) := by
  rcases clamp3 x with ⟨h1, h⟩ | ⟨h1, h⟩ | ⟨j, h1, h2, h⟩
  · rw [h, if_neg (Int32.not_le.mpr h1)]
  · have h2 : nI 0 ≤ x := Int32.le_of_lt (Int32.lt_of_lt_of_le (nI_lt (by omega) (by omega)) h1)
    have h3 : ¬ x ≤ nI 99 := Int32.not_le.mpr (Int32.lt_of_lt_of_le (nI_lt (by omega) (by omega)) h1)
    rw [h, if_pos h2, if_neg h3]
  · subst h2
    rw [h, if_pos (nI_le (Nat.zero_le _) (by omega)), if_pos (nI_le (by omega) (by omega))]
section Gen
variable {N G z th sc of : Nat} {w : Nat → Nat} {pl pa : Nat → Nat → Nat} {s : Nat → Int32} {noi obs res lmany lgens : Int32} {lplf lpaf logf ldrf lspf lscf : Nat → Int32} {wmany : Int32} {wf sf : Nat → Int32}
theorem new_gen (hG : Good N G z th sc of w pl pa s) (hR : Rel N G noi obs res lmany lgens lplf lpaf logf ldrf lspf lscf wmany wf sf s) (hG19 : G < 20) {s' : Nat → Int32} {w' pv qv : Nat → Nat} {z' : Nat} {lplf' lpaf' logf' ldrf' lspf' lscf' wf' : Nat → Int32} (h0 : s' 0 = nI N) (h1 : s' 1 = nI (G + 1)) (h2 : s' 2 = nI z') (hz' : z' < 65537) (hw : ∀ k, k < N → s' (8 + k) = nI (w' k)) (hwb : ∀ k, k < N → w' k ≤ 1000000) (hwS : 0 < sumN w' N) (hp : ∀ k, k < N → s' (340 + 12 * G + k) = nI (pv k)) (hpb : ∀ k, k < N → pv k ≤ 99) (hq : ∀ k, k < N → s' (100 + 12 * G + k) = nI (qv k)) (hqb : ∀ k, k < N → qv k < N)
    (hr : ∀ i, (5 ≤ i ∧ i < 8) ∨ (20 ≤ i ∧ i < 20 + 4 * G) ∨ (100 ≤ i ∧ i < 100 + 12 * G) ∨ (340 ≤ i ∧ i < 340 + 12 * G) → s' i = s i) (hpl : ∀ k, k < N → lplf' (G * 12 + k) = nI (pv k)) (hpl2 : ∀ i, i < G * 12 → lplf' i = lplf i) (hpa : ∀ k, k < N → lpaf' (G * 12 + k) = nI (qv k)) (hpa2 : ∀ i, i < G * 12 → lpaf' i = lpaf i) (hog : logf' G = s' (20 + 4 * G)) (hog2 : ∀ g, g < G → logf' g = logf g) (hdr : s' (20 + 4 * G) = nI 1 → ldrf' G = s' (21 + 4 * G) ∧ lspf' G = s' (22 + 4 * G)) (hdr2 : ∀ g, g < G → ldrf' g = ldrf g ∧ lspf' g = lspf g) (hsc : s' (20 + 4 * G) = nI 2 → lscf' G = s' (23 + 4 * G)) (hsc2 : ∀ g, g < G → lscf' g = lscf g) (hwf : ∀ k, k < N → wf' k = s' (8 + k)) :
    Good N (G + 1) z' th sc of w' (fun g k => if g = G then pv k else pl g k) (fun g k => if g = G then qv k else pa g k) s' ∧ Rel N (G + 1) (s' 2) (s' 3) (s' 4) (nI N) (nI (G + 1)) lplf' lpaf' logf' ldrf' lspf' lscf' (nI N) wf' sf s' := by
  obtain ⟨⟨n0, n1, g0, g1, hz, hth, hsc_, hof⟩, ⟨s0, s1, s2, s5, s6, s7⟩, -, ⟨spl, splb⟩, spa, spab, sp0⟩ := hG
  obtain ⟨⟨r0, r1, r2, r3, r4, r4', r5, r6, r7⟩, rw_, rg, rpl, rpa⟩ := hR
  refine ⟨⟨⟨n0, n1, by omega, by omega, hz', hth, hsc_, hof⟩, ⟨h0, h1, h2, by rw [hr 5 (by omega)]; exact s5, by rw [hr 6 (by omega)]; exact s6, by rw [hr 7 (by omega)]; exact s7⟩, ⟨hw, hwb, hwS⟩, ⟨fun g k hg hk => ?_, fun g k hg hk => ?_⟩, fun g k hg0 hg hk => ?_, fun g k hg0 hg hk => ?_, fun k hk => by rw [hr _ (by omega)]; exact sp0 k hk⟩, ⟨⟨rfl, rfl, rfl, rfl, rfl, rfl, by rw [hr 5 (by omega)]; exact r5, by rw [hr 6 (by omega)]; exact r6, by rw [hr 7 (by omega)]; exact r7⟩, hwf, fun g hg => ?_, fun g k hg hk => ?_, fun g k hg0 hg hk => ?_⟩⟩
  · by_cases h : g = G
    · subst h; simp only [if_true]; exact hp k hk
    · simp only [h, if_false]; rw [hr _ (by omega)]; exact spl g k (by omega) hk
  · by_cases h : g = G
    · subst h; simp only [if_true]; exact hpb k hk
    · simp only [h, if_false]; exact splb g k (by omega) hk
  · by_cases h : g = G
    · subst h; simp only [if_true]; exact hq k hk
    · simp only [h, if_false]; rw [hr _ (by omega)]; exact spa g k hg0 (by omega) hk
  · by_cases h : g = G
    · subst h; simp only [if_true]; exact hqb k hk
    · simp only [h, if_false]; exact spab g k hg0 (by omega) hk
  · by_cases h : g = G
    · subst h; exact ⟨hog, hdr, hsc⟩
    · have hgG : g < G := by omega
      rw [hr _ (by omega), hr _ (by omega), hr _ (by omega), hr _ (by omega), hog2 g hgG, (hdr2 g hgG).1, (hdr2 g hgG).2, hsc2 g hgG]
      exact rg g hgG
  · by_cases h : g = G
    · subst h; rw [hpl k hk, hp k hk]
    · rw [hpl2 _ (by omega), hr _ (by omega)]; exact rpl g k (by omega) hk
  · by_cases h : g = G
    · subst h; rw [hpa k hk, hq k hk]
    · rw [hpa2 _ (by omega), hr _ (by omega)]; exact rpa g k hg0 (by omega) hk
end Gen
theorem fputP {plf paf : Nat → Int32} {G k : Nat} {q v : Int32} (hG : G < 20) (hk : k < 12) : F_X1_putParticle (nI (G + 1)) plf paf (nI k) q v = some (upd plf (G * 12 + k) v, upd paf (G * 12 + k) q) := by
  unfold F_X1_putParticle
  rw [flateC (by omega)]
  simp only [am_let]
  have e : G + 1 - 1 = G := by omega
  simp (disch := omega) only [li_0, li_1, li_2, li_3, li_4, li_5, li_6, li_7, li_8, li_9, li_10, li_11, li_12, li_13, li_14, li_15, li_16, li_19, li_20, li_21, li_22, li_23, li_32, li_36, li_48, li_50, li_60, li_63, li_74, li_75, li_98, li_99, li_100, li_199, li_200, li_256, li_7919, li_65537, li_1000000, li_1000001, li_10000000, ll_0, ll_1, ll_100, ll_65535, Option.bind_some, e, sI_mul, sI_add, fput (n := 240) (i := G * 12 + k) (by omega) (by omega)]
