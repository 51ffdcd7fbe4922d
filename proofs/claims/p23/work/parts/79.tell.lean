-- what the class tells, explicit; loops of four and five (printed by gen79.py)
theorem for4L {A1 A2 A3 R : Type} {b : (A1 → A2 → A3 → Int32 → Option R) → A1 → A2 → A3 → Int32 → Option R} (ix : Nat → Int32) (N : Nat) (I : Nat → A1 → A2 → A3 → Prop) (X : A1 → A2 → A3 → Option R) (hs : ∀ (rec : A1 → A2 → A3 → Int32 → Option R) (x1 : A1) (x2 : A2) (x3 : A3) (j : Nat), j < N → I j x1 x2 x3 → ∃ (y1 : A1) (y2 : A2) (y3 : A3), I (j + 1) y1 y2 y3 ∧ b rec x1 x2 x3 (ix j) = rec y1 y2 y3 (ix (j + 1))) (he : ∀ (rec : A1 → A2 → A3 → Int32 → Option R) (x1 : A1) (x2 : A2) (x3 : A3), I N x1 x2 x3 → b rec x1 x2 x3 (ix N) = X x1 x2 x3) (j0 : Nat) (hj0 : j0 ≤ N) (n : Nat) (hn : N < n + j0) (x1 : A1) (x2 : A2) (x3 : A3) (h0 : I j0 x1 x2 x3) : ∃ (y1 : A1) (y2 : A2) (y3 : A3), I N y1 y2 y3 ∧ am_loop4 b n x1 x2 x3 (ix j0) = X y1 y2 y3 := by
  have key : ∀ (d j n : Nat), j + d = N → d < n → ∀ (x1 : A1) (x2 : A2) (x3 : A3), I j x1 x2 x3 → ∃ (y1 : A1) (y2 : A2) (y3 : A3), I N y1 y2 y3 ∧ am_loop4 b n x1 x2 x3 (ix j) = X y1 y2 y3 := by
    intro d
    induction d with
    | zero =>
      intro j n hj hn x1 x2 x3 hI
      obtain ⟨n, rfl⟩ : ∃ m, n = m + 1 := ⟨n - 1, by omega⟩
      have : j = N := by omega
      subst this
      exact ⟨x1, x2, x3, hI, he _ x1 x2 x3 hI⟩
    | succ d ih =>
      intro j n hj hn x1 x2 x3 hI
      obtain ⟨n, rfl⟩ : ∃ m, n = m + 1 := ⟨n - 1, by omega⟩
      obtain ⟨y1, y2, y3, h1, h2⟩ := hs (am_loop4 b n) x1 x2 x3 j (by omega) hI
      obtain ⟨z1, z2, z3, h3, h4⟩ := ih (j + 1) n (by omega) (by omega) y1 y2 y3 h1
      exact ⟨z1, z2, z3, h3, h2.trans h4⟩
  exact key (N - j0) j0 n (by omega) (by omega) x1 x2 x3 h0
theorem for5L {A1 A2 A3 A4 R : Type} {b : (A1 → A2 → A3 → A4 → Int32 → Option R) → A1 → A2 → A3 → A4 → Int32 → Option R} (ix : Nat → Int32) (N : Nat) (I : Nat → A1 → A2 → A3 → A4 → Prop) (X : A1 → A2 → A3 → A4 → Option R) (hs : ∀ (rec : A1 → A2 → A3 → A4 → Int32 → Option R) (x1 : A1) (x2 : A2) (x3 : A3) (x4 : A4) (j : Nat), j < N → I j x1 x2 x3 x4 → ∃ (y1 : A1) (y2 : A2) (y3 : A3) (y4 : A4), I (j + 1) y1 y2 y3 y4 ∧ b rec x1 x2 x3 x4 (ix j) = rec y1 y2 y3 y4 (ix (j + 1))) (he : ∀ (rec : A1 → A2 → A3 → A4 → Int32 → Option R) (x1 : A1) (x2 : A2) (x3 : A3) (x4 : A4), I N x1 x2 x3 x4 → b rec x1 x2 x3 x4 (ix N) = X x1 x2 x3 x4) (j0 : Nat) (hj0 : j0 ≤ N) (n : Nat) (hn : N < n + j0) (x1 : A1) (x2 : A2) (x3 : A3) (x4 : A4) (h0 : I j0 x1 x2 x3 x4) : ∃ (y1 : A1) (y2 : A2) (y3 : A3) (y4 : A4), I N y1 y2 y3 y4 ∧ am_loop5 b n x1 x2 x3 x4 (ix j0) = X y1 y2 y3 y4 := by
  have key : ∀ (d j n : Nat), j + d = N → d < n → ∀ (x1 : A1) (x2 : A2) (x3 : A3) (x4 : A4), I j x1 x2 x3 x4 → ∃ (y1 : A1) (y2 : A2) (y3 : A3) (y4 : A4), I N y1 y2 y3 y4 ∧ am_loop5 b n x1 x2 x3 x4 (ix j) = X y1 y2 y3 y4 := by
    intro d
    induction d with
    | zero =>
      intro j n hj hn x1 x2 x3 x4 hI
      obtain ⟨n, rfl⟩ : ∃ m, n = m + 1 := ⟨n - 1, by omega⟩
      have : j = N := by omega
      subst this
      exact ⟨x1, x2, x3, x4, hI, he _ x1 x2 x3 x4 hI⟩
    | succ d ih =>
      intro j n hj hn x1 x2 x3 x4 hI
      obtain ⟨n, rfl⟩ : ∃ m, n = m + 1 := ⟨n - 1, by omega⟩
      obtain ⟨y1, y2, y3, y4, h1, h2⟩ := hs (am_loop5 b n) x1 x2 x3 x4 j (by omega) hI
      obtain ⟨z1, z2, z3, z4, h3, h4⟩ := ih (j + 1) n (by omega) (by omega) y1 y2 y3 y4 h1
      exact ⟨z1, z2, z3, z4, h3, h2.trans h4⟩
  exact key (N - j0) j0 n (by omega) (by omega) x1 x2 x3 x4 h0
theorem hasPN {N : Nat} (n0 : 0 < N) (n1 : N ≤ 12) : F_X4_hasParticle (nI N) (nI N) = some (nI 0) := by
  have e : nI N - nI 1 = nI (N - 1) := sI_sub (by omega)
  unfold F_X4_hasParticle F_X1_many F_X6_isWithin
  rw [Option.bind_some, li_1, li_0, e, if_neg (by rw [sI_lt (by omega) (by omega)]; omega), if_pos (by rw [sI_lt (by omega) (by omega)]; omega)]
  rfl
theorem hasGC {h G : Nat} (hh : h < G) (g1 : G ≤ 20) : F_X4_hasGeneration (nI G) (nI h) = some (nI 1) := by
  have d := inW (j := h) (a := 0) (b := G - 1) (Nat.zero_le _) (by omega) (by omega)
  unfold F_X4_hasGeneration
  rw [flateC (by omega), Option.bind_some, li_0, d]
  rfl
theorem hasGN {G : Nat} (g0 : 1 ≤ G) (g1 : G ≤ 20) : F_X4_hasGeneration (nI G) (nI G) = some (nI 0) := by
  unfold F_X4_hasGeneration F_X6_isWithin
  rw [flateC (by omega), Option.bind_some, li_0, if_neg (by rw [sI_lt (by omega) (by omega)]; omega), if_pos (by rw [sI_lt (by omega) (by omega)]; omega)]
  rfl
def likeN (p : Nat → Nat) (k N : Nat) : Nat := cntN (fun i => decide (p i = p k)) N
section Tell3
variable {N G z th sc of : Nat} {wn : Nat → Nat} {pl pa : Nat → Nat → Nat} {g w q : Nat → Int32} {c : Nat → Int64} {v : Nat → Int32} {f : Nat → Nat → Int32}
theorem t_part (hL : LSt N G z th sc of wn pl pa g w c) (hR : RlS N G g w q pl pa v f) {k : Nat} (hk : k < N) :
    F_X6_particleOf (v 3) (v 4) (f 0) (f 1) (v 5) (f 6) (nI k) (nI 0) = some (nI (pl (G - 1) k)) ∧
    F_X6_particleOf (v 3) (v 4) (f 0) (f 1) (v 5) (f 6) (nI k) (nI 1) = some (nI (wn k)) ∧
    F_X6_particleOf (v 3) (v 4) (f 0) (f 1) (v 5) (f 6) (nI k) (nI 2) = some (if G = 1 then -1000004 else nI (pa (G - 1) k)) ∧
    F_X6_particleOf (v 3) (v 4) (f 0) (f 1) (v 5) (f 6) (nI k) (nI 3) = some (nI (likeN (pl (G - 1)) k N)) ∧
    F_X6_particleOf (v 3) (v 4) (f 0) (f 1) (v 5) (f 6) (nI k) (nI 4) = some (nI (wn k / Nat.gcd (wn k) (sumN wn N))) ∧
    F_X6_particleOf (v 3) (v 4) (f 0) (f 1) (v 5) (f 6) (nI k) (nI 5) = some (nI (sumN wn N / Nat.gcd (wn k) (sumN wn N))) ∧
    F_X6_particleOf (v 3) (v 4) (f 0) (f 1) (v 5) (f 6) (nI k) (nI 6) = some (nI (cntN (aheadB wn k) N)) ∧
    F_X6_particleOf (v 3) (v 4) (f 0) (f 1) (v 5) (f 6) (nI k) (nI 7) = some (-1000001) := by
  obtain ⟨⟨n0, n1, g0, g1, hz, hth, hsc, hof⟩, -, ⟨sw, swb, sS⟩, ⟨splb, spab⟩, -⟩ := hL
  obtain ⟨⟨r3, r4, r5, r0, r1, r2, t0, t1, t2⟩, hw, hq, hpl, hpa⟩ := hR
  have hS2 := (sq_le n1 swb).1
  have hwf : ∀ k, k < N → f 6 k = nI (wn k) := fun k hk => (hw k hk).trans (sw k hk)
  have hwb : ∀ k, k < N → wn k < 2147483648 := fun k hk => by have := swb k hk; omega
  rw [r3, r4, r5]
  have base : ∀ (j : Nat) (X : Int32), j ≤ 6 → F_X4_tellOfParticle (nI N) (nI G) (f 0) (f 1) (nI N) (f 6) (nI k) (nI j) = some X → F_X6_particleOf (nI N) (nI G) (f 0) (f 1) (nI N) (f 6) (nI k) (nI j) = some X := by
    intro j X hj hX
    unfold F_X6_particleOf
    rw [hasPC hk n1, Option.bind_some, if_neg nI10, show F_X6_isWithin (nI j) (0 : Int32) (6 : Int32) = some (nI 1) from inW (a := 0) (b := 6) (Nat.zero_le _) hj (by omega), Option.bind_some, if_neg nI10, hX, Option.bind_some]
  have e1 : F_X1_placeIn (f 0) (nI (G - 1)) (nI k) = some (nI (pl (G - 1) k)) := by rw [fplaceC (by omega) (by omega), hpl _ _ (by omega) hk]
  have e3 : F_X5_weightOf (f 6) (nI k) = some (nI (wn k)) := by rw [fweightOf (by omega), hwf k hk]
  have hwi := hwb k hk
  refine ⟨base 0 _ (by omega) ?_, base 1 _ (by omega) ?_, base 2 _ (by omega) ?_, base 3 _ (by omega) ?_, base 4 _ (by omega) ?_, base 5 _ (by omega) ?_, base 6 _ (by omega) ?_, ?_⟩
  · unfold F_X4_tellOfParticle
    simp (disch := omega) only [if_true, if_false, am_in_n, am_nz_n, am_nzl_n, sI_add, sI_mul, sI_cl, sI_le, sI_lt, sI_eq, sI_l, lN_add, lN_mul, lN_i, sg_gt, sg_le, sg_eq, sg_ge, sI_rem, sI_div, sI_rem2, sL_rem, sL_div, sL_rem2, sI_sub, sI_m1, sI_m1n, sI_or, if_pos, if_neg, Option.bind_some, am_call2_e, am_call3_e, am_call4_e, am_call5_e, am_call6_e, am_call7_e, am_call8_e, am_call9_e, am_call10_e, am_call11_e, am_call12_e, am_call13_e, am_call14_e, li_0, li_1, li_2, li_3, li_4, li_5, li_6, li_7, li_8, li_9, li_10, li_11, li_12, li_13, li_14, li_15, li_16, li_19, li_20, li_21, li_22, li_23, li_32, li_36, li_48, li_50, li_60, li_63, li_74, li_75, li_98, li_99, li_100, li_199, li_200, li_256, li_7919, li_65537, li_1000000, li_1000001, li_10000000, ll_0, ll_1, ll_100, ll_65535, flateC g0, e1, e3]
  · unfold F_X4_tellOfParticle
    simp (disch := omega) only [if_true, if_false, am_in_n, am_nz_n, am_nzl_n, sI_add, sI_mul, sI_cl, sI_le, sI_lt, sI_eq, sI_l, lN_add, lN_mul, lN_i, sg_gt, sg_le, sg_eq, sg_ge, sI_rem, sI_div, sI_rem2, sL_rem, sL_div, sL_rem2, sI_sub, sI_m1, sI_m1n, sI_or, if_pos, if_neg, Option.bind_some, am_call2_e, am_call3_e, am_call4_e, am_call5_e, am_call6_e, am_call7_e, am_call8_e, am_call9_e, am_call10_e, am_call11_e, am_call12_e, am_call13_e, am_call14_e, li_0, li_1, li_2, li_3, li_4, li_5, li_6, li_7, li_8, li_9, li_10, li_11, li_12, li_13, li_14, li_15, li_16, li_19, li_20, li_21, li_22, li_23, li_32, li_36, li_48, li_50, li_60, li_63, li_74, li_75, li_98, li_99, li_100, li_199, li_200, li_256, li_7919, li_65537, li_1000000, li_1000001, li_10000000, ll_0, ll_1, ll_100, ll_65535, flateC g0, e1, e3]
  · unfold F_X4_tellOfParticle
    by_cases hg1 : G = 1
    · subst hg1
      simp (disch := omega) only [if_true, if_false, am_in_n, am_nz_n, am_nzl_n, sI_add, sI_mul, sI_cl, sI_le, sI_lt, sI_eq, sI_l, lN_add, lN_mul, lN_i, sg_gt, sg_le, sg_eq, sg_ge, sI_rem, sI_div, sI_rem2, sL_rem, sL_div, sL_rem2, sI_sub, sI_m1, sI_m1n, sI_or, if_pos, if_neg, Option.bind_some, am_call2_e, am_call3_e, am_call4_e, am_call5_e, am_call6_e, am_call7_e, am_call8_e, am_call9_e, am_call10_e, am_call11_e, am_call12_e, am_call13_e, am_call14_e, li_0, li_1, li_2, li_3, li_4, li_5, li_6, li_7, li_8, li_9, li_10, li_11, li_12, li_13, li_14, li_15, li_16, li_19, li_20, li_21, li_22, li_23, li_32, li_36, li_48, li_50, li_60, li_63, li_74, li_75, li_98, li_99, li_100, li_199, li_200, li_256, li_7919, li_65537, li_1000000, li_1000001, li_10000000, ll_0, ll_1, ll_100, ll_65535, flateC g0, e1, e3]
    · have e4 : F_X1_parentIn (f 1) (nI (G - 1)) (nI k) = some (nI (pa (G - 1) k)) := by rw [fparC (by omega) (by omega), hpa _ _ (by omega) (by omega) hk]
      rw [if_neg hg1]
      simp (disch := omega) only [if_true, if_false, am_in_n, am_nz_n, am_nzl_n, sI_add, sI_mul, sI_cl, sI_le, sI_lt, sI_eq, sI_l, lN_add, lN_mul, lN_i, sg_gt, sg_le, sg_eq, sg_ge, sI_rem, sI_div, sI_rem2, sL_rem, sL_div, sL_rem2, sI_sub, sI_m1, sI_m1n, sI_or, if_pos, if_neg, Option.bind_some, am_call2_e, am_call3_e, am_call4_e, am_call5_e, am_call6_e, am_call7_e, am_call8_e, am_call9_e, am_call10_e, am_call11_e, am_call12_e, am_call13_e, am_call14_e, li_0, li_1, li_2, li_3, li_4, li_5, li_6, li_7, li_8, li_9, li_10, li_11, li_12, li_13, li_14, li_15, li_16, li_19, li_20, li_21, li_22, li_23, li_32, li_36, li_48, li_50, li_60, li_63, li_74, li_75, li_98, li_99, li_100, li_199, li_200, li_256, li_7919, li_65537, li_1000000, li_1000001, li_10000000, ll_0, ll_1, ll_100, ll_65535, flateC g0, e1, e3, e4]
  · unfold F_X4_tellOfParticle
    have e4 := flikeC (f := f 0) (N := N) (g := G - 1) (nI (pl (G - 1) k)) n1 (by omega)
    have e6 : cntN (fun i => decide (f 0 ((G - 1) * 12 + i) = nI (pl (G - 1) k))) N = likeN (pl (G - 1)) k N := by
      apply cntN_congr
      intro i hi
      have h1 := splb (G - 1) i (by omega) hi
      have h2 := splb (G - 1) k (by omega) hk
      rw [hpl _ _ (by omega) hi]
      exact decide_eq_decide.mpr (nI_eq (by omega) (by omega))
    rw [e6] at e4
    simp (disch := omega) only [if_true, if_false, am_in_n, am_nz_n, am_nzl_n, sI_add, sI_mul, sI_cl, sI_le, sI_lt, sI_eq, sI_l, lN_add, lN_mul, lN_i, sg_gt, sg_le, sg_eq, sg_ge, sI_rem, sI_div, sI_rem2, sL_rem, sL_div, sL_rem2, sI_sub, sI_m1, sI_m1n, sI_or, if_pos, if_neg, Option.bind_some, am_call2_e, am_call3_e, am_call4_e, am_call5_e, am_call6_e, am_call7_e, am_call8_e, am_call9_e, am_call10_e, am_call11_e, am_call12_e, am_call13_e, am_call14_e, li_0, li_1, li_2, li_3, li_4, li_5, li_6, li_7, li_8, li_9, li_10, li_11, li_12, li_13, li_14, li_15, li_16, li_19, li_20, li_21, li_22, li_23, li_32, li_36, li_48, li_50, li_60, li_63, li_74, li_75, li_98, li_99, li_100, li_199, li_200, li_256, li_7919, li_65537, li_1000000, li_1000001, li_10000000, ll_0, ll_1, ll_100, ll_65535, flateC g0, e1, e3, e4]
  · unfold F_X4_tellOfParticle
    have e4 := fsumC n1 hwf hwb
    have e6 := fpartC (wn k) (sumN wn N) hwi sS (by omega) (nI 0)
    simp (disch := omega) only [if_true, if_false, am_in_n, am_nz_n, am_nzl_n, sI_add, sI_mul, sI_cl, sI_le, sI_lt, sI_eq, sI_l, lN_add, lN_mul, lN_i, sg_gt, sg_le, sg_eq, sg_ge, sI_rem, sI_div, sI_rem2, sL_rem, sL_div, sL_rem2, sI_sub, sI_m1, sI_m1n, sI_or, if_pos, if_neg, Option.bind_some, am_call2_e, am_call3_e, am_call4_e, am_call5_e, am_call6_e, am_call7_e, am_call8_e, am_call9_e, am_call10_e, am_call11_e, am_call12_e, am_call13_e, am_call14_e, li_0, li_1, li_2, li_3, li_4, li_5, li_6, li_7, li_8, li_9, li_10, li_11, li_12, li_13, li_14, li_15, li_16, li_19, li_20, li_21, li_22, li_23, li_32, li_36, li_48, li_50, li_60, li_63, li_74, li_75, li_98, li_99, li_100, li_199, li_200, li_256, li_7919, li_65537, li_1000000, li_1000001, li_10000000, ll_0, ll_1, ll_100, ll_65535, flateC g0, e1, e3, e4, e6]
  · unfold F_X4_tellOfParticle
    have e4 := fsumC n1 hwf hwb
    have e6 := fpartC (wn k) (sumN wn N) hwi sS (by omega) (nI 1)
    simp (disch := omega) only [if_true, if_false, am_in_n, am_nz_n, am_nzl_n, sI_add, sI_mul, sI_cl, sI_le, sI_lt, sI_eq, sI_l, lN_add, lN_mul, lN_i, sg_gt, sg_le, sg_eq, sg_ge, sI_rem, sI_div, sI_rem2, sL_rem, sL_div, sL_rem2, sI_sub, sI_m1, sI_m1n, sI_or, if_pos, if_neg, Option.bind_some, am_call2_e, am_call3_e, am_call4_e, am_call5_e, am_call6_e, am_call7_e, am_call8_e, am_call9_e, am_call10_e, am_call11_e, am_call12_e, am_call13_e, am_call14_e, li_0, li_1, li_2, li_3, li_4, li_5, li_6, li_7, li_8, li_9, li_10, li_11, li_12, li_13, li_14, li_15, li_16, li_19, li_20, li_21, li_22, li_23, li_32, li_36, li_48, li_50, li_60, li_63, li_74, li_75, li_98, li_99, li_100, li_199, li_200, li_256, li_7919, li_65537, li_1000000, li_1000001, li_10000000, ll_0, ll_1, ll_100, ll_65535, flateC g0, e1, e3, e4, e6]
  · unfold F_X4_tellOfParticle
    have e4 := frankC n1 hk hwf hwb
    simp (disch := omega) only [if_true, if_false, am_in_n, am_nz_n, am_nzl_n, sI_add, sI_mul, sI_cl, sI_le, sI_lt, sI_eq, sI_l, lN_add, lN_mul, lN_i, sg_gt, sg_le, sg_eq, sg_ge, sI_rem, sI_div, sI_rem2, sL_rem, sL_div, sL_rem2, sI_sub, sI_m1, sI_m1n, sI_or, if_pos, if_neg, Option.bind_some, am_call2_e, am_call3_e, am_call4_e, am_call5_e, am_call6_e, am_call7_e, am_call8_e, am_call9_e, am_call10_e, am_call11_e, am_call12_e, am_call13_e, am_call14_e, li_0, li_1, li_2, li_3, li_4, li_5, li_6, li_7, li_8, li_9, li_10, li_11, li_12, li_13, li_14, li_15, li_16, li_19, li_20, li_21, li_22, li_23, li_32, li_36, li_48, li_50, li_60, li_63, li_74, li_75, li_98, li_99, li_100, li_199, li_200, li_256, li_7919, li_65537, li_1000000, li_1000001, li_10000000, ll_0, ll_1, ll_100, ll_65535, flateC g0, e1, e3, e4]
  · unfold F_X6_particleOf
    rw [hasPC hk n1, Option.bind_some, if_neg nI10, show F_X6_isWithin (nI 7) (0 : Int32) (6 : Int32) = some (nI 0) from rfl, Option.bind_some, if_pos nI00]
theorem t_partN (hL : LSt N G z th sc of wn pl pa g w c) (hR : RlS N G g w q pl pa v f) : F_X6_particleOf (v 3) (v 4) (f 0) (f 1) (v 5) (f 6) (nI N) (nI 0) = some (-1000001) := by
  obtain ⟨⟨n0, n1, -⟩, -⟩ := hL
  rw [hR.1.1]
  unfold F_X6_particleOf
  rw [hasPN n0 n1, Option.bind_some, if_pos nI00]
theorem t_gen (hL : LSt N G z th sc of wn pl pa g w c) (hR : RlS N G g w q pl pa v f) {h : Nat} (hh : h < G) :
    F_X6_generationOf (v 3) (v 4) (f 0) (f 1) (f 2) (f 3) (f 4) (f 5) (nI h) (nI 0) = some (q (3 * h)) ∧
    F_X6_generationOf (v 3) (v 4) (f 0) (f 1) (f 2) (f 3) (f 4) (f 5) (nI h) (nI 1) = some (if q (3 * h) = nI 1 then q (3 * h + 1) + nI 100 else -1000004) ∧
    F_X6_generationOf (v 3) (v 4) (f 0) (f 1) (f 2) (f 3) (f 4) (f 5) (nI h) (nI 2) = some (if q (3 * h) = nI 1 then q (3 * h + 2) else -1000004) ∧
    F_X6_generationOf (v 3) (v 4) (f 0) (f 1) (f 2) (f 3) (f 4) (f 5) (nI h) (nI 3) = some (if q (3 * h) = nI 2 then q (3 * h + 2) else -1000004) ∧
    F_X6_generationOf (v 3) (v 4) (f 0) (f 1) (f 2) (f 3) (f 4) (f 5) (nI h) (nI 6) = some (-1000001) := by
  obtain ⟨⟨n0, n1, g0, g1, -⟩, -⟩ := hL
  obtain ⟨⟨r3, r4, r5, r0, r1, r2, t0, t1, t2⟩, hw, hq, hpl, hpa⟩ := hR
  obtain ⟨o1, o2, o3⟩ := hq h hh
  rw [r3, r4]
  have base : ∀ (j : Nat) (X : Int32), j ≤ 5 → F_X4_tellOfGeneration (nI N) (nI G) (f 0) (f 1) (f 2) (f 3) (f 4) (f 5) (nI h) (nI j) = some X → F_X6_generationOf (nI N) (nI G) (f 0) (f 1) (f 2) (f 3) (f 4) (f 5) (nI h) (nI j) = some X := by
    intro j X hj hX
    unfold F_X6_generationOf
    rw [hasGC hh g1, Option.bind_some, if_neg nI10, show F_X6_isWithin (nI j) (0 : Int32) (5 : Int32) = some (nI 1) from inW (a := 0) (b := 5) (Nat.zero_le _) hj (by omega), Option.bind_some, if_neg nI10, hX, Option.bind_some]
  have e0 : F_X1_originOf (f 2) (nI h) = some (q (3 * h)) := by
    unfold F_X1_originOf
    simp (disch := omega) only [if_true, if_false, am_in_n, am_nz_n, am_nzl_n, sI_add, sI_mul, sI_cl, sI_le, sI_lt, sI_eq, sI_l, lN_add, lN_mul, lN_i, sg_gt, sg_le, sg_eq, sg_ge, sI_rem, sI_div, sI_rem2, sL_rem, sL_div, sL_rem2, sI_sub, sI_m1, sI_m1n, sI_or, if_pos, if_neg, Option.bind_some, am_call2_e, am_call3_e, am_call4_e, am_call5_e, am_call6_e, am_call7_e, am_call8_e, am_call9_e, am_call10_e, am_call11_e, am_call12_e, am_call13_e, am_call14_e, li_0, li_1, li_2, li_3, li_4, li_5, li_6, li_7, li_8, li_9, li_10, li_11, li_12, li_13, li_14, li_15, li_16, li_19, li_20, li_21, li_22, li_23, li_32, li_36, li_48, li_50, li_60, li_63, li_74, li_75, li_98, li_99, li_100, li_199, li_200, li_256, li_7919, li_65537, li_1000000, li_1000001, li_10000000, ll_0, ll_1, ll_100, ll_65535, fat (n := 20) (i := h) (f := f 2) (by omega) (by omega), o1]
  have e1 : F_X1_driftOf (f 3) (nI h) = some (f 3 h) := by
    unfold F_X1_driftOf
    simp (disch := omega) only [if_true, if_false, am_in_n, am_nz_n, am_nzl_n, sI_add, sI_mul, sI_cl, sI_le, sI_lt, sI_eq, sI_l, lN_add, lN_mul, lN_i, sg_gt, sg_le, sg_eq, sg_ge, sI_rem, sI_div, sI_rem2, sL_rem, sL_div, sL_rem2, sI_sub, sI_m1, sI_m1n, sI_or, if_pos, if_neg, Option.bind_some, am_call2_e, am_call3_e, am_call4_e, am_call5_e, am_call6_e, am_call7_e, am_call8_e, am_call9_e, am_call10_e, am_call11_e, am_call12_e, am_call13_e, am_call14_e, li_0, li_1, li_2, li_3, li_4, li_5, li_6, li_7, li_8, li_9, li_10, li_11, li_12, li_13, li_14, li_15, li_16, li_19, li_20, li_21, li_22, li_23, li_32, li_36, li_48, li_50, li_60, li_63, li_74, li_75, li_98, li_99, li_100, li_199, li_200, li_256, li_7919, li_65537, li_1000000, li_1000001, li_10000000, ll_0, ll_1, ll_100, ll_65535, fat (n := 20) (i := h) (f := f 3) (by omega) (by omega)]
  have e2 : F_X1_spreadOf (f 4) (nI h) = some (f 4 h) := by
    unfold F_X1_spreadOf
    simp (disch := omega) only [if_true, if_false, am_in_n, am_nz_n, am_nzl_n, sI_add, sI_mul, sI_cl, sI_le, sI_lt, sI_eq, sI_l, lN_add, lN_mul, lN_i, sg_gt, sg_le, sg_eq, sg_ge, sI_rem, sI_div, sI_rem2, sL_rem, sL_div, sL_rem2, sI_sub, sI_m1, sI_m1n, sI_or, if_pos, if_neg, Option.bind_some, am_call2_e, am_call3_e, am_call4_e, am_call5_e, am_call6_e, am_call7_e, am_call8_e, am_call9_e, am_call10_e, am_call11_e, am_call12_e, am_call13_e, am_call14_e, li_0, li_1, li_2, li_3, li_4, li_5, li_6, li_7, li_8, li_9, li_10, li_11, li_12, li_13, li_14, li_15, li_16, li_19, li_20, li_21, li_22, li_23, li_32, li_36, li_48, li_50, li_60, li_63, li_74, li_75, li_98, li_99, li_100, li_199, li_200, li_256, li_7919, li_65537, li_1000000, li_1000001, li_10000000, ll_0, ll_1, ll_100, ll_65535, fat (n := 20) (i := h) (f := f 4) (by omega) (by omega)]
  have e3 : F_X1_schemeOf (f 5) (nI h) = some (f 5 h) := by
    unfold F_X1_schemeOf
    simp (disch := omega) only [if_true, if_false, am_in_n, am_nz_n, am_nzl_n, sI_add, sI_mul, sI_cl, sI_le, sI_lt, sI_eq, sI_l, lN_add, lN_mul, lN_i, sg_gt, sg_le, sg_eq, sg_ge, sI_rem, sI_div, sI_rem2, sL_rem, sL_div, sL_rem2, sI_sub, sI_m1, sI_m1n, sI_or, if_pos, if_neg, Option.bind_some, am_call2_e, am_call3_e, am_call4_e, am_call5_e, am_call6_e, am_call7_e, am_call8_e, am_call9_e, am_call10_e, am_call11_e, am_call12_e, am_call13_e, am_call14_e, li_0, li_1, li_2, li_3, li_4, li_5, li_6, li_7, li_8, li_9, li_10, li_11, li_12, li_13, li_14, li_15, li_16, li_19, li_20, li_21, li_22, li_23, li_32, li_36, li_48, li_50, li_60, li_63, li_74, li_75, li_98, li_99, li_100, li_199, li_200, li_256, li_7919, li_65537, li_1000000, li_1000001, li_10000000, ll_0, ll_1, ll_100, ll_65535, fat (n := 20) (i := h) (f := f 5) (by omega) (by omega)]
  refine ⟨base 0 _ (by omega) ?_, base 1 _ (by omega) ?_, base 2 _ (by omega) ?_, base 3 _ (by omega) ?_, ?_⟩
  · unfold F_X4_tellOfGeneration
    simp (disch := omega) only [if_true, if_false, am_in_n, am_nz_n, am_nzl_n, sI_add, sI_mul, sI_cl, sI_le, sI_lt, sI_eq, sI_l, lN_add, lN_mul, lN_i, sg_gt, sg_le, sg_eq, sg_ge, sI_rem, sI_div, sI_rem2, sL_rem, sL_div, sL_rem2, sI_sub, sI_m1, sI_m1n, sI_or, if_pos, if_neg, Option.bind_some, am_call2_e, am_call3_e, am_call4_e, am_call5_e, am_call6_e, am_call7_e, am_call8_e, am_call9_e, am_call10_e, am_call11_e, am_call12_e, am_call13_e, am_call14_e, li_0, li_1, li_2, li_3, li_4, li_5, li_6, li_7, li_8, li_9, li_10, li_11, li_12, li_13, li_14, li_15, li_16, li_19, li_20, li_21, li_22, li_23, li_32, li_36, li_48, li_50, li_60, li_63, li_74, li_75, li_98, li_99, li_100, li_199, li_200, li_256, li_7919, li_65537, li_1000000, li_1000001, li_10000000, ll_0, ll_1, ll_100, ll_65535, e0]
  · unfold F_X4_tellOfGeneration
    by_cases ho : q (3 * h) = nI 1
    · simp (disch := omega) only [if_true, if_false, am_in_n, am_nz_n, am_nzl_n, sI_add, sI_mul, sI_cl, sI_le, sI_lt, sI_eq, sI_l, lN_add, lN_mul, lN_i, sg_gt, sg_le, sg_eq, sg_ge, sI_rem, sI_div, sI_rem2, sL_rem, sL_div, sL_rem2, sI_sub, sI_m1, sI_m1n, sI_or, if_pos, if_neg, Option.bind_some, am_call2_e, am_call3_e, am_call4_e, am_call5_e, am_call6_e, am_call7_e, am_call8_e, am_call9_e, am_call10_e, am_call11_e, am_call12_e, am_call13_e, am_call14_e, li_0, li_1, li_2, li_3, li_4, li_5, li_6, li_7, li_8, li_9, li_10, li_11, li_12, li_13, li_14, li_15, li_16, li_19, li_20, li_21, li_22, li_23, li_32, li_36, li_48, li_50, li_60, li_63, li_74, li_75, li_98, li_99, li_100, li_199, li_200, li_256, li_7919, li_65537, li_1000000, li_1000001, li_10000000, ll_0, ll_1, ll_100, ll_65535, e0, e1, (o2 ho).1, ho]
    · simp (disch := omega) only [if_true, if_false, am_in_n, am_nz_n, am_nzl_n, sI_add, sI_mul, sI_cl, sI_le, sI_lt, sI_eq, sI_l, lN_add, lN_mul, lN_i, sg_gt, sg_le, sg_eq, sg_ge, sI_rem, sI_div, sI_rem2, sL_rem, sL_div, sL_rem2, sI_sub, sI_m1, sI_m1n, sI_or, if_pos, if_neg, Option.bind_some, am_call2_e, am_call3_e, am_call4_e, am_call5_e, am_call6_e, am_call7_e, am_call8_e, am_call9_e, am_call10_e, am_call11_e, am_call12_e, am_call13_e, am_call14_e, li_0, li_1, li_2, li_3, li_4, li_5, li_6, li_7, li_8, li_9, li_10, li_11, li_12, li_13, li_14, li_15, li_16, li_19, li_20, li_21, li_22, li_23, li_32, li_36, li_48, li_50, li_60, li_63, li_74, li_75, li_98, li_99, li_100, li_199, li_200, li_256, li_7919, li_65537, li_1000000, li_1000001, li_10000000, ll_0, ll_1, ll_100, ll_65535, e0, ho]
  · unfold F_X4_tellOfGeneration
    by_cases ho : q (3 * h) = nI 1
    · simp (disch := omega) only [if_true, if_false, am_in_n, am_nz_n, am_nzl_n, sI_add, sI_mul, sI_cl, sI_le, sI_lt, sI_eq, sI_l, lN_add, lN_mul, lN_i, sg_gt, sg_le, sg_eq, sg_ge, sI_rem, sI_div, sI_rem2, sL_rem, sL_div, sL_rem2, sI_sub, sI_m1, sI_m1n, sI_or, if_pos, if_neg, Option.bind_some, am_call2_e, am_call3_e, am_call4_e, am_call5_e, am_call6_e, am_call7_e, am_call8_e, am_call9_e, am_call10_e, am_call11_e, am_call12_e, am_call13_e, am_call14_e, li_0, li_1, li_2, li_3, li_4, li_5, li_6, li_7, li_8, li_9, li_10, li_11, li_12, li_13, li_14, li_15, li_16, li_19, li_20, li_21, li_22, li_23, li_32, li_36, li_48, li_50, li_60, li_63, li_74, li_75, li_98, li_99, li_100, li_199, li_200, li_256, li_7919, li_65537, li_1000000, li_1000001, li_10000000, ll_0, ll_1, ll_100, ll_65535, e0, e2, (o2 ho).2, ho]
    · simp (disch := omega) only [if_true, if_false, am_in_n, am_nz_n, am_nzl_n, sI_add, sI_mul, sI_cl, sI_le, sI_lt, sI_eq, sI_l, lN_add, lN_mul, lN_i, sg_gt, sg_le, sg_eq, sg_ge, sI_rem, sI_div, sI_rem2, sL_rem, sL_div, sL_rem2, sI_sub, sI_m1, sI_m1n, sI_or, if_pos, if_neg, Option.bind_some, am_call2_e, am_call3_e, am_call4_e, am_call5_e, am_call6_e, am_call7_e, am_call8_e, am_call9_e, am_call10_e, am_call11_e, am_call12_e, am_call13_e, am_call14_e, li_0, li_1, li_2, li_3, li_4, li_5, li_6, li_7, li_8, li_9, li_10, li_11, li_12, li_13, li_14, li_15, li_16, li_19, li_20, li_21, li_22, li_23, li_32, li_36, li_48, li_50, li_60, li_63, li_74, li_75, li_98, li_99, li_100, li_199, li_200, li_256, li_7919, li_65537, li_1000000, li_1000001, li_10000000, ll_0, ll_1, ll_100, ll_65535, e0, ho]
  · unfold F_X4_tellOfGeneration
    by_cases ho : q (3 * h) = nI 2
    · simp (disch := omega) only [if_true, if_false, am_in_n, am_nz_n, am_nzl_n, sI_add, sI_mul, sI_cl, sI_le, sI_lt, sI_eq, sI_l, lN_add, lN_mul, lN_i, sg_gt, sg_le, sg_eq, sg_ge, sI_rem, sI_div, sI_rem2, sL_rem, sL_div, sL_rem2, sI_sub, sI_m1, sI_m1n, sI_or, if_pos, if_neg, Option.bind_some, am_call2_e, am_call3_e, am_call4_e, am_call5_e, am_call6_e, am_call7_e, am_call8_e, am_call9_e, am_call10_e, am_call11_e, am_call12_e, am_call13_e, am_call14_e, li_0, li_1, li_2, li_3, li_4, li_5, li_6, li_7, li_8, li_9, li_10, li_11, li_12, li_13, li_14, li_15, li_16, li_19, li_20, li_21, li_22, li_23, li_32, li_36, li_48, li_50, li_60, li_63, li_74, li_75, li_98, li_99, li_100, li_199, li_200, li_256, li_7919, li_65537, li_1000000, li_1000001, li_10000000, ll_0, ll_1, ll_100, ll_65535, e0, e3, o3 ho, ho]
    · simp (disch := omega) only [if_true, if_false, am_in_n, am_nz_n, am_nzl_n, sI_add, sI_mul, sI_cl, sI_le, sI_lt, sI_eq, sI_l, lN_add, lN_mul, lN_i, sg_gt, sg_le, sg_eq, sg_ge, sI_rem, sI_div, sI_rem2, sL_rem, sL_div, sL_rem2, sI_sub, sI_m1, sI_m1n, sI_or, if_pos, if_neg, Option.bind_some, am_call2_e, am_call3_e, am_call4_e, am_call5_e, am_call6_e, am_call7_e, am_call8_e, am_call9_e, am_call10_e, am_call11_e, am_call12_e, am_call13_e, am_call14_e, li_0, li_1, li_2, li_3, li_4, li_5, li_6, li_7, li_8, li_9, li_10, li_11, li_12, li_13, li_14, li_15, li_16, li_19, li_20, li_21, li_22, li_23, li_32, li_36, li_48, li_50, li_60, li_63, li_74, li_75, li_98, li_99, li_100, li_199, li_200, li_256, li_7919, li_65537, li_1000000, li_1000001, li_10000000, ll_0, ll_1, ll_100, ll_65535, e0, ho]
  · unfold F_X6_generationOf
    rw [hasGC hh g1, Option.bind_some, if_neg nI10, show F_X6_isWithin (nI 6) (0 : Int32) (5 : Int32) = some (nI 0) from rfl, Option.bind_some, if_pos nI00]
theorem t_genN (hL : LSt N G z th sc of wn pl pa g w c) (hR : RlS N G g w q pl pa v f) : F_X6_generationOf (v 3) (v 4) (f 0) (f 1) (f 2) (f 3) (f 4) (f 5) (nI G) (nI 0) = some (-1000001) := by
  obtain ⟨⟨n0, n1, g0, g1, -⟩, -⟩ := hL
  rw [hR.1.2.1]
  unfold F_X6_generationOf
  rw [hasGN g0 g1, Option.bind_some, if_pos nI00]
theorem t_count (hL : LSt N G z th sc of wn pl pa g w c) (hR : RlS N G g w q pl pa v f) (rec len : Int32) :
    (∀ j X, (j = 0 ∧ X = nI N) ∨ (j = 1 ∧ X = nI G) ∨ (j = 2 ∧ X = nI (sumN wn N)) ∨ (j = 3 ∧ X = nI (effN wn N)) ∨ (j = 4 ∧ X = g 2) ∨ (j = 5 ∧ X = nI (cntN (fun k => decide (wn k = 0)) N)) ∨ (j = 6 ∧ X = nI (newN (fun k => nI (pl (G - 1) k)) N)) ∨ (j = 7 ∧ X = g 3) ∨ (j = 8 ∧ X = g 4) ∨ (j = 10 ∧ X = len) ∨ (j = 11 ∧ X = -1000001) ∨ (j = 20 ∧ X = g 5) ∨ (j = 21 ∧ X = g 6) ∨ (j = 22 ∧ X = g 7) ∨ (j = 23 ∧ X = -1000001) → F_X6_count rec (v 0) (v 1) (v 2) (v 3) (v 4) (f 0) (v 5) (f 6) (f 7) len (nI j) = some X) := by
  obtain ⟨⟨n0, n1, g0, g1, hz, hth, hsc, hof⟩, -, ⟨sw, swb, sS⟩, ⟨splb, spab⟩, -⟩ := hL
  obtain ⟨⟨r3, r4, r5, r0, r1, r2, t0, t1, t2⟩, hw, hq, hpl, hpa⟩ := hR
  have hS2 := (sq_le n1 swb).1
  have hwf : ∀ k, k < N → f 6 k = nI (wn k) := fun k hk => (hw k hk).trans (sw k hk)
  have hwb : ∀ k, k < N → wn k < 2147483648 := fun k hk => by have := swb k hk; omega
  have eE : F_X5_effectiveCount (nI N) (f 6) = some (nI (effN wn N)) := feffC n1 hwf swb sS
  have e6 : F_X1_howManyUnlikePlaces (nI N) (f 0) (nI (G - 1)) = some (nI (newN (fun k => nI (pl (G - 1) k)) N)) := by
    rw [funlikeC (f := f 0) n1 (show G - 1 < 20 by omega), newN_congr N (fun k hk => hpl (G - 1) k (by omega) hk)]
  rw [r3, r4, r5, r0, r1, r2]
  rintro j X (⟨rfl, rfl⟩ | ⟨rfl, rfl⟩ | ⟨rfl, rfl⟩ | ⟨rfl, rfl⟩ | ⟨rfl, rfl⟩ | ⟨rfl, rfl⟩ | ⟨rfl, rfl⟩ | ⟨rfl, rfl⟩ | ⟨rfl, rfl⟩ | ⟨rfl, rfl⟩ | ⟨rfl, rfl⟩ | ⟨rfl, rfl⟩ | ⟨rfl, rfl⟩ | ⟨rfl, rfl⟩ | ⟨rfl, rfl⟩) <;> unfold F_X6_count F_X4_number F_X1_many F_X1_generations F_X3_length <;> simp (disch := omega) only [if_true, if_false, am_in_n, am_nz_n, am_nzl_n, sI_add, sI_mul, sI_cl, sI_le, sI_lt, sI_eq, sI_l, lN_add, lN_mul, lN_i, sg_gt, sg_le, sg_eq, sg_ge, sI_rem, sI_div, sI_rem2, sL_rem, sL_div, sL_rem2, sI_sub, sI_m1, sI_m1n, sI_or, if_pos, if_neg, Option.bind_some, am_call2_e, am_call3_e, am_call4_e, am_call5_e, am_call6_e, am_call7_e, am_call8_e, am_call9_e, am_call10_e, am_call11_e, am_call12_e, am_call13_e, am_call14_e, li_0, li_1, li_2, li_3, li_4, li_5, li_6, li_7, li_8, li_9, li_10, li_11, li_12, li_13, li_14, li_15, li_16, li_19, li_20, li_21, li_22, li_23, li_32, li_36, li_48, li_50, li_60, li_63, li_74, li_75, li_98, li_99, li_100, li_199, li_200, li_256, li_7919, li_65537, li_1000000, li_1000001, li_10000000, ll_0, ll_1, ll_100, ll_65535, fsumC n1 hwf hwb, eE, fzeroC n1 hwf hwb, flateC g0, e6, fat (n := 3) (i := 0) (f := f 7) (by omega) (by omega), fat (n := 3) (i := 1) (f := f 7) (by omega) (by omega), fat (n := 3) (i := 2) (f := f 7) (by omega) (by omega), t0, t1, t2]
end Tell3
