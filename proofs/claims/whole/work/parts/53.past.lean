-- the history on both sides
def RelS (v : Nat → Int32) (f : Nat → Nat → Int32) (s : Nat → Int32) : Prop := ∃ N G z th sc of w pl pa, Good N G z th sc of w pl pa s ∧ Rel N G (v 0) (v 1) (v 2) (v 3) (v 4) (f 0) (f 1) (f 2) (f 3) (f 4) (f 5) (v 5) (f 6) (f 7) s
theorem good_eq {N G z th sc of : Nat} {w : Nat → Nat} {pl pa : Nat → Nat → Nat} {s s' : Nat → Int32} (hs : ∀ i, i < 580 → s' i = s i) (hG : Good N G z th sc of w pl pa s) : Good N G z th sc of w pl pa s' := by
  obtain ⟨⟨n0, n1, g0, g1, hz, hth, hsc, hof⟩, ⟨s0, s1, s2, s5, s6, s7⟩, ⟨sw, swb, sS⟩, ⟨spl, splb⟩, spa, spab, sp0⟩ := hG
  exact ⟨⟨n0, n1, g0, g1, hz, hth, hsc, hof⟩, ⟨by rw [hs _ (by omega)]; exact s0, by rw [hs _ (by omega)]; exact s1, by rw [hs _ (by omega)]; exact s2, by rw [hs _ (by omega)]; exact s5, by rw [hs _ (by omega)]; exact s6, by rw [hs _ (by omega)]; exact s7⟩, ⟨fun k hk => by rw [hs _ (by omega)]; exact sw k hk, swb, sS⟩, ⟨fun g k hg hk => by rw [hs _ (by omega)]; exact spl g k hg hk, splb⟩, fun g k h0 hg hk => by rw [hs _ (by omega)]; exact spa g k h0 hg hk, spab, fun k hk => by rw [hs _ (by omega)]; exact sp0 k hk⟩
theorem rel_eq {N G : Nat} {noi obs res lmany lgens : Int32} {lplf lpaf logf ldrf lspf lscf : Nat → Int32} {wmany : Int32} {wf sf s s' : Nat → Int32} (hN : N ≤ 12) (hGn : G ≤ 20) (hs : ∀ i, i < 580 → s' i = s i) (hR : Rel N G noi obs res lmany lgens lplf lpaf logf ldrf lspf lscf wmany wf sf s) : Rel N G noi obs res lmany lgens lplf lpaf logf ldrf lspf lscf wmany wf sf s' := by
  obtain ⟨⟨r0, r1, r2, r3, r4, r4', r5, r6, r7⟩, rw_, rg, rpl, rpa⟩ := hR
  refine ⟨⟨r0, r1, r2, by rw [hs _ (by omega)]; exact r3, by rw [hs _ (by omega)]; exact r4, by rw [hs _ (by omega)]; exact r4', by rw [hs _ (by omega)]; exact r5, by rw [hs _ (by omega)]; exact r6, by rw [hs _ (by omega)]; exact r7⟩, fun k hk => by rw [hs _ (by omega)]; exact rw_ k hk, fun g hg => ?_, fun g k hg hk => by rw [hs _ (by omega)]; exact rpl g k hg hk, fun g k h0 hg hk => by rw [hs _ (by omega)]; exact rpa g k h0 hg hk⟩
  rw [hs _ (by omega), hs _ (by omega), hs _ (by omega), hs _ (by omega)]
  exact rg g hg
theorem relS_eq {v : Nat → Int32} {f : Nat → Nat → Int32} {s s' : Nat → Int32} (hs : ∀ i, i < 580 → s' i = s i) (h : RelS v f s) : RelS v f s' := by
  obtain ⟨N, G, z, th, sc, of, w, pl, pa, hG, hR⟩ := h
  exact ⟨N, G, z, th, sc, of, w, pl, pa, good_eq hs hG, rel_eq hG.1.2.1 hG.1.2.2.2.1 hs hR⟩
theorem chg1 {r : Nat} (hr : r ≤ 3) (s g : Nat → Int32) : ∀ K, am_loop2 (F_X7_changes_B59 K (nI r) s) am_fuel (nI 0) g = K (fun i => if 580 * r ≤ i ∧ i < 580 * r + 580 then s (i - 580 * r) else g i) := by
  intro K
  obtain ⟨f, h1, e⟩ := for2F (b := F_X7_changes_B59 K (nI r) s) nI 580 (fun j f => f = fun i => if 580 * r ≤ i ∧ i < 580 * r + j then s (i - 580 * r) else g i) K (by
    rintro rec f j hj rfl
    refine ⟨upd (fun i => if 580 * r ≤ i ∧ i < 580 * r + j then s (i - 580 * r) else g i) (580 * r + j) (s j), ?_, ?_⟩
    · funext i
      by_cases hij : i = 580 * r + j
      · subst hij
        rw [upd_s, if_pos (show 580 * r ≤ 580 * r + j ∧ 580 * r + j < 580 * r + (j + 1) by omega)]
        congr 1
        omega
      · rw [upd_n hij]
        by_cases h : 580 * r ≤ i ∧ i < 580 * r + j
        · rw [if_pos h, if_pos (show 580 * r ≤ i ∧ i < 580 * r + (j + 1) by omega)]
        · rw [if_neg h, if_neg (show ¬ (580 * r ≤ i ∧ i < 580 * r + (j + 1)) by omega)]
    · unfold F_X7_changes_B59
      simp only [am_let]
      simp (disch := omega) only [li_0, li_1, li_2, li_3, li_4, li_5, li_6, li_7, li_8, li_9, li_10, li_12, li_16, li_20, li_21, li_22, li_32, li_33, li_44, li_45, li_48, li_57, li_59, li_60, li_63, li_74, li_75, li_99, li_100, li_109, li_111, li_114, li_126, li_200, li_340, li_580, li_1740, li_65537, li_1000000, ll_0, ll_1, ll_100, sI_le, if_neg, am_in_n, sI_mul, sI_add, sI_cl]) (by
    rintro rec f -
    unfold F_X7_changes_B59
    simp only [am_let]
    simp (disch := omega) only [li_0, li_1, li_2, li_3, li_4, li_5, li_6, li_7, li_8, li_9, li_10, li_12, li_16, li_20, li_21, li_22, li_32, li_33, li_44, li_45, li_48, li_57, li_59, li_60, li_63, li_74, li_75, li_99, li_100, li_109, li_111, li_114, li_126, li_200, li_340, li_580, li_1740, li_65537, li_1000000, ll_0, ll_1, ll_100, sI_le, if_pos]) 0 (Nat.zero_le _) am_fuel (by rw [fuelE]; omega) g (by
      funext i
      rw [if_neg (show ¬ (580 * r ≤ i ∧ i < 580 * r + 0) by omega)])
  rw [e, h1]
theorem chg2 (g : Nat → Int32) : ∀ K, am_loop2 (F_X7_changes_B18 K) am_fuel (nI 0) g = K (fun i => if i < 1740 then g (i + 580) else g i) := by
  intro K
  obtain ⟨f, h1, e⟩ := for2F (b := F_X7_changes_B18 K) nI 1740 (fun j f => f = fun i => if i < j then g (i + 580) else g i) K (by
    rintro rec f j hj rfl
    refine ⟨upd (fun i => if i < j then g (i + 580) else g i) j (g (j + 580)), ?_, ?_⟩
    · funext i
      by_cases hij : i = j
      · subst hij
        rw [upd_s, if_pos (by omega)]
      · rw [upd_n hij]
        by_cases h : i < j
        · rw [if_pos h, if_pos (show i < j + 1 by omega)]
        · rw [if_neg h, if_neg (show ¬ i < j + 1 by omega)]
    · have e1 : (fun i => if i < j then g (i + 580) else g i) (j + 580) = g (j + 580) := if_neg (show ¬ j + 580 < j by omega)
      generalize (fun i => if i < j then g (i + 580) else g i) = f at e1 ⊢
      unfold F_X7_changes_B18
      simp only [am_let]
      simp (disch := omega) only [li_0, li_1, li_2, li_3, li_4, li_5, li_6, li_7, li_8, li_9, li_10, li_12, li_16, li_20, li_21, li_22, li_32, li_33, li_44, li_45, li_48, li_57, li_59, li_60, li_63, li_74, li_75, li_99, li_100, li_109, li_111, li_114, li_126, li_200, li_340, li_580, li_1740, li_65537, li_1000000, ll_0, ll_1, ll_100, sI_le, if_neg, am_in_n, sI_mul, sI_add, sI_cl, e1]) (by
    rintro rec f -
    unfold F_X7_changes_B18
    simp only [am_let]
    simp (disch := omega) only [li_0, li_1, li_2, li_3, li_4, li_5, li_6, li_7, li_8, li_9, li_10, li_12, li_16, li_20, li_21, li_22, li_32, li_33, li_44, li_45, li_48, li_57, li_59, li_60, li_63, li_74, li_75, li_99, li_100, li_109, li_111, li_114, li_126, li_200, li_340, li_580, li_1740, li_65537, li_1000000, ll_0, ll_1, ll_100, sI_le, if_pos]) 0 (Nat.zero_le _) am_fuel (by rw [fuelE]; omega) g (by
      funext i
      rw [if_neg (Nat.not_lt_zero i)])
  rw [e, h1]
def nx (r : Nat) : Nat := if r = 4 then 4 else r + 1
def Pushed (r : Nat) (s mpast fp : Nat → Int32) : Prop := (∀ i, i < 580 → fp (580 * (nx r - 1) + i) = s i) ∧ ∀ j, 0 < j → j < nx r → ∀ i, i < 580 → fp (580 * (nx r - 1 - j) + i) = mpast (580 * (r - 1 - (j - 1)) + i)
theorem keep_nx {r : Nat} (hr : r ≤ 4) : keepRec (nI r) = nI (nx r) := by
  unfold keepRec nx
  have : r = 0 ∨ r = 1 ∨ r = 2 ∨ r = 3 ∨ r = 4 := by omega
  rcases this with rfl | rfl | rfl | rfl | rfl <;> decide
theorem nx_le {r : Nat} (hr : r ≤ 4) : nx r ≤ 4 ∧ 1 ≤ nx r := by
  unfold nx
  split <;> omega
theorem fchanges {r : Nat} (hr : r ≤ 4) (s mpast : Nat → Int32) : ∃ fp, Pushed r s mpast fp ∧ F_X7_changes (nI r) (nI 0) s mpast = some (nI (nx r), fp) := by
  unfold F_X7_changes
  rw [if_pos nI00]
  simp only [am_let_e]
  by_cases h4 : r = 4
  · subst h4
    have e4 : nI 4 = (4 : Int32) := id rfl
    have e3 : (nI 4 - (1 : Int32)) = nI 3 := by decide
    have e5 : nI 3 + (1 : Int32) = nI 4 := by decide
    have c2 : ∀ K, am_loop2 (F_X7_changes_B18 K) am_fuel (0 : Int32) mpast = K (fun i => if i < 1740 then mpast (i + 580) else mpast i) := chg2 mpast
    rw [if_pos e4, c2, e3]
    have c1 : ∀ g K, am_loop2 (F_X7_changes_B59 K (nI 3) s) am_fuel (0 : Int32) g = K (fun i => if 580 * 3 ≤ i ∧ i < 580 * 3 + 580 then s (i - 580 * 3) else g i) := fun g => chg1 (by omega) s g
    rw [c1, e5]
    refine ⟨_, ⟨fun i hi => ?_, fun j hj0 hj i hi => ?_⟩, rfl⟩
    · have e : nx 4 - 1 = 3 := rfl
      rw [e]
      show (if 580 * 3 ≤ 580 * 3 + i ∧ 580 * 3 + i < 580 * 3 + 580 then s (580 * 3 + i - 580 * 3) else _) = _
      have ea : 580 * 3 + i - 580 * 3 = i := by omega
      rw [if_pos (by omega), ea]
    · have e : nx 4 = 4 := rfl
      rw [e] at hj ⊢
      show (if 580 * 3 ≤ 580 * (4 - 1 - j) + i ∧ 580 * (4 - 1 - j) + i < 580 * 3 + 580 then _ else if 580 * (4 - 1 - j) + i < 1740 then mpast (580 * (4 - 1 - j) + i + 580) else _) = _
      have ea : 580 * (4 - 1 - j) + i + 580 = 580 * (4 - 1 - (j - 1)) + i := by omega
      rw [if_neg (by omega), if_pos (by omega), ea]
  · have e4 : ¬ nI r = (4 : Int32) := by rw [li_4, sI_eq (by omega) (by omega)]; exact h4
    rw [if_neg e4]
    have c1 : ∀ g K, am_loop2 (F_X7_changes_B59 K (nI r) s) am_fuel (0 : Int32) g = K (fun i => if 580 * r ≤ i ∧ i < 580 * r + 580 then s (i - 580 * r) else g i) := fun g => chg1 (by omega) s g
    rw [c1]
    have en : nx r = r + 1 := if_neg h4
    have e5 : nI r + (1 : Int32) = nI (nx r) := by rw [en]; exact sI_add r 1
    rw [e5]
    refine ⟨_, ⟨fun i hi => ?_, fun j hj0 hj i hi => ?_⟩, rfl⟩
    · rw [en]
      show (if 580 * r ≤ 580 * (r + 1 - 1) + i ∧ 580 * (r + 1 - 1) + i < 580 * r + 580 then s (580 * (r + 1 - 1) + i - 580 * r) else _) = _
      have ea : 580 * (r + 1 - 1) + i - 580 * r = i := by omega
      rw [if_pos (by omega), ea]
    · rw [en] at hj ⊢
      show (if 580 * r ≤ 580 * (r + 1 - 1 - j) + i ∧ 580 * (r + 1 - 1 - j) + i < 580 * r + 580 then _ else mpast (580 * (r + 1 - 1 - j) + i)) = _
      have ea : 580 * (r + 1 - 1 - j) + i = 580 * (r - 1 - (j - 1)) + i := by omega
      rw [if_neg (by omega), ea]
theorem fundo {r : Nat} (hr : r ≤ 4) (hr0 : 0 < r) (s mpast : Nat → Int32) : ∃ s', (∀ i, i < 580 → s' i = mpast (580 * (r - 1) + i)) ∧ F_X7_undo (nI r) s mpast = some (nI (r - 1), nI (r - 1), s') := by
  have n0 : ¬ nI r = (0 : Int32) := by rw [li_0, sI_eq (by omega) (by omega)]; omega
  have e1 : nI r - (1 : Int32) = nI (r - 1) := sI_sub (b := 1) (by omega)
  unfold F_X7_undo
  rw [if_neg n0]
  simp only [am_let_e]
  rw [e1]
  have key : ∀ K : (Nat → Int32) → Option (Int32 × Int32 × (Nat → Int32)), ∃ f, (∀ i, i < 580 → f i = mpast (580 * (r - 1) + i)) ∧ am_loop2 (F_X7_undo_B22 K (nI (r - 1)) mpast) am_fuel (nI 0) s = K f := by
    intro K
    exact for2F (b := F_X7_undo_B22 K (nI (r - 1)) mpast) nI 580 (fun j f => ∀ i, i < j → f i = mpast (580 * (r - 1) + i)) K (by
      rintro rec f j hj h
      refine ⟨upd f j (mpast (580 * (r - 1) + j)), fun i hi => ?_, ?_⟩
      · by_cases hij : i = j
        · subst hij; exact upd_s _ _ _
        · rw [upd_n hij]; exact h i (by omega)
      · unfold F_X7_undo_B22
        simp only [am_let]
        simp (disch := omega) only [li_0, li_1, li_2, li_3, li_4, li_5, li_6, li_7, li_8, li_9, li_10, li_12, li_16, li_20, li_21, li_22, li_32, li_33, li_44, li_45, li_48, li_57, li_59, li_60, li_63, li_74, li_75, li_99, li_100, li_109, li_111, li_114, li_126, li_200, li_340, li_580, li_1740, li_65537, li_1000000, ll_0, ll_1, ll_100, sI_le, if_neg, am_in_n, sI_mul, sI_add, sI_cl]) (by
      rintro rec f -
      unfold F_X7_undo_B22
      simp only [am_let]
      simp (disch := omega) only [li_0, li_1, li_2, li_3, li_4, li_5, li_6, li_7, li_8, li_9, li_10, li_12, li_16, li_20, li_21, li_22, li_32, li_33, li_44, li_45, li_48, li_57, li_59, li_60, li_63, li_74, li_75, li_99, li_100, li_109, li_111, li_114, li_126, li_200, li_340, li_580, li_1740, li_65537, li_1000000, ll_0, ll_1, ll_100, sI_le, if_pos]) 0 (Nat.zero_le _) am_fuel (by rw [fuelE]; omega) s (fun i hi => absurd hi (Nat.not_lt_zero i))
  obtain ⟨f, h1, h2⟩ := key (fun f2 => some (nI (r - 1), nI (r - 1), f2))
  exact ⟨f, h1, h2⟩
def Hist (r : Nat) (v : Nat → Nat → Int32) (f : Nat → Nat → Nat → Int32) (mpast : Nat → Int32) : Prop := ∀ j, j < r → RelS (v (j + 2)) (f (j + 2)) (fun i => mpast (580 * (r - 1 - j) + i))
theorem hist_push {r : Nat} (hr : r ≤ 4) {v v' : Nat → Nat → Int32} {f f' : Nat → Nat → Nat → Int32} {s mpast fp : Nat → Int32} (h0 : RelS (v 0) (f 0) s) (hH : Hist r v f mpast) (hp : Pushed r s mpast fp) (v2 : v' 2 = v 0) (v3 : v' 3 = v 2) (v4 : v' 4 = v 3) (v5 : v' 5 = v 4) (f2 : f' 2 = f 0) (f3 : f' 3 = f 2) (f4 : f' 4 = f 3) (f5 : f' 5 = f 4) : Hist (nx r) v' f' fp := by
  obtain ⟨hp1, hp2⟩ := hp
  have hn := nx_le hr
  have hn2 : nx r ≤ r + 1 := by unfold nx; split <;> omega
  intro j hj
  by_cases hj0 : j = 0
  · subst hj0
    rw [show 0 + 2 = 2 from rfl, v2, f2]
    exact relS_eq (fun i hi => hp1 i hi) h0
  · have h1 := hH (j - 1) (by omega)
    have h2 := relS_eq (s' := fun i => fp (580 * (nx r - 1 - j) + i)) (fun i hi => hp2 j (by omega) hj i hi) h1
    have hj3 : j = 1 ∨ j = 2 ∨ j = 3 := by omega
    rcases hj3 with rfl | rfl | rfl
    · rw [show 1 + 2 = 3 from rfl, v3, f3]; exact h2
    · rw [show 2 + 2 = 4 from rfl, v4, f4]; exact h2
    · rw [show 3 + 2 = 5 from rfl, v5, f5]; exact h2
theorem hist_pop {r : Nat} (hr : r ≤ 4) (hr0 : 0 < r) {v v' : Nat → Nat → Int32} {f f' : Nat → Nat → Nat → Int32} {mpast s' : Nat → Int32} (hH : Hist r v f mpast) (hs : ∀ i, i < 580 → s' i = mpast (580 * (r - 1) + i)) (v0 : v' 0 = v 2) (v2 : v' 2 = v 3) (v3 : v' 3 = v 4) (v4 : v' 4 = v 5) (f0 : f' 0 = f 2) (f2 : f' 2 = f 3) (f3 : f' 3 = f 4) (f4 : f' 4 = f 5) : RelS (v' 0) (f' 0) s' ∧ Hist (r - 1) v' f' mpast := by
  constructor
  · rw [v0, f0]
    exact relS_eq hs (hH 0 hr0)
  · intro j hj
    have h1 := hH (j + 1) (by omega)
    have e : r - 1 - (j + 1) = r - 1 - 1 - j := by omega
    rw [e] at h1
    have hj3 : j = 0 ∨ j = 1 ∨ j = 2 := by omega
    rcases hj3 with rfl | rfl | rfl
    · rw [show 0 + 2 = 2 from rfl, v2, f2]; exact h1
    · rw [show 1 + 2 = 3 from rfl, v3, f3]; exact h1
    · rw [show 2 + 2 = 4 from rfl, v4, f4]; exact h1
