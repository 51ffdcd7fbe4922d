-- moves
theorem way_eq (x d m e : Int32) : x + ((d + m) - e) = ((x + d) + m) - e := by
  simp only [Int32.sub_eq_add_neg, Int32.add_assoc]
section Move
variable {N G z th sc of : Nat} {w : Nat → Nat} {pl pa : Nat → Nat → Nat} {s : Nat → Int32} {noi obs res lmany lgens : Int32} {lplf lpaf logf ldrf lspf lscf : Nat → Int32} {wmany : Int32} {wf sf : Nat → Int32}
def moveP (pl : Nat → Nat → Nat) (G z sp : Nat) (d : Int32) (k : Nat) : Nat := clampN (((nI (pl (G - 1) k) + d) + nI (nzk z (k + 1) % (2 * sp + 1))) - nI sp)
theorem o_move (hG : Good N G z th sc of w pl pa s) (hR : Rel N G noi obs res lmany lgens lplf lpaf logf ldrf lspf lscf wmany wf sf s) {mpasts mruns up : Int32} {mpast fp : Nat → Int32} (hc : F_X7_changes mpasts mruns s mpast = some (up, fp)) (p0 p1 : Int32) : ∃ r noi' lgens' lplf' lpaf' logf' ldrf' lspf', F_X4_shift noi lmany lgens lplf lpaf logf ldrf lspf p0 p1 = some (r, noi', lgens', lplf', lpaf', logf', ldrf', lspf') ∧ ((¬ 0 ≤ r ∧ F_X7_move mpasts mruns s mpast p0 p1 = some (r, mpasts, s, mpast)) ∨ (0 ≤ r ∧ ∃ G' z' pl' pa' s', F_X7_move mpasts mruns s mpast p0 p1 = some (r, up, s', fp) ∧ Good N G' z' th sc of w pl' pa' s' ∧ Rel N G' noi' obs res lmany lgens' lplf' lpaf' logf' ldrf' lspf' lscf wmany wf sf s')) := by
  have hG' := hG
  have hR' := hR
  obtain ⟨⟨n0, n1, g0, g1, hz, hth, hsc, hof⟩, ⟨s0, s1, s2, s5, s6, s7⟩, ⟨sw, swb, sS⟩, ⟨spl, splb⟩, spa, spab, sp0⟩ := hG'
  obtain ⟨⟨rfl, rfl, rfl, rfl, rfl, rfl, r5, r6, r7⟩, rw_, rg, rpl, rpa⟩ := hR'
  unfold F_X4_shift F_X7_move F_X1_generations
  rw [inEq]
  rcases isW01 p0 (-99 : Int32) (99 : Int32) with c1 | c1
  · rcases inN p1 (a := 0) (b := 99) (by omega) (by omega) with ⟨sp, -, hsp, rfl, c2⟩ | ⟨-, c2⟩
    · rw [c1]
      by_cases hG20 : G < 20
      · have ne : ¬ G = 20 := by omega
        obtain ⟨t, ⟨t1, ta, tb, tc, td⟩, tr, ht⟩ := ffollows s1 hG20 (nI 1) p0 (nI sp) (nI 0)
        have hl := flateC g0
        have hadd : F_X1_addMoved (nI G) logf ldrf lspf p0 (nI sp) = some (nI (G + 1), upd logf G (nI 1), upd ldrf G p0, upd lspf G (nI sp)) := by
          unfold F_X1_addMoved
          simp only [am_let]
          simp (disch := omega) only [li_0, li_1, li_2, li_3, li_4, li_5, li_6, li_7, li_8, li_9, li_10, li_12, li_16, li_20, li_21, li_22, li_32, li_33, li_44, li_45, li_48, li_57, li_59, li_60, li_63, li_74, li_75, li_99, li_100, li_109, li_111, li_114, li_126, li_200, li_340, li_580, li_1740, li_65537, li_1000000, ll_0, ll_1, ll_100, fput (n := 20) (i := G) (by omega) (by omega), Option.bind_some, sI_add]
        simp only [am_let]
        simp (disch := omega) only [li_0, li_1, li_2, li_3, li_4, li_5, li_6, li_7, li_8, li_9, li_10, li_12, li_16, li_20, li_21, li_22, li_32, li_33, li_44, li_45, li_48, li_57, li_59, li_60, li_63, li_74, li_75, li_99, li_100, li_109, li_111, li_114, li_126, li_200, li_340, li_580, li_1740, li_65537, li_1000000, ll_0, ll_1, ll_100, c2, Option.bind_some, sI_eq, sI_lt, sI_cl, s1, if_pos, if_neg, hl, hadd, am_call4_e, hc, am_call2_e, ht, flateC (G := G + 1) (by omega), Nat.add_sub_cancel]
        -- the class's loop
        obtain ⟨u, fpl, fpa, ⟨k1, k2, k3, k4, k5⟩, e1⟩ := for4F (b := F_X4_shift_B59 (nI N) (fun u9 f10 f11 => some (nI G, u9, nI (G + 1), f10, f11, upd logf G (nI 1), upd ldrf G p0, upd lspf G (nI sp))) (nI sp) p0 (nI (G - 1)) (nI (G + 1))) nI N (fun j u f g => u = nI (nzk z j) ∧ (∀ k, k < j → f (G * 12 + k) = nI (moveP pl G z sp p0 k)) ∧ (∀ k, k < j → g (G * 12 + k) = nI k) ∧ (∀ i, i < G * 12 → f i = lplf i) ∧ ∀ i, i < G * 12 → g i = lpaf i) (fun u9 f10 f11 => some (nI G, u9, nI (G + 1), f10, f11, upd logf G (nI 1), upd ldrf G p0, upd lspf G (nI sp))) (by
          rintro rec u f g j hj ⟨rfl, k2, k3, k4, k5⟩
          have hz1 := nzk_lt hz j
          have hz2 := nzk_lt hz (j + 1)
          have e2 : (nzk z j * 75 + 74) % 65537 = nzk z (j + 1) := rfl
          have e3 : F_X1_placeIn f (nI (G - 1)) (nI j) = some (nI (pl (G - 1) j)) := by rw [fplaceC (by omega) (by omega), k4 _ (by omega), rpl _ _ (by omega) hj, spl _ _ (by omega) hj]
          refine ⟨nI (nzk z (j + 1)), upd f (G * 12 + j) (nI (moveP pl G z sp p0 j)), upd g (G * 12 + j) (nI j), ⟨rfl, fun k hk => ?_, fun k hk => ?_, fun i hi => by rw [upd_n (by omega)]; exact k4 i hi, fun i hi => by rw [upd_n (by omega)]; exact k5 i hi⟩, ?_⟩
          · by_cases hkj : k = j
            · subst hkj; exact upd_s _ _ _
            · rw [upd_n (by omega)]; exact k2 k (by omega)
          · by_cases hkj : k = j
            · subst hkj; exact upd_s _ _ _
            · rw [upd_n (by omega)]; exact k3 k (by omega)
          · unfold F_X4_shift_B59 F_X1_many
            simp only [am_let]
            simp (disch := omega) only [li_0, li_1, li_2, li_3, li_4, li_5, li_6, li_7, li_8, li_9, li_10, li_12, li_16, li_20, li_21, li_22, li_32, li_33, li_44, li_45, li_48, li_57, li_59, li_60, li_63, li_74, li_75, li_99, li_100, li_109, li_111, li_114, li_126, li_200, li_340, li_580, li_1740, li_65537, li_1000000, ll_0, ll_1, ll_100, Option.bind_some, sI_le, if_neg, fnoise hz1, e2, sI_mul, sI_add, am_nz_n, sI_rem, e3, fnearI, way_eq, fputP hG20 (show j < 12 by omega), am_call2_e]
            rfl) (by
          rintro rec u f g -
          unfold F_X4_shift_B59 F_X1_many
          simp only [am_let]
          simp (disch := omega) only [li_0, li_1, li_2, li_3, li_4, li_5, li_6, li_7, li_8, li_9, li_10, li_12, li_16, li_20, li_21, li_22, li_32, li_33, li_44, li_45, li_48, li_57, li_59, li_60, li_63, li_74, li_75, li_99, li_100, li_109, li_111, li_114, li_126, li_200, li_340, li_580, li_1740, li_65537, li_1000000, ll_0, ll_1, ll_100, Option.bind_some, sI_le, if_pos]) 0 (Nat.zero_le _) am_fuel (by rw [fuelE]; omega) (s 2) lplf lpaf ⟨s2, fun k hk => absurd hk (Nat.not_lt_zero k), fun k hk => absurd hk (Nat.not_lt_zero k), fun _ _ => rfl, fun _ _ => rfl⟩
        -- the model's loop
        obtain ⟨s', ⟨m1, m2, m3, m4⟩, e5⟩ := for2F (b := F_X7_move_B54 (fun f7 => some (nI G, up, f7, fp)) (nI G) (nI sp) p0) nI N (fun j f => f 2 = nI (nzk z j) ∧ (∀ k, k < j → f (340 + 12 * G + k) = nI (moveP pl G z sp p0 k)) ∧ (∀ k, k < j → f (100 + 12 * G + k) = nI k) ∧ ∀ i, i ≠ 2 → (i < 100 + 12 * G ∨ 112 + 12 * G ≤ i) → (i < 340 + 12 * G ∨ 352 + 12 * G ≤ i) → f i = t i) (fun f7 => some (nI G, up, f7, fp)) (by
          rintro rec f j hj ⟨m1, m2, m3, m4⟩
          have hz1 := nzk_lt hz j
          have hz2 := nzk_lt hz (j + 1)
          have e2 : (nzk z j * 75 + 74) % 65537 = nzk z (j + 1) := rfl
          have f0 : f 0 = nI N := by rw [m4 0 (by omega) (by omega) (by omega), tr 0 (by omega) (by omega)]; exact s0
          have e3 : F_X7_placeIn f (nI (G - 1)) (nI j) = some (nI (pl (G - 1) j)) := by rw [fplaceM (by omega) (by omega), m4 _ (by omega) (by omega) (by omega), tr _ (by omega) (by omega), spl _ _ (by omega) hj]
          refine ⟨upd (upd (upd f 2 (nI (nzk z (j + 1)))) (100 + 12 * G + j) (nI j)) (340 + 12 * G + j) (nI (moveP pl G z sp p0 j)), ⟨?_, fun k hk => ?_, fun k hk => ?_, fun i h1 h2 h3 => ?_⟩, ?_⟩
          · rw [upd_n (by omega), upd_n (by omega), upd_s]
          · by_cases hkj : k = j
            · subst hkj; exact upd_s _ _ _
            · rw [upd_n (by omega), upd_n (by omega), upd_n (by omega)]; exact m2 k (by omega)
          · by_cases hkj : k = j
            · subst hkj; rw [upd_n (by omega), upd_s]
            · rw [upd_n (by omega), upd_n (by omega), upd_n (by omega)]; exact m3 k (by omega)
          · rw [upd_n (by omega), upd_n (by omega), upd_n h1]; exact m4 i h1 h2 h3
          · unfold F_X7_move_B54
            simp only [am_let]
            simp (disch := omega) only [li_0, li_1, li_2, li_3, li_4, li_5, li_6, li_7, li_8, li_9, li_10, li_12, li_16, li_20, li_21, li_22, li_32, li_33, li_44, li_45, li_48, li_57, li_59, li_60, li_63, li_74, li_75, li_99, li_100, li_109, li_111, li_114, li_126, li_200, li_340, li_580, li_1740, li_65537, li_1000000, ll_0, ll_1, ll_100, f0, sI_cl, sI_le, if_neg, sI_sub, e3, Option.bind_some, ftakes m1 hz1, e2, am_call2_e, sI_mul, sI_add, am_nz_n, sI_rem, am_in_n]
            exact clampM _ (fun v => rec (nI (j + 1)) (upd (upd (upd f 2 (nI (nzk z (j + 1)))) (100 + 12 * G + j) (nI j)) (340 + 12 * G + j) v))) (by
          rintro rec f ⟨m1, m2, m3, m4⟩
          have f0 : f 0 = nI N := by rw [m4 0 (by omega) (by omega) (by omega), tr 0 (by omega) (by omega)]; exact s0
          unfold F_X7_move_B54
          simp only [am_let]
          simp (disch := omega) only [li_0, li_1, li_2, li_3, li_4, li_5, li_6, li_7, li_8, li_9, li_10, li_12, li_16, li_20, li_21, li_22, li_32, li_33, li_44, li_45, li_48, li_57, li_59, li_60, li_63, li_74, li_75, li_99, li_100, li_109, li_111, li_114, li_126, li_200, li_340, li_580, li_1740, li_65537, li_1000000, ll_0, ll_1, ll_100, f0, sI_cl, sI_le, if_pos]) 0 (Nat.zero_le _) am_fuel (by rw [fuelE]; omega) t ⟨by rw [tr 2 (by omega) (by omega)]; exact s2, fun k hk => absurd hk (Nat.not_lt_zero k), fun k hk => absurd hk (Nat.not_lt_zero k), fun _ _ _ _ => rfl⟩
        have sr : ∀ i, i ≠ 1 → i ≠ 2 → (i < 20 + 4 * G ∨ 24 + 4 * G ≤ i) → (i < 100 + 12 * G ∨ 112 + 12 * G ≤ i) → (i < 340 + 12 * G ∨ 352 + 12 * G ≤ i) → s' i = s i := fun i h1 h2 h3 h4 h5 => by rw [m4 i h2 h4 h5, tr i h1 h3]
        have o0 : s' (20 + 4 * G) = nI 1 := by rw [m4 _ (by omega) (by omega) (by omega)]; exact ta
        have o1 : s' (21 + 4 * G) = p0 := by rw [m4 _ (by omega) (by omega) (by omega)]; exact tb
        have o2 : s' (22 + 4 * G) = nI sp := by rw [m4 _ (by omega) (by omega) (by omega)]; exact tc
        have hn := new_gen hG hR hG20 (s' := s') (w' := w) (pv := moveP pl G z sp p0) (qv := fun k => k) (z' := nzk z N) (lplf' := fpl) (lpaf' := fpa) (logf' := upd logf G (nI 1)) (ldrf' := upd ldrf G p0) (lspf' := upd lspf G (nI sp)) (lscf' := lscf) (wf' := wf) (by rw [sr 0 (by omega) (by omega) (by omega) (by omega) (by omega)]; exact s0) (by rw [m4 1 (by omega) (by omega) (by omega)]; exact t1) m1 (nzk_lt hz N) (fun k hk => by rw [sr _ (by omega) (by omega) (by omega) (by omega) (by omega)]; exact sw k hk) swb sS m2 (fun k _ => clamp_le _) m3 (fun k hk => hk) (fun i hi => sr i (by omega) (by omega) (by omega) (by omega) (by omega)) k2 k4 k3 k5 (by rw [upd_s]; exact o0.symm) (fun g hg => upd_n (by omega)) (fun _ => ⟨by rw [upd_s]; exact o1.symm, by rw [upd_s]; exact o2.symm⟩) (fun g hg => ⟨upd_n (by omega), upd_n (by omega)⟩) (fun h => by rw [o0] at h; exact absurd h (by decide)) (fun g hg => rfl) (fun k hk => by rw [sr _ (by omega) (by omega) (by omega) (by omega) (by omega)]; exact rw_ k hk)
        rw [m1, sr 3 (by omega) (by omega) (by omega) (by omega) (by omega), sr 4 (by omega) (by omega) (by omega) (by omega) (by omega)] at hn
        refine ⟨nI G, nI (nzk z N), nI (G + 1), fpl, fpa, upd logf G (nI 1), upd ldrf G p0, upd lspf G (nI sp), ?_, Or.inr ⟨nI_nn (by omega), G + 1, nzk z N, _, _, s', e5, hn.1, hn.2⟩⟩
        rw [e1, k1]
      · have e20 : G = 20 := by omega
        subst e20
        refine ⟨-1000003, s 2, nI 20, lplf, lpaf, logf, ldrf, lspf, ?_, Or.inl ⟨lim_neg, ?_⟩⟩ <;> simp (disch := omega) only [li_0, li_1, li_2, li_3, li_4, li_5, li_6, li_7, li_8, li_9, li_10, li_12, li_16, li_20, li_21, li_22, li_32, li_33, li_44, li_45, li_48, li_57, li_59, li_60, li_63, li_74, li_75, li_99, li_100, li_109, li_111, li_114, li_126, li_200, li_340, li_580, li_1740, li_65537, li_1000000, ll_0, ll_1, ll_100, c2, Option.bind_some, sI_eq, sI_lt, sI_cl, s1, if_pos, if_neg, if_true, Nat.lt_irrefl, if_false]
    · rw [c1]
      refine ⟨-1000001, s 2, nI G, lplf, lpaf, logf, ldrf, lspf, ?_, Or.inl ⟨inv_neg, ?_⟩⟩ <;> simp (disch := omega) only [li_0, li_1, li_2, li_3, li_4, li_5, li_6, li_7, li_8, li_9, li_10, li_12, li_16, li_20, li_21, li_22, li_32, li_33, li_44, li_45, li_48, li_57, li_59, li_60, li_63, li_74, li_75, li_99, li_100, li_109, li_111, li_114, li_126, li_200, li_340, li_580, li_1740, li_65537, li_1000000, ll_0, ll_1, ll_100, c2, Option.bind_some, sI_eq, if_neg, if_true]
  · rw [c1]
    refine ⟨-1000001, s 2, nI G, lplf, lpaf, logf, ldrf, lspf, ?_, Or.inl ⟨inv_neg, ?_⟩⟩ <;> simp (disch := omega) only [li_0, li_1, li_2, li_3, li_4, li_5, li_6, li_7, li_8, li_9, li_10, li_12, li_16, li_20, li_21, li_22, li_32, li_33, li_44, li_45, li_48, li_57, li_59, li_60, li_63, li_74, li_75, li_99, li_100, li_109, li_111, li_114, li_126, li_200, li_340, li_580, li_1740, li_65537, li_1000000, ll_0, ll_1, ll_100, Option.bind_some, if_true]
end Move
