-- observe, on both sides
section Obs
variable {N G z th sc of : Nat} {w : Nat → Nat} {pl pa : Nat → Nat → Nat} {s : Nat → Int32} {noi obs res lmany lgens : Int32} {lplf lpaf logf ldrf lspf lscf : Nat → Int32} {wmany : Int32} {wf sf : Nat → Int32}
theorem frenew20 (cnoi : Int32) (canc : Nat → Int32) (crst : Nat → Int64) : F_X4_renew noi res lmany (nI 20) lplf lpaf logf lscf wmany wf sf cnoi canc crst = some (-1000003, noi, res, nI 20, lplf, lpaf, logf, lscf, wmany, wf, cnoi, canc, crst) := by
  unfold F_X4_renew F_X1_generations
  simp (disch := omega) only [li_0, li_1, li_2, li_3, li_4, li_5, li_6, li_7, li_8, li_9, li_10, li_12, li_16, li_20, li_21, li_22, li_32, li_33, li_44, li_45, li_48, li_57, li_59, li_60, li_63, li_74, li_75, li_99, li_100, li_109, li_111, li_114, li_126, li_200, li_340, li_580, li_1740, li_65537, li_1000000, ll_0, ll_1, ll_100, Option.bind_some, sI_lt, Nat.lt_irrefl, if_false]
theorem nI10 : ¬ nI 1 = (0 : Int32) := by decide
theorem nI00 : nI 0 = (0 : Int32) := id rfl
theorem o_observe (hG : Good N G z th sc of w pl pa s) (hR : Rel N G noi obs res lmany lgens lplf lpaf logf ldrf lspf lscf wmany wf sf s) {mpasts mruns up : Int32} {mpast fp : Nat → Int32} (hc : F_X7_changes mpasts mruns s mpast = some (up, fp)) (mchosen mtimes : Nat → Int32) (mrests : Nat → Int64) (mbefore : Nat → Int32) (cnoi : Int32) (canc : Nat → Int32) (crst : Nat → Int64) (p0 p1 : Int32) : ∃ r noi' obs' res' lgens' lplf' lpaf' logf' lscf' wmany' wf' cnoi' canc' crst', F_X4_look noi obs res lmany lgens lplf lpaf logf lscf wmany wf sf cnoi canc crst p0 p1 = some (r, noi', obs', res', lgens', lplf', lpaf', logf', lscf', wmany', wf', cnoi', canc', crst') ∧ ((¬ 0 ≤ r ∧ ∃ f7, F_X7_observe mpasts mruns s mpast mchosen mtimes mrests mbefore p0 p1 = some (r, mpasts, s, mpast, mchosen, mtimes, mrests, f7)) ∨ (0 ≤ r ∧ ∃ G' z' w' pl' pa' s' f4 f5 f6 f7, F_X7_observe mpasts mruns s mpast mchosen mtimes mrests mbefore p0 p1 = some (r, up, s', fp, f4, f5, f6, f7) ∧ Good N G' z' th sc of w' pl' pa' s' ∧ Rel N G' noi' obs' res' lmany lgens' lplf' lpaf' logf' ldrf lspf lscf' wmany' wf' sf s')) := by
  have hG' := hG
  have hR' := hR
  obtain ⟨⟨n0, n1, g0, g1, hz, hth, hsc, hof⟩, ⟨s0, s1, s2, s5, s6, s7⟩, ⟨sw, swb, sS⟩, ⟨spl, splb⟩, spa, spab, sp0⟩ := hG'
  obtain ⟨⟨rfl, rfl, rfl, rfl, rfl, rfl, r5, r6, r7⟩, rw_, rg, rpl, rpa⟩ := hR'
  have hwf : ∀ k, k < N → wf k = nI (w k) := fun k hk => (rw_ k hk).trans (sw k hk)
  unfold F_X4_look F_X7_observe
  rw [inEq]
  rcases inN p0 (a := 0) (b := 99) (by omega) (by omega) with ⟨a, -, ha, rfl, c1⟩ | ⟨-, c1⟩
  · have c1' : F_X6_isWithin (nI a) (0 : Int32) (99 : Int32) = some (nI 1) := c1
    rcases inN p1 (a := 1) (b := 99) (by omega) (by omega) with ⟨b, hb1, hb, rfl, c2⟩ | ⟨-, c2⟩
    · have c2' : F_X6_isWithin (nI b) (1 : Int32) (99 : Int32) = some (nI 1) := c2
      simp only [c1', c2', Option.bind_some, nI10, if_false]
      obtain ⟨g, hg, eC⟩ := flookC (w := w) (pl := pl) (wf := wf) (lplf := lplf) n0 n1 g0 g1 hwf swb (fun k hk => by rw [rpl _ _ (by omega) hk, spl _ _ (by omega) hk]) splb ha hb
      obtain ⟨v, hv⟩ : ∃ v, v = seenN pl G a b w := ⟨_, rfl⟩
      have hvb : ∀ k, k < N → v k ≤ 99000000 := fun k hk => by rw [hv]; exact seen_le (swb k hk) hb
      have hvb2 : ∀ k, k < N → v k < 2147483648 := fun k hk => by have := hvb k hk; omega
      obtain ⟨f4, f5, a1, a2, a3⟩ := flooks s0 s1 n0 n1 g0 g1 sw swb spl splb mbefore ha hb
      obtain ⟨d4, d5, b1, b2, b3⟩ := flooks s0 s1 n0 n1 g0 g1 sw swb spl splb f5 ha hb
      have eR := frestore s0 n1 a1 a2
      have eC' : ∀ K, am_loop2 (F_X4_look_B25 (nI N) K (nI G) lplf (nI a) (nI b)) am_fuel (0 : Int32) wf = K g := eC
      have eR' : ∀ K, am_loop2 (F_X7_observe_B80 K f5) am_fuel (0 : Int32) f4 = K s := eR
      rw [← hv] at hg a3 b3
      simp only [am_let_e, eC']
      rcases a3 with ⟨z0, eL⟩ | ⟨z0, hw4, eL⟩
      · rw [freduce0 n1 hg hvb2 z0, eL, am_call2_e, am_call3_e, if_pos nI00, if_pos nI00]
        simp only [eR', if_neg np_neg]
        exact ⟨-1000002, _, _, _, _, _, _, _, _, _, _, _, _, _, rfl, Or.inl ⟨np_neg, _, rfl⟩⟩
      · obtain ⟨f', e1, e2⟩ := freduce1 n1 hg hvb2 z0
        obtain ⟨w', hw'⟩ : ∃ w' : Nat → Nat, w' = fun k => v k / gcdN v N := ⟨_, rfl⟩
        have e1' : ∀ k, k < N → f' k = nI (w' k) := fun k hk => by rw [hw']; exact e1 k hk
        have hw4' : ∀ k, k < N → f4 (8 + k) = nI (w' k) := fun k hk => by rw [hw']; exact hw4 k hk
        have hS' : 0 < sumN w' N := by rw [hw']; exact div_sum_pos z0
        have hwb2 : ∀ k, k < N → w' k ≤ 99000000 := fun k hk => by rw [hw']; exact Nat.le_trans (Nat.div_le_self _ _) (hvb k hk)
        have hwb3 : ∀ k, k < N → w' k < 2147483648 := fun k hk => by have := hwb2 k hk; omega
        have hM : maxN w' N ≤ 99000000 := maxN_le N hwb2
        have hM0 : 0 < maxN w' N := by
          apply Nat.pos_of_ne_zero
          intro h0
          have : sumN w' N = 0 := (sumN_0 N).mpr (fun k hk => by have := le_maxN (w := w') N k hk; omega)
          omega
        have eM := fgreatC (f := f') n1 e1' hwb3
        rw [← hw'] at eL
        have hMn : ¬ nI (maxN w' N) = (0 : Int32) := by rw [li_0, sI_eq (by omega) (by omega)]; omega
        rw [e2, eL, am_call2_e, am_call3_e, if_neg nI10, if_neg hMn, eM, Option.bind_some]
        by_cases hM1 : maxN w' N ≤ 1000000
        · have hwb : ∀ k, k < N → w' k ≤ 1000000 := fun k hk => Nat.le_trans (le_maxN N k hk) hM1
          have eE := feffC (f := f') n1 e1' hwb hS'
          have hE := eff_le (w := w') n0 n1
          have f40 : f4 0 = nI N := by rw [a1 0 (by omega)]; exact s0
          have f41 : f4 1 = nI G := by rw [a1 1 (by omega)]; exact s1
          have f45 : f4 5 = nI th := by rw [a1 5 (by omega)]; exact s5
          have eF := feffM (s := f4) f40 n1 hw4' hwb hS'
          obtain ⟨E, hEE⟩ : ∃ E, E = sumN w' N * sumN w' N / sumN (fun k => w' k * w' k) N := ⟨_, rfl⟩
          rw [← hEE] at eE eF hE
          have hat : F_X2_at 3 sf (0 : Int32) = some (nI th) := by rw [li_0, fat (by omega) (by omega), r5, s5]
          have pM : nI (maxN w' N) ≤ (1000000 : Int32) := by rw [li_1000000, sI_le (by omega) (by omega)]; exact hM1
          have pM2 : ¬ (1000000 : Int32) < nI (maxN w' N) := Int32.not_lt.mpr pM
          have q5 : f4 (5 : Int32).toNatClampNeg = nI th := f45
          have q1 : f4 (1 : Int32).toNatClampNeg = nI G := f41
          rw [if_pos pM, if_neg pM2, eE, eF, Option.bind_some, Option.bind_some, hat, Option.bind_some, q5, q1]
          -- the second look
          rcases b3 with ⟨z1, -⟩ | ⟨-, hw5, eL2⟩
          · omega
          rw [← hw'] at eL2
          have hw5' : ∀ k, k < N → d4 (8 + k) = nI (w' k) := fun k hk => by rw [hw']; exact hw5 k hk
          have d40 : d4 0 = nI N := by rw [b1 0 (by omega)]; exact s0
          have eF2 := feffM (s := d4) d40 n1 hw5' hwb hS'
          rw [← hEE] at eF2
          have hG2 : Good N G z th sc of w' pl pa d4 := good_w hG b1 hw5' hwb hS'
          have hR2 : Rel N G (s 2) (s 3) (s 4) (nI N) (nI G) lplf lpaf logf ldrf lspf lscf (nI N) f' sf d4 := rel_w n1 hR b1 (fun k hk => (e1' k hk).trans (hw5' k hk).symm)
          have hG3 : Good N G z th sc of w' pl pa (upd d4 3 (d4 3 + nI 1)) := good_3 hG2 (fun i hi => upd_n hi)
          have hR3 : Rel N G (s 2) (s 3 + nI 1) (s 4) (nI N) (nI G) lplf lpaf logf ldrf lspf lscf (nI N) f' sf (upd d4 3 (d4 3 + nI 1)) := rel_3 hR2 (fun i hi => upd_n hi) (by rw [upd_s, b1 3 (by omega)])
          have u5 : (upd d4 3 (d4 3 + nI 1)) 5 = nI th := by rw [upd_n (by omega), b1 5 (by omega)]; exact s5
          have u5' : (upd d4 (3 : Int32).toNatClampNeg (d4 (3 : Int32).toNatClampNeg + (1 : Int32))) (5 : Int32).toNatClampNeg = nI th := u5
          have z00 : (0 : Int32) ≤ 0 := by decide
          by_cases hT : th ≤ E
          · have pT : nI th ≤ nI E := by rw [sI_le (by omega) (by omega)]; exact hT
            rw [if_pos pT, if_pos pT]
            simp only [eR', if_pos z00, hc, am_call2_e, eL2, am_call3_e, eF2, Option.bind_some, u5', if_pos pT]
            exact ⟨nI E, _, _, _, _, _, _, _, _, _, _, _, _, _, rfl, Or.inr ⟨nI_nn (by omega), G, z, w', pl, pa, _, _, _, _, _, rfl, hG3, hR3⟩⟩
          · have pT : ¬ nI th ≤ nI E := by rw [sI_le (by omega) (by omega)]; exact hT
            rw [if_neg pT, if_neg pT]
            by_cases hG20 : G = 20
            · subst hG20
              have p20 : nI 20 = (20 : Int32) := id rfl
              rw [frenew20, am_call13_e, if_pos rfl, if_pos p20]
              simp only [eR', if_neg lim_neg]
              exact ⟨-1000003, _, _, _, _, _, _, _, _, _, _, _, _, _, rfl, Or.inl ⟨lim_neg, _, rfl⟩⟩
            · obtain ⟨x, noi', res', lplf', lpaf', logf', lscf', wf', cnoi', canc', crst', z', w2, pl', pa', s', q4, q5, q6, k1, k2, k3, k4, k5, k6⟩ := fresam hG3 hR3 (by omega : G < 20) mchosen mtimes mrests cnoi canc crst
              have nx := nI_ne_lim (a := x) (by omega)
              have p20 : ¬ nI G = (20 : Int32) := by rw [li_20, sI_eq (by omega) (by omega)]; exact hG20
              have k2' : F_X7_resamples (upd d4 (3 : Int32).toNatClampNeg (d4 (3 : Int32).toNatClampNeg + (1 : Int32))) mchosen mtimes mrests = some (s', q4, q5, q6) := k2
              rw [k1, am_call13_e, if_neg nx, if_neg p20]
              simp only [eR', if_pos z00, hc, am_call2_e, eL2, am_call3_e, eF2, Option.bind_some, u5', if_neg pT, k2', am_call4_e]
              exact ⟨nI E, _, _, _, _, _, _, _, _, _, _, _, _, _, rfl, Or.inr ⟨nI_nn (by omega), G + 1, z', w2, pl', pa', s', _, _, _, _, rfl, k5, k6⟩⟩
        · have pM : ¬ nI (maxN w' N) ≤ (1000000 : Int32) := by rw [li_1000000, sI_le (by omega) (by omega)]; exact hM1
          have pM2 : (1000000 : Int32) < nI (maxN w' N) := Int32.not_le.mp pM
          rw [if_neg pM, if_pos pM2]
          simp only [eR', if_neg lim_neg]
          exact ⟨-1000003, _, _, _, _, _, _, _, _, _, _, _, _, _, rfl, Or.inl ⟨lim_neg, _, rfl⟩⟩
    · have c2' : F_X6_isWithin p1 (1 : Int32) (99 : Int32) = some (nI 0) := c2
      simp only [c1', c2', Option.bind_some, nI10, if_false, if_pos nI00]
      exact ⟨-1000001, _, _, _, _, _, _, _, _, _, _, _, _, _, rfl, Or.inl ⟨inv_neg, _, rfl⟩⟩
  · have c1' : F_X6_isWithin p0 (0 : Int32) (99 : Int32) = some (nI 0) := c1
    simp only [c1', Option.bind_some, if_pos nI00]
    exact ⟨-1000001, _, _, _, _, _, _, _, _, _, _, _, _, _, rfl, Or.inl ⟨inv_neg, _, rfl⟩⟩
end Obs
