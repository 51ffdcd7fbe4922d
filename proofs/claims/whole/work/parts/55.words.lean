-- texts on both sides (printed by gen55.py)
theorem s_type {L : Nat} {c : Nat → Nat} {ch text : Nat → Int32} (hT : Txt L c ch text) (p0 : Int32) : ∃ ans L' c' ch' text', F_X6_type (nI L) ch p0 = some (ans, nI L', ch') ∧ F_X7_type (nI L) text p0 = some (ans, nI L', text') ∧ Txt L' c' ch' text' := by
  obtain ⟨hL, hc, hch, htx⟩ := hT
  unfold F_X6_type F_X7_type
  rw [inEq]
  rcases inN p0 (a := 32) (b := 126) (by omega) (by omega) with ⟨x, hx1, hx2, rfl, c1⟩ | ⟨-, c1⟩
  · have c1' : F_X6_isWithin (nI x) (32 : Int32) (126 : Int32) = some (nI 1) := c1
    rw [c1', Option.bind_some, Option.bind_some, if_neg nI10, if_neg nI10]
    unfold F_X3_append
    simp only [am_let]
    by_cases h : L = 60
    · subst h
      refine ⟨-1000003, 60, c, ch, text, ?_, ?_, hL, hc, hch, htx⟩
      · simp (disch := omega) only [li_0, li_1, li_2, li_3, li_4, li_5, li_6, li_7, li_8, li_9, li_10, li_12, li_16, li_20, li_21, li_22, li_32, li_33, li_44, li_45, li_48, li_57, li_59, li_60, li_63, li_74, li_75, li_99, li_100, li_109, li_111, li_114, li_126, li_200, li_340, li_580, li_1740, li_65537, li_1000000, ll_0, ll_1, ll_100, sI_lt, Nat.not_lt_zero, Nat.lt_irrefl, if_false, am_call3_e]
      · simp (disch := omega) only [li_0, li_1, li_2, li_3, li_4, li_5, li_6, li_7, li_8, li_9, li_10, li_12, li_16, li_20, li_21, li_22, li_32, li_33, li_44, li_45, li_48, li_57, li_59, li_60, li_63, li_74, li_75, li_99, li_100, li_109, li_111, li_114, li_126, li_200, li_340, li_580, li_1740, li_65537, li_1000000, ll_0, ll_1, ll_100, if_true]
    · have h60 : L < 60 := by omega
      refine ⟨nI (L + 1), L + 1, fun i => if i = L then x else c i, upd ch L (nI x), upd text L (nI x), ?_, ?_, by omega, fun i hi => ?_, fun i hi => ?_, fun i hi => ?_⟩
      · simp (disch := omega) only [li_0, li_1, li_2, li_3, li_4, li_5, li_6, li_7, li_8, li_9, li_10, li_12, li_16, li_20, li_21, li_22, li_32, li_33, li_44, li_45, li_48, li_57, li_59, li_60, li_63, li_74, li_75, li_99, li_100, li_109, li_111, li_114, li_126, li_200, li_340, li_580, li_1740, li_65537, li_1000000, ll_0, ll_1, ll_100, sI_lt, Nat.not_lt_zero, if_false, h60, if_true, am_in_n, sI_cl, sI_add, am_call3_e]
      · simp (disch := omega) only [li_0, li_1, li_2, li_3, li_4, li_5, li_6, li_7, li_8, li_9, li_10, li_12, li_16, li_20, li_21, li_22, li_32, li_33, li_44, li_45, li_48, li_57, li_59, li_60, li_63, li_74, li_75, li_99, li_100, li_109, li_111, li_114, li_126, li_200, li_340, li_580, li_1740, li_65537, li_1000000, ll_0, ll_1, ll_100, sI_eq, h, if_false, am_in_n, sI_cl, sI_add]
      · show 32 ≤ (if i = L then x else c i) ∧ (if i = L then x else c i) ≤ 126
        by_cases hi2 : i = L
        · rw [if_pos hi2]; exact ⟨hx1, hx2⟩
        · rw [if_neg hi2]; exact hc i (by omega)
      · show _ = nI (if i = L then x else c i)
        by_cases hi2 : i = L
        · subst hi2; rw [if_pos rfl, upd_s]
        · rw [if_neg hi2, upd_n hi2]; exact hch i (by omega)
      · show _ = nI (if i = L then x else c i)
        by_cases hi2 : i = L
        · subst hi2; rw [if_pos rfl, upd_s]
        · rw [if_neg hi2, upd_n hi2]; exact htx i (by omega)
  · have c1' : F_X6_isWithin p0 (32 : Int32) (126 : Int32) = some (nI 0) := c1
    rw [c1', Option.bind_some, Option.bind_some, if_pos nI00, if_pos nI00]
    exact ⟨-1000001, L, c, ch, text, rfl, rfl, hL, hc, hch, htx⟩
theorem txt_0 {c : Nat → Nat} {ch text : Nat → Int32} : Txt 0 c ch text := ⟨by omega, fun i hi => absurd hi (Nat.not_lt_zero i), fun i hi => absurd hi (Nat.not_lt_zero i), fun i hi => absurd hi (Nat.not_lt_zero i)⟩
section Words
variable {v : Nat → Nat → Int32} {f : Nat → Nat → Nat → Int32} {s : Nat → Int32} {r : Nat} {L : Nat} {c : Nat → Nat} {ch text : Nat → Int32}
theorem s_fault (hR : RelS (v 0) (f 0) s) (hT : Txt L c ch text) (u : Nat → Int32) (xn : Int32) (xa : Nat → Int32) (xr : Nat → Int64) (mm : Nat → Int32) (mpast mheld mchosen mtimes : Nat → Int32) (mrests : Nat → Int64) (mbefore mtold : Nat → Int32) (p0 : Int32) : ∃ (ans : Int32) (v' : Nat → Int32) (f' : Nat → Nat → Int32) (u' : Nat → Int32) (xn' : Int32) (xa' : Nat → Int32) (xr' : Nat → Int64) (mm' : Nat → Int32) (s' held' q4 q5 : Nat → Int32) (q6 : Nat → Int64) (q7 q8 : Nat → Int32), F_X6_fault (v 0 0) (v 0 1) (v 0 2) (v 0 3) (v 0 4) (f 0 0) (f 0 1) (f 0 2) (f 0 3) (f 0 4) (f 0 5) (v 0 5) (f 0 6) (f 0 7) (v 1 0) (v 1 1) (v 1 2) (v 1 3) (v 1 4) (f 1 0) (f 1 1) (f 1 2) (f 1 3) (f 1 4) (f 1 5) (v 1 5) (f 1 6) (f 1 7) (nI L) (u 1) (u 2) (u 3) (u 4) (u 5) (u 6) (u 7) (u 8) ch xn xa xr p0 = some (ans, v' 0, v' 1, v' 2, v' 3, v' 4, f' 0, f' 1, f' 2, f' 3, f' 4, f' 5, v' 5, f' 6, f' 7, u' 1, u' 2, u' 3, u' 4, u' 5, u' 6, u' 7, u' 8, xn', xa', xr') ∧ F_X7_fault (nI r) (nI 0) (nI L) (mm 3) (mm 4) (mm 5) (mm 6) (mm 7) (mm 8) s mpast mheld text mchosen mtimes mrests mbefore mtold p0 = some (ans, nI r, nI 0, mm' 3, mm' 4, mm' 5, mm' 6, mm' 7, mm' 8, s', mpast, held', q4, q5, q6, q7, q8) ∧ ∀ i, i < 580 → s' i = s i := by
  obtain ⟨N, G, z, th, sc, of, w, pl, pa, hG, hR⟩ := hR
  obtain ⟨g1, g2, g3, g4, g5, g6, g7, g8, hR2, e⟩ := fcopyState hG hR (v 1 0) (v 1 1) (v 1 2) (v 1 3) (v 1 4) (f 1 0) (f 1 1) (f 1 2) (f 1 3) (f 1 4) (f 1 5) (v 1 5) (f 1 6) (f 1 7)
  obtain ⟨h2, hh2, eh2⟩ := fcopies mheld s
  have hL := hT.1
  obtain ⟨ok, sta', pos', kin', fst', snd', don', rea', cau', noi', obs', res', lgens', lplf', lpaf', logf', ldrf', lspf', lscf', wmany', wf', cnoi', canc', crst', spot', frm', reason', cause', orders', kind', t', chosen', times', rests', before', told', i1, i2, i3⟩ := fplays hT (nI r) mpast L 0 0 am_fuel am_fuel (by omega) (by omega) (by omega) (by rw [fuelE]; omega) (by rw [fuelE]; omega) _ _ _ _ _ _ _ _ _ _ _ _ _ _ _ _ _ _ _ _ _ _ _ _ hG hR2 (u 1) (u 3) (u 4) (u 5) (u 7) (u 8) xn xa xr (nI 0) (mm 5) (mm 6) (mm 8) mchosen mtimes mrests mbefore mtold
  have j1 := (perform_eq (nI L) (u 1) (u 2) (u 3) (u 4) (u 5) (u 6) (u 7) (u 8) ch (v 0 0) (v 0 1) (v 0 2) (v 0 3) (v 0 4) g1 g2 g3 g4 g5 g6 (v 0 5) g7 g8 xn xa xr).trans i1
  have j2 := (plays_eq (nI r) (nI 0) (nI L) (mm 3) (mm 4) (mm 5) (mm 6) (mm 7) (mm 8) s mpast text mchosen mtimes mrests mbefore mtold).trans i2
  obtain ⟨s', hs', es'⟩ := fcopies t' h2
  have hss : ∀ i, i < 580 → s' i = s i := fun i hi => (hs' i hi).trans (hh2 i hi)
  unfold F_X6_fault F_X7_fault
  rw [inEq]
  rcases inN p0 (a := 0) (b := 2) (by omega) (by omega) with ⟨x, -, hx2, rfl, c1⟩ | ⟨-, c1⟩
  · have c1' : F_X6_isWithin (nI x) (0 : Int32) (2 : Int32) = some (nI 1) := c1
    rw [c1', Option.bind_some, Option.bind_some, if_neg nI10, if_neg nI10, e, am_call14_e, j1, am_call24_e, eh2, Option.bind_some, j2, am_call16_e, es', Option.bind_some]
    rcases i3 with ⟨rfl, k1, k2, k3⟩ | ⟨rfl, -⟩
    · rw [if_pos nI00, if_pos nI00]
      have e1 : F_X3_tellOfFault sta' rea' cau' (nI x) = some (if x = 0 then frm' else if x = 1 then reason' else cause') := by
        unfold F_X3_tellOfFault
        simp (disch := omega) only [li_0, li_1, li_2, li_3, li_4, li_5, li_6, li_7, li_8, li_9, li_10, li_12, li_16, li_20, li_21, li_22, li_32, li_33, li_44, li_45, li_48, li_57, li_59, li_60, li_63, li_74, li_75, li_99, li_100, li_109, li_111, li_114, li_126, li_200, li_340, li_580, li_1740, li_65537, li_1000000, ll_0, ll_1, ll_100, sI_eq]
        rw [k1, k2, k3]
        by_cases h0 : x = 0
        · rw [if_pos h0, if_pos h0]
        · by_cases h1 : x = 1
          · rw [if_neg h0, if_neg h0, if_pos h1, if_pos h1]
          · rw [if_neg h0, if_neg h0, if_neg h1, if_neg h1]
      rw [e1, Option.bind_some]
      refine ⟨if x = 0 then frm' else if x = 1 then reason' else cause', gI [noi', obs', res', v 0 3, lgens', wmany'], gF [lplf', lpaf', logf', ldrf', lspf', lscf', wf', g8], gI [0, sta', pos', kin', fst', snd', don', rea', cau'], cnoi', canc', crst', gI [0, 0, 0, spot', frm', reason', cause', orders', kind'], s', h2, chosen', times', rests', before', told', rfl, ?_, hss⟩
      simp (disch := omega) only [li_0, li_1, li_2, li_3, li_4, li_5, li_6, li_7, li_8, li_9, li_10, li_12, li_16, li_20, li_21, li_22, li_32, li_33, li_44, li_45, li_48, li_57, li_59, li_60, li_63, li_74, li_75, li_99, li_100, li_109, li_111, li_114, li_126, li_200, li_340, li_580, li_1740, li_65537, li_1000000, ll_0, ll_1, ll_100, sI_eq]
      by_cases h0 : x = 0
      · rw [if_pos h0, if_pos h0]; rfl
      · by_cases h1 : x = 1
        · rw [if_neg h0, if_neg h0, if_pos h1, if_pos h1]; rfl
        · rw [if_neg h0, if_neg h0, if_neg h1, if_neg h1]; rfl
    · rw [if_neg nI10, if_neg nI10]
      exact ⟨-1000004, gI [noi', obs', res', v 0 3, lgens', wmany'], gF [lplf', lpaf', logf', ldrf', lspf', lscf', wf', g8], gI [0, sta', pos', kin', fst', snd', don', rea', cau'], cnoi', canc', crst', gI [0, 0, 0, spot', frm', reason', cause', orders', kind'], s', h2, chosen', times', rests', before', told', rfl, rfl, hss⟩
  · have c1' : F_X6_isWithin p0 (0 : Int32) (2 : Int32) = some (nI 0) := c1
    rw [c1', Option.bind_some, Option.bind_some, if_pos nI00, if_pos nI00]
    exact ⟨-1000001, v 1, f 1, u, xn, xa, xr, mm, s, mheld, mchosen, mtimes, mrests, mbefore, mtold, rfl, rfl, fun _ _ => rfl⟩
theorem s_play (hR : RelS (v 0) (f 0) s) (hr : r ≤ 4) (hT : Txt L c ch text) (u : Nat → Int32) (xn : Int32) (xa : Nat → Int32) (xr : Nat → Int64) (mm : Nat → Int32) (mpast mheld mchosen mtimes : Nat → Int32) (mrests : Nat → Int64) (mbefore mtold : Nat → Int32) : ∃ (ans : Int32) (v' : Nat → Int32) (f' : Nat → Nat → Int32) (u' : Nat → Int32) (xn' : Int32) (xa' : Nat → Int32) (xr' : Nat → Int64) (mm' : Nat → Int32) (s' held' q4 q5 : Nat → Int32) (q6 : Nat → Int64) (q7 q8 : Nat → Int32), F_X6_play (v 0 0) (v 0 1) (v 0 2) (v 0 3) (v 0 4) (f 0 0) (f 0 1) (f 0 2) (f 0 3) (f 0 4) (f 0 5) (v 0 5) (f 0 6) (f 0 7) (v 1 0) (v 1 1) (v 1 2) (v 1 3) (v 1 4) (f 1 0) (f 1 1) (f 1 2) (f 1 3) (f 1 4) (f 1 5) (v 1 5) (f 1 6) (f 1 7) (nI L) (u 1) (u 2) (u 3) (u 4) (u 5) (u 6) (u 7) (u 8) ch xn xa xr = some (ans, v' 0, v' 1, v' 2, v' 3, v' 4, f' 0, f' 1, f' 2, f' 3, f' 4, f' 5, v' 5, f' 6, f' 7, u' 1, u' 2, u' 3, u' 4, u' 5, u' 6, u' 7, u' 8, xn', xa', xr') ∧ ((¬ 0 ≤ ans ∧ F_X7_play (nI r) (nI 0) (nI L) (mm 3) (mm 4) (mm 5) (mm 6) (mm 7) (mm 8) s mpast mheld text mchosen mtimes mrests mbefore mtold = some (ans, nI r, nI 0, mm' 3, mm' 4, mm' 5, mm' 6, mm' 7, mm' 8, s', mpast, held', q4, q5, q6, q7, q8) ∧ ∀ i, i < 580 → s' i = s i) ∨ (0 ≤ ans ∧ ∃ fp, F_X7_play (nI r) (nI 0) (nI L) (mm 3) (mm 4) (mm 5) (mm 6) (mm 7) (mm 8) s mpast mheld text mchosen mtimes mrests mbefore mtold = some (ans, nI (nx r), nI 0, mm' 3, mm' 4, mm' 5, mm' 6, mm' 7, mm' 8, s', fp, held', q4, q5, q6, q7, q8) ∧ Pushed r s mpast fp ∧ RelS v' f' s')) := by
  obtain ⟨N, G, z, th, sc, of, w, pl, pa, hG, hR⟩ := hR
  obtain ⟨g1, g2, g3, g4, g5, g6, g7, g8, hR2, e⟩ := fcopyState hG hR (v 1 0) (v 1 1) (v 1 2) (v 1 3) (v 1 4) (f 1 0) (f 1 1) (f 1 2) (f 1 3) (f 1 4) (f 1 5) (v 1 5) (f 1 6) (f 1 7)
  obtain ⟨h2, hh2, eh2⟩ := fcopies mheld s
  have hL := hT.1
  obtain ⟨ok, sta', pos', kin', fst', snd', don', rea', cau', noi', obs', res', lgens', lplf', lpaf', logf', ldrf', lspf', lscf', wmany', wf', cnoi', canc', crst', spot', frm', reason', cause', orders', kind', t', chosen', times', rests', before', told', i1, i2, i3⟩ := fplays hT (nI r) mpast L 0 0 am_fuel am_fuel (by omega) (by omega) (by omega) (by rw [fuelE]; omega) (by rw [fuelE]; omega) _ _ _ _ _ _ _ _ _ _ _ _ _ _ _ _ _ _ _ _ _ _ _ _ hG hR2 (u 1) (u 3) (u 4) (u 5) (u 7) (u 8) xn xa xr (nI 0) (mm 5) (mm 6) (mm 8) mchosen mtimes mrests mbefore mtold
  have j1 := (perform_eq (nI L) (u 1) (u 2) (u 3) (u 4) (u 5) (u 6) (u 7) (u 8) ch (v 0 0) (v 0 1) (v 0 2) (v 0 3) (v 0 4) g1 g2 g3 g4 g5 g6 (v 0 5) g7 g8 xn xa xr).trans i1
  have j2 := (plays_eq (nI r) (nI 0) (nI L) (mm 3) (mm 4) (mm 5) (mm 6) (mm 7) (mm 8) s mpast text mchosen mtimes mrests mbefore mtold).trans i2
  obtain ⟨s', hs', es'⟩ := fcopies t' h2
  have hss : ∀ i, i < 580 → s' i = s i := fun i hi => (hs' i hi).trans (hh2 i hi)
  unfold F_X6_play F_X7_play
  rw [e, am_call14_e, eh2, Option.bind_some, j2, am_call16_e, es', Option.bind_some]
  rcases i3 with ⟨rfl, -⟩ | ⟨rfl, -⟩
  · rw [j1, am_call24_e, if_pos nI00, if_pos nI00]
    exact ⟨-1000002, gI [noi', obs', res', v 0 3, lgens', wmany'], gF [lplf', lpaf', logf', ldrf', lspf', lscf', wf', g8], gI [0, sta', pos', kin', fst', snd', don', rea', cau'], cnoi', canc', crst', gI [0, 0, 0, spot', frm', reason', cause', orders', kind'], s', h2, chosen', times', rests', before', told', rfl, Or.inl ⟨np_neg, rfl, hss⟩⟩
  · obtain ⟨fp, hp, hc⟩ := fchanges hr s' mpast
    have hp' : Pushed r s mpast fp := ⟨fun i hi => (hp.1 i hi).trans (hss i hi), hp.2⟩
    obtain ⟨ok2, sta2, pos2, kin2, fst2, snd2, don2, rea2, cau2, noi2, obs2, res2, lgens2, lplf2, lpaf2, logf2, ldrf2, lspf2, lscf2, wmany2, wf2, cnoi2, canc2, crst2, spot2, frm2, reason2, cause2, orders2, kind2, t2, chosen2, times2, rests2, before2, told2, l1, l2, l3⟩ := fplays hT (nI (nx r)) fp L 0 0 am_fuel am_fuel (by omega) (by omega) (by omega) (by rw [fuelE]; omega) (by rw [fuelE]; omega) _ _ _ _ _ _ _ _ _ _ _ _ _ _ _ _ _ _ _ _ _ _ _ _ (good_eq hss hG) (rel_eq hG.1.2.1 hG.1.2.2.2.1 hss hR2) (u 1) (u 3) (u 4) (u 5) (u 7) (u 8) xn xa xr (nI 0) reason' cause' kind' chosen' times' rests' before' told'
    have m1 := (perform_eq (nI L) (u 1) (u 2) (u 3) (u 4) (u 5) (u 6) (u 7) (u 8) ch (v 0 0) (v 0 1) (v 0 2) (v 0 3) (v 0 4) g1 g2 g3 g4 g5 g6 (v 0 5) g7 g8 xn xa xr).trans l1
    have m2 := (plays_eq (nI (nx r)) (nI 0) (nI L) spot' frm' reason' cause' orders' kind' s' fp text chosen' times' rests' before' told').trans l2
    have hok := (am_ret24 (j1.symm.trans m1)).1
    rw [if_neg nI10, hc, am_call2_e, m2, am_call16_e, m1, am_call24_e]
    rcases l3 with ⟨rfl, -⟩ | ⟨rfl, ⟨J, hJ, k1, k2⟩, N', G', z', th', sc', of', w', pl', pa', hG', hR'⟩
    · exact absurd hok (by decide)
    · rw [if_neg nI10, if_neg nI10]
      unfold F_X3_ordersDone
      refine ⟨don2, gI [noi2, obs2, res2, v 0 3, lgens2, wmany2], gF [lplf2, lpaf2, logf2, ldrf2, lspf2, lscf2, wf2, g8], gI [0, sta2, pos2, kin2, fst2, snd2, don2, rea2, cau2], cnoi2, canc2, crst2, gI [0, 0, 0, spot2, frm2, reason2, cause2, orders2, kind2], t2, h2, chosen2, times2, rests2, before2, told2, rfl, Or.inr ⟨by rw [k1]; exact nI_nn (by omega), fp, ?_, hp', _, _, _, _, _, _, _, _, _, hG', hR'⟩⟩
      rw [k1, ← k2]
      rfl
end Words
