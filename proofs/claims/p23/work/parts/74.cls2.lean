-- the class's move, resample and observe, explicit
section Cls2
variable {N G : Nat} {g w q : Nat → Int32} {pl pa : Nat → Nat → Nat} {v v1 : Nat → Int32} {f f1 : Nat → Nat → Int32}
theorem xmove {noi : Int32} {z sp : Nat} {p0 : Int32} {lplf lpaf logf ldrf lspf : Nat → Int32} (hz : z < 65537) (hnoi : noi = nI z) (n1 : N ≤ 12) (g0 : 1 ≤ G) (hG20 : G < 20) (hsp : sp ≤ 99) (c1 : F_X6_isWithin p0 (-99 : Int32) (99 : Int32) = some (nI 1)) (hpl : ∀ k, k < N → lplf ((G - 1) * 12 + k) = nI (pl (G - 1) k)) : ∃ fpl fpa, (∀ k, k < N → fpl (G * 12 + k) = nI (moveP pl G z sp p0 k)) ∧ (∀ k, k < N → fpa (G * 12 + k) = nI k) ∧ (∀ i, i < G * 12 → fpl i = lplf i) ∧ (∀ i, i < G * 12 → fpa i = lpaf i) ∧ F_X4_shift noi (nI N) (nI G) lplf lpaf logf ldrf lspf p0 (nI sp) = some (nI G, nI (nzk z N), nI (G + 1), fpl, fpa, upd logf G (nI 1), upd ldrf G p0, upd lspf G (nI sp)) := by
  have c2 := inW (j := sp) (a := 0) (b := 99) (Nat.zero_le _) hsp (by omega)
  have hl := flateC g0
  have hadd : F_X1_addMoved (nI G) logf ldrf lspf p0 (nI sp) = some (nI (G + 1), upd logf G (nI 1), upd ldrf G p0, upd lspf G (nI sp)) := by
    unfold F_X1_addMoved
    simp only [am_let]
    simp (disch := omega) only [li_0, li_1, li_2, li_3, li_4, li_5, li_6, li_7, li_8, li_9, li_10, li_11, li_12, li_13, li_14, li_15, li_16, li_19, li_20, li_21, li_22, li_23, li_32, li_36, li_48, li_50, li_60, li_63, li_74, li_75, li_98, li_99, li_100, li_199, li_200, li_256, li_7919, li_65537, li_1000000, li_1000001, li_10000000, ll_0, ll_1, ll_100, ll_65535, fput (n := 20) (i := G) (by omega) (by omega), Option.bind_some, sI_add]
  obtain ⟨u, fpl, fpa, ⟨k1, k2, k3, k4, k5⟩, e1⟩ := for4F (b := F_X4_shift_B59 (nI N) (fun u9 f10 f11 => some (nI G, u9, nI (G + 1), f10, f11, upd logf G (nI 1), upd ldrf G p0, upd lspf G (nI sp))) (nI sp) p0 (nI (G - 1)) (nI (G + 1))) nI N (fun j u f g => u = nI (nzk z j) ∧ (∀ k, k < j → f (G * 12 + k) = nI (moveP pl G z sp p0 k)) ∧ (∀ k, k < j → g (G * 12 + k) = nI k) ∧ (∀ i, i < G * 12 → f i = lplf i) ∧ ∀ i, i < G * 12 → g i = lpaf i) (fun u9 f10 f11 => some (nI G, u9, nI (G + 1), f10, f11, upd logf G (nI 1), upd ldrf G p0, upd lspf G (nI sp))) (by
    rintro rec u f g j hj ⟨rfl, k2, k3, k4, k5⟩
    have hz1 := nzk_lt hz j
    have hz2 := nzk_lt hz (j + 1)
    have e2 : (nzk z j * 75 + 74) % 65537 = nzk z (j + 1) := rfl
    have e3 : F_X1_placeIn f (nI (G - 1)) (nI j) = some (nI (pl (G - 1) j)) := by rw [fplaceC (by omega) (by omega), k4 _ (by omega), hpl _ hj]
    refine ⟨nI (nzk z (j + 1)), upd f (G * 12 + j) (nI (moveP pl G z sp p0 j)), upd g (G * 12 + j) (nI j), ⟨rfl, fun k hk => ?_, fun k hk => ?_, fun i hi => by rw [upd_n (by omega)]; exact k4 i hi, fun i hi => by rw [upd_n (by omega)]; exact k5 i hi⟩, ?_⟩
    · by_cases hkj : k = j
      · subst hkj; exact upd_s _ _ _
      · rw [upd_n (by omega)]; exact k2 k (by omega)
    · by_cases hkj : k = j
      · subst hkj; exact upd_s _ _ _
      · rw [upd_n (by omega)]; exact k3 k (by omega)
    · unfold F_X4_shift_B59 F_X1_many
      simp only [am_let]
      simp (disch := omega) only [li_0, li_1, li_2, li_3, li_4, li_5, li_6, li_7, li_8, li_9, li_10, li_11, li_12, li_13, li_14, li_15, li_16, li_19, li_20, li_21, li_22, li_23, li_32, li_36, li_48, li_50, li_60, li_63, li_74, li_75, li_98, li_99, li_100, li_199, li_200, li_256, li_7919, li_65537, li_1000000, li_1000001, li_10000000, ll_0, ll_1, ll_100, ll_65535, Option.bind_some, sI_le, if_neg, fnoise hz1, e2, sI_mul, sI_add, am_nz_n, sI_rem, e3, fnearI, way_eq, fputP hG20 (show j < 12 by omega), am_call2_e]
      rfl) (by
    rintro rec u f g -
    unfold F_X4_shift_B59 F_X1_many
    simp only [am_let]
    simp (disch := omega) only [li_0, li_1, li_2, li_3, li_4, li_5, li_6, li_7, li_8, li_9, li_10, li_11, li_12, li_13, li_14, li_15, li_16, li_19, li_20, li_21, li_22, li_23, li_32, li_36, li_48, li_50, li_60, li_63, li_74, li_75, li_98, li_99, li_100, li_199, li_200, li_256, li_7919, li_65537, li_1000000, li_1000001, li_10000000, ll_0, ll_1, ll_100, ll_65535, Option.bind_some, sI_le, if_pos]) 0 (Nat.zero_le _) am_fuel (by rw [fuelE]; omega) noi lplf lpaf ⟨hnoi, fun k hk => absurd hk (Nat.not_lt_zero k), fun k hk => absurd hk (Nat.not_lt_zero k), fun _ _ => rfl, fun _ _ => rfl⟩
  refine ⟨fpl, fpa, k2, k3, k4, k5, ?_⟩
  unfold F_X4_shift F_X1_generations
  rw [c1]
  simp only [am_let]
  simp (disch := omega) only [li_0, li_1, li_2, li_3, li_4, li_5, li_6, li_7, li_8, li_9, li_10, li_11, li_12, li_13, li_14, li_15, li_16, li_19, li_20, li_21, li_22, li_23, li_32, li_36, li_48, li_50, li_60, li_63, li_74, li_75, li_98, li_99, li_100, li_199, li_200, li_256, li_7919, li_65537, li_1000000, li_1000001, li_10000000, ll_0, ll_1, ll_100, ll_65535, c2, Option.bind_some, sI_eq, sI_lt, if_pos, if_neg, hl, hadd, am_call4_e, flateC (G := G + 1) (by omega), Nat.add_sub_cancel]
  rw [e1, k1]
theorem os_move20 {p0 : Int32} {sp : Nat} (hN : N ≤ 12) (hsp : sp ≤ 99) (c1 : F_X6_isWithin p0 (-99 : Int32) (99 : Int32) = some (nI 1)) : OStep 2 p0 (nI sp) 0 (RlS N 20 g w q pl pa) (-1000003) (RlS N 20 g w q pl pa) := by
  intro v f xn xa xr hR
  refine ⟨fun h => absurd h (by decide), fun h => absurd h (by decide), fun _ => ?_, fun h => absurd h (by decide), fun h => absurd h (by decide), fun h => absurd h (by decide)⟩
  obtain ⟨f', hR', e⟩ := xcopy (v1 := v 1) (f1 := f 1) hN (Nat.le_refl 20) hR
  have h3 := hR'.1.1
  have h4 := hR'.1.2.1
  have h5 := hR'.1.2.2.1
  have c2 := inW (j := sp) (a := 0) (b := 99) (Nat.zero_le _) hsp (by omega)
  rw [h3, h4, h5] at e
  refine ⟨v 0, f', ?_, Or.inl ⟨lim_neg, hR⟩⟩
  have ex : ∀ a b c d e', F_X4_shift (v 0 0) (nI N) (nI 20) a b c d e' p0 (nI sp) = some (-1000003, v 0 0, nI 20, a, b, c, d, e') := by
    intro a b c d e'
    unfold F_X4_shift F_X1_generations
    rw [c1]
    simp (disch := omega) only [li_0, li_1, li_2, li_3, li_4, li_5, li_6, li_7, li_8, li_9, li_10, li_11, li_12, li_13, li_14, li_15, li_16, li_19, li_20, li_21, li_22, li_23, li_32, li_36, li_48, li_50, li_60, li_63, li_74, li_75, li_98, li_99, li_100, li_199, li_200, li_256, li_7919, li_65537, li_1000000, li_1000001, li_10000000, ll_0, ll_1, ll_100, ll_65535, c2, Option.bind_some, sI_eq, sI_lt, if_neg, Nat.lt_irrefl, if_false]
  unfold F_X6_move
  rw [h3, h4, h5, e, am_call14_e, ex, am_call8_e]
theorem os_move {p0 : Int32} {z sp : Nat} {g' q' : Nat → Int32} (hz : z < 65537) (hg2 : g 2 = nI z) (hN : N ≤ 12) (g0 : 1 ≤ G) (hG20 : G < 20) (hsp : sp ≤ 99) (c1 : F_X6_isWithin p0 (-99 : Int32) (99 : Int32) = some (nI 1)) (k2 : g' 2 = nI (nzk z N)) (k3 : ∀ i, i ≠ 1 → i ≠ 2 → g' i = g i) (kq : ∀ i, i < 3 * G → q' i = q i) (kq0 : q' (3 * G) = nI 1) (kq1 : q' (3 * G + 1) = p0) (kq2 : q' (3 * G + 2) = nI sp) : OStep 2 p0 (nI sp) 0 (RlS N G g w q pl pa) (nI G) (RlS N (G + 1) g' w q' (fun h k => if h = G then moveP pl G z sp p0 k else pl h k) (fun h k => if h = G then k else pa h k)) := by
  intro v f xn xa xr hR
  refine ⟨fun h => absurd h (by decide), fun h => absurd h (by decide), fun _ => ?_, fun h => absurd h (by decide), fun h => absurd h (by decide), fun h => absurd h (by decide)⟩
  obtain ⟨f', hR', e⟩ := xcopy (v1 := v 1) (f1 := f 1) hN (by omega) hR
  have h3 := hR'.1.1
  have h4 := hR'.1.2.1
  have h5 := hR'.1.2.2.1
  have h0 : v 0 0 = nI z := hR'.1.2.2.2.1.trans hg2
  rw [h3, h4, h5] at e
  obtain ⟨fpl, fpa, a1, a2, a3, a4, a5⟩ := xmove (pl := pl) (lplf := f' 0) (lpaf := f' 1) (logf := f' 2) (ldrf := f' 3) (lspf := f' 4) hz h0 hN g0 hG20 hsp c1 (fun k hk => hR'.2.2.2.1 (G - 1) k (by omega) hk)
  refine ⟨gI [nI (nzk z N), v 0 1, v 0 2, nI N, nI (G + 1), nI N], gF [fpl, fpa, upd (f' 2) G (nI 1), upd (f' 3) G p0, upd (f' 4) G (nI sp), f' 5, f' 6, f' 7], ?_, Or.inr ⟨nI_nn (by omega), rls_gen hR' rfl rfl rfl k2.symm ((hR'.1.2.2.2.2.1).trans (k3 3 (by omega) (by omega)).symm) ((hR'.1.2.2.2.2.2.1).trans (k3 4 (by omega) (by omega)).symm) rfl (k3 5 (by omega) (by omega)) (k3 6 (by omega) (by omega)) (k3 7 (by omega) (by omega)) hR'.2.1 kq ((upd_s _ _ _).trans kq0.symm) (fun h hh => upd_n (by omega)) (fun _ => ⟨(upd_s _ _ _).trans kq1.symm, (upd_s _ _ _).trans kq2.symm⟩) (fun h hh => ⟨upd_n (by omega), upd_n (by omega)⟩) (fun h => absurd (kq0.symm.trans h) (by decide)) (fun h hh => rfl) a1 a3 a2 a4 hN⟩⟩
  unfold F_X6_move
  rw [h3, h4, h5, e, am_call14_e, a5, am_call8_e]
  rfl
-- resampling
theorem xrenew {res : Int32} {z th sc of : Nat} {wn : Nat → Nat} {lplf lpaf logf lscf wf sf : Nat → Int32} (cnoi : Int32) (canc : Nat → Int32) (crst : Nat → Int64) (hz : z < 65537) (hsc : sc ≤ 2) (hof : of ≤ 99) (n0 : 0 < N) (n1 : N ≤ 12) (g0 : 1 ≤ G) (hG20 : G < 20) (hw : ∀ k, k < N → wf k = nI (wn k)) (hb : ∀ k, k < N → wn k ≤ 1000000) (sS : 0 < sumN wn N) (s6 : sf 1 = nI sc) (s7 : sf 2 = nI of) (hpl : ∀ k, k < N → lplf ((G - 1) * 12 + k) = nI (pl (G - 1) k)) (hpa : ∀ h k, 0 < h → h < G → k < N → lpaf (h * 12 + k) = nI (pa h k)) (hpab : ∀ h k, 0 < h → h < G → k < N → pa h k < N) : ∃ fpl fpa w1 a5 q6, (∀ k, k < N → fpl (G * 12 + k) = nI (pl (G - 1) (chW sc of N wn z k))) ∧ (∀ k, k < N → fpa (G * 12 + k) = nI (chW sc of N wn z k)) ∧ (∀ i, i < G * 12 → fpl i = lplf i) ∧ (∀ i, i < G * 12 → fpa i = lpaf i) ∧ (∀ k, k < N → w1 k = nI 1) ∧ F_X4_renew (nI z) res (nI N) (nI G) lplf lpaf logf lscf (nI N) wf sf cnoi canc crst = some (nI (cntN (fun b => (maskN (chW sc of N wn z) N).testBit b) 12), nI (nzW sc N z), res + nI 1, nI (G + 1), fpl, fpa, upd logf G (nI 2), upd lscf G (nI sc), nI N, w1, nI (nzW sc N z), a5, q6) := by
  have hch : ∀ k, k < N → chW sc of N wn z k < N := fun k hk => chW_lt hof sS hk
  obtain ⟨a5, q6, hc5, ec⟩ := fchooseC cnoi canc crst n1 hof hsc hz hw hb sS
  obtain ⟨w1, hw1, ew1⟩ := fequal (nI N) wf n1
  have hl := flateC g0
  have hadd : F_X1_addResampled (nI G) logf lscf (nI sc) = some (nI (G + 1), upd logf G (nI 2), upd lscf G (nI sc)) := by
    unfold F_X1_addResampled
    simp only [am_let]
    simp (disch := omega) only [li_0, li_1, li_2, li_3, li_4, li_5, li_6, li_7, li_8, li_9, li_10, li_11, li_12, li_13, li_14, li_15, li_16, li_19, li_20, li_21, li_22, li_23, li_32, li_36, li_48, li_50, li_60, li_63, li_74, li_75, li_98, li_99, li_100, li_199, li_200, li_256, li_7919, li_65537, li_1000000, li_1000001, li_10000000, ll_0, ll_1, ll_100, ll_65535, fput (n := 20) (i := G) (by omega) (by omega), Option.bind_some, sI_add]
  have hat1 : F_X2_at 3 sf (nI 1) = some (nI sc) := by rw [fat (by omega) (by omega), s6]
  have hat2 : F_X2_at 3 sf (nI 2) = some (nI of) := by rw [fat (by omega) (by omega), s7]
  obtain ⟨fpl, fpa, ⟨k2, k3, k4, k5⟩, e1⟩ := for3F (b := F_X4_renew_B66 (nI N) (fun f11 f12 => Option.bind (F_X0_noise (nI (nzW sc N z))) fun r14 => Option.bind (F_X1_many (nI N)) fun r15 => am_call2 (F_X5_makeEqual (nI N) wf r15) fun u16 f17 => Option.bind (F_X1_howManyAreAncestors (nI N) (nI (G + 1)) f12 (nI (G - 1))) fun r19 => some (r19, r14, res + nI 1, nI (G + 1), f11, f12, upd logf G (nI 2), upd lscf G (nI sc), u16, f17, nI (nzW sc N z), a5, q6)) a5 (nI (G - 1)) (nI (G + 1))) nI N (fun j f g => (∀ k, k < j → f (G * 12 + k) = nI (pl (G - 1) (chW sc of N wn z k))) ∧ (∀ k, k < j → g (G * 12 + k) = nI (chW sc of N wn z k)) ∧ (∀ i, i < G * 12 → f i = lplf i) ∧ ∀ i, i < G * 12 → g i = lpaf i) (fun f11 f12 => Option.bind (F_X0_noise (nI (nzW sc N z))) fun r14 => Option.bind (F_X1_many (nI N)) fun r15 => am_call2 (F_X5_makeEqual (nI N) wf r15) fun u16 f17 => Option.bind (F_X1_howManyAreAncestors (nI N) (nI (G + 1)) f12 (nI (G - 1))) fun r19 => some (r19, r14, res + nI 1, nI (G + 1), f11, f12, upd logf G (nI 2), upd lscf G (nI sc), u16, f17, nI (nzW sc N z), a5, q6)) (by
    rintro rec f g j hj ⟨k2, k3, k4, k5⟩
    have hcj := hch j hj
    have e3 : F_X1_placeIn f (nI (G - 1)) (nI (chW sc of N wn z j)) = some (nI (pl (G - 1) (chW sc of N wn z j))) := by rw [fplaceC (by omega) (by omega), k4 _ (by omega), hpl _ hcj]
    have e4 : F_X0_chosenFor a5 (nI j) = some (nI (chW sc of N wn z j)) := by
      unfold F_X0_chosenFor
      simp (disch := omega) only [if_true, if_false, am_in_n, am_nz_n, am_nzl_n, sI_add, sI_mul, sI_cl, sI_le, sI_lt, sI_eq, sI_l, lN_add, lN_mul, lN_i, sg_gt, sg_le, sg_eq, sg_ge, sI_rem, sI_div, sI_rem2, sL_rem, sL_div, sL_rem2, sI_sub, sI_m1, sI_m1n, sI_or, if_pos, if_neg, Option.bind_some, am_call2_e, am_call3_e, am_call4_e, am_call5_e, am_call6_e, am_call7_e, am_call8_e, am_call9_e, am_call10_e, am_call11_e, am_call12_e, am_call13_e, am_call14_e, li_0, li_1, li_2, li_3, li_4, li_5, li_6, li_7, li_8, li_9, li_10, li_11, li_12, li_13, li_14, li_15, li_16, li_19, li_20, li_21, li_22, li_23, li_32, li_36, li_48, li_50, li_60, li_63, li_74, li_75, li_98, li_99, li_100, li_199, li_200, li_256, li_7919, li_65537, li_1000000, li_1000001, li_10000000, ll_0, ll_1, ll_100, ll_65535, hc5 j hj]
    refine ⟨upd f (G * 12 + j) (nI (pl (G - 1) (chW sc of N wn z j))), upd g (G * 12 + j) (nI (chW sc of N wn z j)), ⟨fun k hk => ?_, fun k hk => ?_, fun i hi => by rw [upd_n (by omega)]; exact k4 i hi, fun i hi => by rw [upd_n (by omega)]; exact k5 i hi⟩, ?_⟩
    · by_cases hkj : k = j
      · subst hkj; exact upd_s _ _ _
      · rw [upd_n (by omega)]; exact k2 k (by omega)
    · by_cases hkj : k = j
      · subst hkj; exact upd_s _ _ _
      · rw [upd_n (by omega)]; exact k3 k (by omega)
    · unfold F_X4_renew_B66 F_X1_many
      simp only [am_let]
      simp (disch := omega) only [li_0, li_1, li_2, li_3, li_4, li_5, li_6, li_7, li_8, li_9, li_10, li_11, li_12, li_13, li_14, li_15, li_16, li_19, li_20, li_21, li_22, li_23, li_32, li_36, li_48, li_50, li_60, li_63, li_74, li_75, li_98, li_99, li_100, li_199, li_200, li_256, li_7919, li_65537, li_1000000, li_1000001, li_10000000, ll_0, ll_1, ll_100, ll_65535, Option.bind_some, sI_le, if_neg, e4, e3, sI_add, fputP hG20 (show j < 12 by omega), am_call2_e]) (by
    rintro rec f g -
    unfold F_X4_renew_B66 F_X1_many
    simp only [am_let]
    simp (disch := omega) only [li_0, li_1, li_2, li_3, li_4, li_5, li_6, li_7, li_8, li_9, li_10, li_11, li_12, li_13, li_14, li_15, li_16, li_19, li_20, li_21, li_22, li_23, li_32, li_36, li_48, li_50, li_60, li_63, li_74, li_75, li_98, li_99, li_100, li_199, li_200, li_256, li_7919, li_65537, li_1000000, li_1000001, li_10000000, ll_0, ll_1, ll_100, ll_65535, Option.bind_some, sI_le, if_pos]) 0 (Nat.zero_le _) am_fuel (by rw [fuelE]; omega) lplf lpaf ⟨fun k hk => absurd hk (Nat.not_lt_zero k), fun k hk => absurd hk (Nat.not_lt_zero k), fun _ _ => rfl, fun _ _ => rfl⟩
  have hmask : F_X1_howManyAreAncestors (nI N) (nI (G + 1)) fpa (nI (G - 1)) = some (nI (cntN (fun b => (maskN (chW sc of N wn z) N).testBit b) 12)) := by
    refine fmaskC n1 (fun k hk => by have := hch k hk; omega) (fun k hk => ?_)
    rw [fancC (pa := fun h k => if h = G then chW sc of N wn z k else pa h k) n1 (by omega) (by omega) (by omega) hk (fun h k h1 h2 h3 => ?_) (fun h k h1 h2 h3 => ?_)]
    · have e : G + 1 - 1 - (G - 1) = 1 := by omega
      rw [e]
      show some (nI (if G + 1 - 1 - 0 = G then chW sc of N wn z k else pa (G + 1 - 1 - 0) k)) = some (nI (chW sc of N wn z k))
      rw [if_pos (by omega)]
    · show fpa (h * 12 + k) = nI (if h = G then chW sc of N wn z k else pa h k)
      by_cases hh : h = G
      · subst hh; rw [if_pos rfl]; exact k3 k h3
      · rw [if_neg hh, k5 _ (by omega)]; exact hpa h k h1 (by omega) h3
    · show (if h = G then chW sc of N wn z k else pa h k) < N
      by_cases hh : h = G
      · subst hh; rw [if_pos rfl]; exact hch k h3
      · rw [if_neg hh]; exact hpab h k h1 (by omega) h3
  refine ⟨fpl, fpa, w1, a5, q6, k2, k3, k4, k5, hw1, ?_⟩
  unfold F_X4_renew F_X1_generations
  simp only [am_let]
  simp (disch := omega) only [li_0, li_1, li_2, li_3, li_4, li_5, li_6, li_7, li_8, li_9, li_10, li_11, li_12, li_13, li_14, li_15, li_16, li_19, li_20, li_21, li_22, li_23, li_32, li_36, li_48, li_50, li_60, li_63, li_74, li_75, li_98, li_99, li_100, li_199, li_200, li_256, li_7919, li_65537, li_1000000, li_1000001, li_10000000, ll_0, ll_1, ll_100, ll_65535, Option.bind_some, sI_lt, if_pos, hat1, hat2, ec, am_call3_e, hl, hadd]
  rw [e1]
  unfold F_X0_noise F_X1_many
  simp only [Option.bind_some, ew1, am_call2_e, hmask]
theorem os_res20 (hN : N ≤ 12) : OStep 4 0 0 0 (RlS N 20 g w q pl pa) (-1000003) (RlS N 20 g w q pl pa) := by
  intro v f xn xa xr hR
  refine ⟨fun h => absurd h (by decide), fun h => absurd h (by decide), fun h => absurd h (by decide), fun h => absurd h (by decide), fun _ => ?_, fun h => absurd h (by decide)⟩
  obtain ⟨f', hR', e⟩ := xcopy (v1 := v 1) (f1 := f 1) hN (Nat.le_refl 20) hR
  have h4 := hR'.1.2.1
  rw [h4] at e
  refine ⟨v 0, f', xn, xa, xr, ?_, Or.inl ⟨lim_neg, hR⟩⟩
  unfold F_X6_resample
  rw [h4, e, am_call14_e, frenew20, am_call13_e]
theorem os_res {z th sc of : Nat} {wn : Nat → Nat} {g' w' q' : Nat → Int32} (hz : z < 65537) (hsc : sc ≤ 2) (hof : of ≤ 99) (n0 : 0 < N) (n1 : N ≤ 12) (g0 : 1 ≤ G) (hG20 : G < 20) (hg2 : g 2 = nI z) (hg6 : g 6 = nI sc) (hg7 : g 7 = nI of) (hw : ∀ k, k < N → w k = nI (wn k)) (hb : ∀ k, k < N → wn k ≤ 1000000) (sS : 0 < sumN wn N) (hpab : ∀ h k, 0 < h → h < G → k < N → pa h k < N) (k2 : g' 2 = nI (nzW sc N z)) (k3 : g' 3 = g 3) (k4 : g' 4 = g 4 + nI 1) (k5 : g' 5 = g 5) (k6 : g' 6 = g 6) (k7 : g' 7 = g 7) (kw : ∀ k, k < N → w' k = nI 1) (kq : ∀ i, i < 3 * G → q' i = q i) (kq0 : q' (3 * G) = nI 2) (kq2 : q' (3 * G + 2) = nI sc) : OStep 4 0 0 0 (RlS N G g w q pl pa) (nI (cntN (fun b => (maskN (chW sc of N wn z) N).testBit b) 12)) (RlS N (G + 1) g' w' q' (fun h k => if h = G then pl (G - 1) (chW sc of N wn z k) else pl h k) (fun h k => if h = G then chW sc of N wn z k else pa h k)) := by
  intro v f xn xa xr hR
  refine ⟨fun h => absurd h (by decide), fun h => absurd h (by decide), fun h => absurd h (by decide), fun h => absurd h (by decide), fun _ => ?_, fun h => absurd h (by decide)⟩
  obtain ⟨f', hR', e⟩ := xcopy (v1 := v 1) (f1 := f 1) n1 (by omega) hR
  have h3 := hR'.1.1
  have h4 := hR'.1.2.1
  have h5 := hR'.1.2.2.1
  have h0 : v 0 0 = nI z := hR'.1.2.2.2.1.trans hg2
  rw [h3, h4, h5, h0] at e
  obtain ⟨fpl, fpa, w1, a5, q6, a1, a2, a3, a4, aw, ax⟩ := xrenew (pl := pl) (pa := pa) (res := v 0 2) (th := th) (lplf := f' 0) (lpaf := f' 1) (logf := f' 2) (lscf := f' 5) (wf := f' 6) (sf := f' 7) xn xa xr hz hsc hof n0 n1 g0 hG20 (fun k hk => (hR'.2.1 k hk).trans (hw k hk)) hb sS (hR'.1.2.2.2.2.2.2.2.1.trans hg6) (hR'.1.2.2.2.2.2.2.2.2.trans hg7) (fun k hk => hR'.2.2.2.1 (G - 1) k (by omega) hk) hR'.2.2.2.2 hpab
  refine ⟨gI [nI (nzW sc N z), v 0 1, v 0 2 + nI 1, nI N, nI (G + 1), nI N], gF [fpl, fpa, upd (f' 2) G (nI 2), f' 3, f' 4, upd (f' 5) G (nI sc), w1, f' 7], nI (nzW sc N z), a5, q6, ?_, Or.inr ⟨nI_nn (by have := cntN_le (p := fun b => (maskN (chW sc of N wn z) N).testBit b) 12; omega), rls_gen hR' rfl rfl rfl k2.symm (hR'.1.2.2.2.2.1.trans k3.symm) ((congrArg (fun x => x + nI 1) hR'.1.2.2.2.2.2.1).trans k4.symm) rfl k5 k6 k7 (fun k hk => (aw k hk).trans (kw k hk).symm) kq ((upd_s _ _ _).trans kq0.symm) (fun h hh => upd_n (by omega)) (fun h => absurd (kq0.symm.trans h) (by decide)) (fun h hh => ⟨rfl, rfl⟩) (fun _ => (upd_s _ _ _).trans kq2.symm) (fun h hh => upd_n (by omega)) a1 a3 a2 a4 n1⟩⟩
  unfold F_X6_resample
  rw [h3, h4, h5, h0, e, am_call14_e, ax, am_call13_e]
  rfl
end Cls2
