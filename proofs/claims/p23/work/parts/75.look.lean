-- the class's observe, explicit
def effN (w : Nat → Nat) (N : Nat) : Nat := sumN w N * sumN w N / sumN (fun k => w k * w k) N
section Look2
variable {N G : Nat} {g w q : Nat → Int32} {pl pa : Nat → Nat → Nat} {v v1 : Nat → Int32} {f f1 : Nat → Nat → Int32}
section Raw
variable {noi obs res : Int32} {z th sc of a b : Nat} {wn : Nat → Nat} {lplf lpaf logf lscf wf sf : Nat → Int32} {cnoi : Int32} {canc : Nat → Int32} {crst : Nat → Int64}
theorem xlook_np (n0 : 0 < N) (n1 : N ≤ 12) (g0 : 1 ≤ G) (g1 : G ≤ 20) (ha : a ≤ 99) (hb1 : 1 ≤ b) (hb : b ≤ 99) (hw : ∀ k, k < N → wf k = nI (wn k)) (swb : ∀ k, k < N → wn k ≤ 1000000) (hpl : ∀ k, k < N → lplf ((G - 1) * 12 + k) = nI (pl (G - 1) k)) (splb : ∀ h k, h < G → k < N → pl h k ≤ 99) (z0 : gcdN (seenN pl G a b wn) N = 0) : ∃ f6, F_X4_look noi obs res (nI N) (nI G) lplf lpaf logf lscf (nI N) wf sf cnoi canc crst (nI a) (nI b) = some (-1000002, noi, obs, res, nI G, lplf, lpaf, logf, lscf, nI N, f6, cnoi, canc, crst) := by
  have c1' : F_X6_isWithin (nI a) (0 : Int32) (99 : Int32) = some (nI 1) := inW (j := a) (a := 0) (b := 99) (Nat.zero_le _) ha (by omega)
  have c2' : F_X6_isWithin (nI b) (1 : Int32) (99 : Int32) = some (nI 1) := inW (j := b) (a := 1) (b := 99) hb1 hb (by omega)
  obtain ⟨g, hg, eC⟩ := flookC (w := wn) (pl := pl) (wf := wf) (lplf := lplf) n0 n1 g0 g1 hw swb hpl splb ha hb
  have hvb2 : ∀ k, k < N → seenN pl G a b wn k < 2147483648 := fun k hk => by have := seen_le (pl := pl) (G := G) (a := a) (b := b) (swb k hk) hb; omega
  have eC' : ∀ K, am_loop2 (F_X4_look_B25 (nI N) K (nI G) lplf (nI a) (nI b)) am_fuel (0 : Int32) wf = K g := eC
  unfold F_X4_look
  simp only [c1', c2', Option.bind_some, nI10, if_false]
  simp only [am_let_e, eC']
  rw [freduce0 n1 hg hvb2 z0, am_call2_e, if_pos nI00]
  exact ⟨_, rfl⟩
theorem xlook_pos {w' : Nat → Nat} (n0 : 0 < N) (n1 : N ≤ 12) (g0 : 1 ≤ G) (g1 : G ≤ 20) (ha : a ≤ 99) (hb1 : 1 ≤ b) (hb : b ≤ 99) (hw : ∀ k, k < N → wf k = nI (wn k)) (swb : ∀ k, k < N → wn k ≤ 1000000) (hpl : ∀ k, k < N → lplf ((G - 1) * 12 + k) = nI (pl (G - 1) k)) (splb : ∀ h k, h < G → k < N → pl h k ≤ 99) (hth : th ≤ 12) (s5 : sf 0 = nI th) (z0 : 0 < gcdN (seenN pl G a b wn) N) (hw' : w' = fun k => seenN pl G a b wn k / gcdN (seenN pl G a b wn) N) : ∃ f6, (∀ k, k < N → f6 k = nI (w' k)) ∧ (1000000 < maxN w' N → F_X4_look noi obs res (nI N) (nI G) lplf lpaf logf lscf (nI N) wf sf cnoi canc crst (nI a) (nI b) = some (-1000003, noi, obs, res, nI G, lplf, lpaf, logf, lscf, nI N, f6, cnoi, canc, crst)) ∧ (maxN w' N ≤ 1000000 → th ≤ effN w' N → F_X4_look noi obs res (nI N) (nI G) lplf lpaf logf lscf (nI N) wf sf cnoi canc crst (nI a) (nI b) = some (nI (effN w' N), noi, obs + nI 1, res, nI G, lplf, lpaf, logf, lscf, nI N, f6, cnoi, canc, crst)) ∧ (maxN w' N ≤ 1000000 → effN w' N < th → ∀ r11 u12 u13 u14 f15 f16 f17 f18 u19 f20 u21 f22 f23, F_X4_renew noi res (nI N) (nI G) lplf lpaf logf lscf (nI N) f6 sf cnoi canc crst = some (r11, u12, u13, u14, f15, f16, f17, f18, u19, f20, u21, f22, f23) → F_X4_look noi obs res (nI N) (nI G) lplf lpaf logf lscf (nI N) wf sf cnoi canc crst (nI a) (nI b) = some (if r11 = (-1000003 : Int32) then (-1000003 : Int32) else nI (effN w' N), u12, obs + nI 1, u13, u14, f15, f16, f17, f18, u19, f20, u21, f22, f23)) := by
  have c1' : F_X6_isWithin (nI a) (0 : Int32) (99 : Int32) = some (nI 1) := inW (j := a) (a := 0) (b := 99) (Nat.zero_le _) ha (by omega)
  have c2' : F_X6_isWithin (nI b) (1 : Int32) (99 : Int32) = some (nI 1) := inW (j := b) (a := 1) (b := 99) hb1 hb (by omega)
  obtain ⟨g, hg, eC⟩ := flookC (w := wn) (pl := pl) (wf := wf) (lplf := lplf) n0 n1 g0 g1 hw swb hpl splb ha hb
  have hvb : ∀ k, k < N → seenN pl G a b wn k ≤ 99000000 := fun k hk => seen_le (swb k hk) hb
  have hvb2 : ∀ k, k < N → seenN pl G a b wn k < 2147483648 := fun k hk => by have := hvb k hk; omega
  have eC' : ∀ K, am_loop2 (F_X4_look_B25 (nI N) K (nI G) lplf (nI a) (nI b)) am_fuel (0 : Int32) wf = K g := eC
  obtain ⟨f6, e1, e2⟩ := freduce1 n1 hg hvb2 z0
  have e1' : ∀ k, k < N → f6 k = nI (w' k) := fun k hk => by rw [hw']; exact e1 k hk
  have hS' : 0 < sumN w' N := by rw [hw']; exact div_sum_pos z0
  have hwb2 : ∀ k, k < N → w' k ≤ 99000000 := fun k hk => by rw [hw']; exact Nat.le_trans (Nat.div_le_self _ _) (hvb k hk)
  have hwb3 : ∀ k, k < N → w' k < 2147483648 := fun k hk => by have := hwb2 k hk; omega
  have hM : maxN w' N ≤ 99000000 := maxN_le N hwb2
  have eM := fgreatC (f := f6) n1 e1' hwb3
  have base : ∀ X, ((if nI (maxN w' N) ≤ (1000000 : Int32) then am_let (obs + (1 : Int32)) fun (x8 : Int32) => Option.bind (F_X5_effectiveCount (nI N) f6) fun (r9 : Int32) => Option.bind (F_X2_at 3 sf (0 : Int32)) fun (r10 : Int32) => if r10 ≤ r9 then some (r9, noi, x8, res, nI G, lplf, lpaf, logf, lscf, nI N, f6, cnoi, canc, crst) else am_call13 (F_X4_renew noi res (nI N) (nI G) lplf lpaf logf lscf (nI N) f6 sf cnoi canc crst) fun r11 u12 u13 u14 f15 f16 f17 f18 u19 f20 u21 f22 f23 => if r11 = (-1000003 : Int32) then some ((-1000003 : Int32), u12, x8, u13, u14, f15, f16, f17, f18, u19, f20, u21, f22, f23) else some (r9, u12, x8, u13, u14, f15, f16, f17, f18, u19, f20, u21, f22, f23) else some ((-1000003 : Int32), noi, obs, res, nI G, lplf, lpaf, logf, lscf, nI N, f6, cnoi, canc, crst)) = X) → F_X4_look noi obs res (nI N) (nI G) lplf lpaf logf lscf (nI N) wf sf cnoi canc crst (nI a) (nI b) = X := by
    intro X hX
    unfold F_X4_look
    simp only [c1', c2', Option.bind_some, nI10, if_false]
    rw [am_let_e, eC']
    rw [e2, am_call2_e, if_neg nI10, eM, Option.bind_some]
    exact hX
  have hat : F_X2_at 3 sf (0 : Int32) = some (nI th) := by rw [li_0, fat (by omega) (by omega), s5]
  refine ⟨f6, e1', fun h1 => base _ ?_, fun h1 h2 => base _ ?_, fun h1 h2 r11 u12 u13 u14 f15 f16 f17 f18 u19 f20 u21 f22 f23 hr => base _ ?_⟩
  · rw [if_neg (by rw [li_1000000, sI_le (by omega) (by omega)]; omega)]
  · have hwb : ∀ k, k < N → w' k ≤ 1000000 := fun k hk => Nat.le_trans (le_maxN N k hk) h1
    have eE : F_X5_effectiveCount (nI N) f6 = some (nI (effN w' N)) := feffC (f := f6) n1 e1' hwb hS'
    have hE : effN w' N ≤ 144 := eff_le (w := w') n0 n1
    rw [if_pos (by rw [li_1000000, sI_le (by omega) (by omega)]; exact h1), am_let_e, eE, Option.bind_some, hat, Option.bind_some, if_pos (by rw [sI_le (by omega) (by omega)]; exact h2)]
    rfl
  · have hwb : ∀ k, k < N → w' k ≤ 1000000 := fun k hk => Nat.le_trans (le_maxN N k hk) h1
    have eE : F_X5_effectiveCount (nI N) f6 = some (nI (effN w' N)) := feffC (f := f6) n1 e1' hwb hS'
    have hE : effN w' N ≤ 144 := eff_le (w := w') n0 n1
    rw [if_pos (by rw [li_1000000, sI_le (by omega) (by omega)]; exact h1), am_let_e, eE, Option.bind_some, hat, Option.bind_some, if_neg (by rw [sI_le (by omega) (by omega)]; omega), hr, am_call13_e]
    by_cases h : r11 = (-1000003 : Int32)
    · rw [if_pos h, if_pos h]; rfl
    · rw [if_neg h, if_neg h]; rfl
end Raw
theorem os_obs_np {a b : Nat} {wn : Nat → Nat} (n0 : 0 < N) (n1 : N ≤ 12) (g0 : 1 ≤ G) (g1 : G ≤ 20) (ha : a ≤ 99) (hb1 : 1 ≤ b) (hb : b ≤ 99) (hw : ∀ k, k < N → w k = nI (wn k)) (swb : ∀ k, k < N → wn k ≤ 1000000) (splb : ∀ h k, h < G → k < N → pl h k ≤ 99) (z0 : gcdN (seenN pl G a b wn) N = 0) : OStep 3 (nI a) (nI b) 0 (RlS N G g w q pl pa) (-1000002) (RlS N G g w q pl pa) := by
  intro v f xn xa xr hR
  refine ⟨fun h => absurd h (by decide), fun h => absurd h (by decide), fun h => absurd h (by decide), fun _ => ?_, fun h => absurd h (by decide), fun h => absurd h (by decide)⟩
  obtain ⟨f', hR', e⟩ := xcopy (v1 := v 1) (f1 := f 1) n1 g1 hR
  have h3 := hR'.1.1
  have h4 := hR'.1.2.1
  have h5 := hR'.1.2.2.1
  rw [h3, h4, h5] at e
  obtain ⟨f6, ex⟩ := xlook_np (pl := pl) (noi := v 0 0) (obs := v 0 1) (res := v 0 2) (lplf := f' 0) (lpaf := f' 1) (logf := f' 2) (lscf := f' 5) (wf := f' 6) (sf := f' 7) (cnoi := xn) (canc := xa) (crst := xr) n0 n1 g0 g1 ha hb1 hb (fun k hk => (hR'.2.1 k hk).trans (hw k hk)) swb (fun k hk => hR'.2.2.2.1 (G - 1) k (by omega) hk) splb z0
  refine ⟨v 0, gF [f' 0, f' 1, f' 2, f' 3, f' 4, f' 5, f6, f' 7], xn, xa, xr, ?_, Or.inl ⟨np_neg, hR⟩⟩
  unfold F_X6_observe
  rw [h3, h4, h5, e, am_call14_e, ex, am_call14_e]
  rfl
theorem os_obs_lim {a b th : Nat} {wn w' : Nat → Nat} (n0 : 0 < N) (n1 : N ≤ 12) (g0 : 1 ≤ G) (g1 : G ≤ 20) (ha : a ≤ 99) (hb1 : 1 ≤ b) (hb : b ≤ 99) (hth : th ≤ 12) (hg5 : g 5 = nI th) (hw : ∀ k, k < N → w k = nI (wn k)) (swb : ∀ k, k < N → wn k ≤ 1000000) (splb : ∀ h k, h < G → k < N → pl h k ≤ 99) (z0 : 0 < gcdN (seenN pl G a b wn) N) (hw' : w' = fun k => seenN pl G a b wn k / gcdN (seenN pl G a b wn) N) (hl : 1000000 < maxN w' N ∨ (G = 20 ∧ maxN w' N ≤ 1000000 ∧ effN w' N < th)) : OStep 3 (nI a) (nI b) 0 (RlS N G g w q pl pa) (-1000003) (RlS N G g w q pl pa) := by
  intro v f xn xa xr hR
  refine ⟨fun h => absurd h (by decide), fun h => absurd h (by decide), fun h => absurd h (by decide), fun _ => ?_, fun h => absurd h (by decide), fun h => absurd h (by decide)⟩
  obtain ⟨f', hR', e⟩ := xcopy (v1 := v 1) (f1 := f 1) n1 g1 hR
  have h3 := hR'.1.1
  have h4 := hR'.1.2.1
  have h5 := hR'.1.2.2.1
  rw [h3, h4, h5] at e
  obtain ⟨f6, ef, x1, x2, x3⟩ := xlook_pos (pl := pl) (noi := v 0 0) (obs := v 0 1) (res := v 0 2) (lplf := f' 0) (lpaf := f' 1) (logf := f' 2) (lscf := f' 5) (wf := f' 6) (sf := f' 7) (cnoi := xn) (canc := xa) (crst := xr) n0 n1 g0 g1 ha hb1 hb (fun k hk => (hR'.2.1 k hk).trans (hw k hk)) swb (fun k hk => hR'.2.2.2.1 (G - 1) k (by omega) hk) splb hth (hR'.1.2.2.2.2.2.2.1.trans hg5) z0 hw'
  rcases hl with hl | ⟨hl1, hl2, hl3⟩
  · refine ⟨v 0, gF [f' 0, f' 1, f' 2, f' 3, f' 4, f' 5, f6, f' 7], xn, xa, xr, ?_, Or.inl ⟨lim_neg, hR⟩⟩
    unfold F_X6_observe
    rw [h3, h4, h5, e, am_call14_e, x1 hl, am_call14_e]
    rfl
  · subst hl1
    have ex := x3 hl2 hl3 _ _ _ _ _ _ _ _ _ _ _ _ _ (frenew20 xn xa xr)
    refine ⟨gI [v 0 0, v 0 1 + nI 1, v 0 2, nI N, nI 20, nI N], gF [f' 0, f' 1, f' 2, f' 3, f' 4, f' 5, f6, f' 7], xn, xa, xr, ?_, Or.inl ⟨lim_neg, hR⟩⟩
    unfold F_X6_observe
    rw [h3, h4, h5, e, am_call14_e, ex, am_call14_e, if_pos rfl]
    rfl
theorem os_obs_ok {a b th : Nat} {wn w' : Nat → Nat} {g' wk : Nat → Int32} (n0 : 0 < N) (n1 : N ≤ 12) (g0 : 1 ≤ G) (g1 : G ≤ 20) (ha : a ≤ 99) (hb1 : 1 ≤ b) (hb : b ≤ 99) (hth : th ≤ 12) (hg5 : g 5 = nI th) (hw : ∀ k, k < N → w k = nI (wn k)) (swb : ∀ k, k < N → wn k ≤ 1000000) (splb : ∀ h k, h < G → k < N → pl h k ≤ 99) (z0 : 0 < gcdN (seenN pl G a b wn) N) (hw' : w' = fun k => seenN pl G a b wn k / gcdN (seenN pl G a b wn) N) (hl : maxN w' N ≤ 1000000) (hE : th ≤ effN w' N) (k3 : g' 3 = g 3 + nI 1) (kr : ∀ i, i ≠ 3 → g' i = g i) (kw : ∀ k, k < N → wk k = nI (w' k)) : OStep 3 (nI a) (nI b) 0 (RlS N G g w q pl pa) (nI (effN w' N)) (RlS N G g' wk q pl pa) := by
  intro v f xn xa xr hR
  refine ⟨fun h => absurd h (by decide), fun h => absurd h (by decide), fun h => absurd h (by decide), fun _ => ?_, fun h => absurd h (by decide), fun h => absurd h (by decide)⟩
  obtain ⟨f', hR', e⟩ := xcopy (v1 := v 1) (f1 := f 1) n1 g1 hR
  have h3 := hR'.1.1
  have h4 := hR'.1.2.1
  have h5 := hR'.1.2.2.1
  rw [h3, h4, h5] at e
  obtain ⟨f6, ef, x1, x2, x3⟩ := xlook_pos (pl := pl) (noi := v 0 0) (obs := v 0 1) (res := v 0 2) (lplf := f' 0) (lpaf := f' 1) (logf := f' 2) (lscf := f' 5) (wf := f' 6) (sf := f' 7) (cnoi := xn) (canc := xa) (crst := xr) n0 n1 g0 g1 ha hb1 hb (fun k hk => (hR'.2.1 k hk).trans (hw k hk)) swb (fun k hk => hR'.2.2.2.1 (G - 1) k (by omega) hk) splb hth (hR'.1.2.2.2.2.2.2.1.trans hg5) z0 hw'
  have hE2 : effN w' N ≤ 144 := eff_le (w := w') n0 n1
  obtain ⟨⟨r3, r4, r5, r0, r1, r2, t0, t1, t2⟩, hw0, hq, hpl, hpa⟩ := hR'
  refine ⟨gI [v 0 0, v 0 1 + nI 1, v 0 2, nI N, nI G, nI N], gF [f' 0, f' 1, f' 2, f' 3, f' 4, f' 5, f6, f' 7], xn, xa, xr, ?_, Or.inr ⟨nI_nn (by omega), ⟨rfl, rfl, rfl, r0.trans (kr 2 (by omega)).symm, (congrArg (fun x => x + nI 1) r1).trans k3.symm, r2.trans (kr 4 (by omega)).symm, t0.trans (kr 5 (by omega)).symm, t1.trans (kr 6 (by omega)).symm, t2.trans (kr 7 (by omega)).symm⟩, fun k hk => (ef k hk).trans (kw k hk).symm, hq, hpl, hpa⟩⟩
  unfold F_X6_observe
  rw [h3, h4, h5, e, am_call14_e, x2 hl hE, am_call14_e]
  rfl
theorem os_obs_re {a b z th sc of : Nat} {wn w' : Nat → Nat} {g' wk q' : Nat → Int32} (hz : z < 65537) (hsc : sc ≤ 2) (hof : of ≤ 99) (n0 : 0 < N) (n1 : N ≤ 12) (g0 : 1 ≤ G) (hG20 : G < 20) (ha : a ≤ 99) (hb1 : 1 ≤ b) (hb : b ≤ 99) (hth : th ≤ 12) (hg2 : g 2 = nI z) (hg5 : g 5 = nI th) (hg6 : g 6 = nI sc) (hg7 : g 7 = nI of) (hw : ∀ k, k < N → w k = nI (wn k)) (swb : ∀ k, k < N → wn k ≤ 1000000) (splb : ∀ h k, h < G → k < N → pl h k ≤ 99) (hpab : ∀ h k, 0 < h → h < G → k < N → pa h k < N) (z0 : 0 < gcdN (seenN pl G a b wn) N) (hw' : w' = fun k => seenN pl G a b wn k / gcdN (seenN pl G a b wn) N) (hl : maxN w' N ≤ 1000000) (hE : effN w' N < th) (k2 : g' 2 = nI (nzW sc N z)) (k3 : g' 3 = g 3 + nI 1) (k4 : g' 4 = g 4 + nI 1) (k5 : g' 5 = g 5) (k6 : g' 6 = g 6) (k7 : g' 7 = g 7) (kw : ∀ k, k < N → wk k = nI 1) (kq : ∀ i, i < 3 * G → q' i = q i) (kq0 : q' (3 * G) = nI 2) (kq2 : q' (3 * G + 2) = nI sc) : OStep 3 (nI a) (nI b) 0 (RlS N G g w q pl pa) (nI (effN w' N)) (RlS N (G + 1) g' wk q' (fun h k => if h = G then pl (G - 1) (chW sc of N w' z k) else pl h k) (fun h k => if h = G then chW sc of N w' z k else pa h k)) := by
  intro v f xn xa xr hR
  refine ⟨fun h => absurd h (by decide), fun h => absurd h (by decide), fun h => absurd h (by decide), fun _ => ?_, fun h => absurd h (by decide), fun h => absurd h (by decide)⟩
  obtain ⟨f', hR', e⟩ := xcopy (v1 := v 1) (f1 := f 1) n1 (by omega) hR
  have h3 := hR'.1.1
  have h4 := hR'.1.2.1
  have h5 := hR'.1.2.2.1
  have h0 : v 0 0 = nI z := hR'.1.2.2.2.1.trans hg2
  rw [h3, h4, h5, h0] at e
  obtain ⟨f6, ef, x1, x2, x3⟩ := xlook_pos (pl := pl) (noi := nI z) (obs := v 0 1) (res := v 0 2) (lplf := f' 0) (lpaf := f' 1) (logf := f' 2) (lscf := f' 5) (wf := f' 6) (sf := f' 7) (cnoi := xn) (canc := xa) (crst := xr) n0 n1 g0 (by omega) ha hb1 hb (fun k hk => (hR'.2.1 k hk).trans (hw k hk)) swb (fun k hk => hR'.2.2.2.1 (G - 1) k (by omega) hk) splb hth (hR'.1.2.2.2.2.2.2.1.trans hg5) z0 hw'
  have hE2 : effN w' N ≤ 144 := eff_le (w := w') n0 n1
  have hwb : ∀ k, k < N → w' k ≤ 1000000 := fun k hk => Nat.le_trans (le_maxN N k hk) hl
  have hS' : 0 < sumN w' N := by rw [hw']; exact div_sum_pos z0
  obtain ⟨fpl, fpa, w1, a5, q6, a1, a2, a3, a4, aw, ax⟩ := xrenew (pl := pl) (pa := pa) (res := v 0 2) (th := th) (lplf := f' 0) (lpaf := f' 1) (logf := f' 2) (lscf := f' 5) (wf := f6) (sf := f' 7) xn xa xr hz hsc hof n0 n1 g0 hG20 ef hwb hS' (hR'.1.2.2.2.2.2.2.2.1.trans hg6) (hR'.1.2.2.2.2.2.2.2.2.trans hg7) (fun k hk => hR'.2.2.2.1 (G - 1) k (by omega) hk) hR'.2.2.2.2 hpab
  have hc : cntN (fun b => (maskN (chW sc of N w' z) N).testBit b) 12 ≤ 12 := cntN_le 12
  have ex := x3 hl hE _ _ _ _ _ _ _ _ _ _ _ _ _ ax
  rw [if_neg (nI_ne_lim (by omega))] at ex
  refine ⟨gI [nI (nzW sc N z), v 0 1 + nI 1, v 0 2 + nI 1, nI N, nI (G + 1), nI N], gF [fpl, fpa, upd (f' 2) G (nI 2), f' 3, f' 4, upd (f' 5) G (nI sc), w1, f' 7], nI (nzW sc N z), a5, q6, ?_, Or.inr ⟨nI_nn (by omega), rls_gen hR' rfl rfl rfl k2.symm ((congrArg (fun x => x + nI 1) hR'.1.2.2.2.2.1).trans k3.symm) ((congrArg (fun x => x + nI 1) hR'.1.2.2.2.2.2.1).trans k4.symm) rfl k5 k6 k7 (fun k hk => (aw k hk).trans (kw k hk).symm) kq ((upd_s _ _ _).trans kq0.symm) (fun h hh => upd_n (by omega)) (fun h => absurd (kq0.symm.trans h) (by decide)) (fun h hh => ⟨rfl, rfl⟩) (fun _ => (upd_s _ _ _).trans kq2.symm) (fun h hh => upd_n (by omega)) a1 a3 a2 a4 n1⟩⟩
  unfold F_X6_observe
  rw [h3, h4, h5, h0, e, am_call14_e, ex, am_call14_e]
  rfl
end Look2
