-- the class's changes, explicit
theorem inW {j a b : Nat} (h1 : a ≤ j) (h2 : j ≤ b) (hb : b < 2147483648) : F_X6_isWithin (nI j) (nI a) (nI b) = some (nI 1) := by
  unfold F_X6_isWithin
  rw [if_neg (by rw [sI_lt (by omega) (by omega)]; omega), if_neg (by rw [sI_lt (by omega) (by omega)]; omega)]
  rfl
theorem hasPC {i N : Nat} (hi : i < N) (hN : N ≤ 12) : F_X4_hasParticle (nI N) (nI i) = some (nI 1) := by
  have e : nI N - nI 1 = nI (N - 1) := sI_sub (by omega)
  have h := inW (j := i) (a := 0) (b := N - 1) (Nat.zero_le _) (by omega) (by omega)
  unfold F_X4_hasParticle F_X1_many
  simp only [li_0, li_1, li_2, li_3, li_4, li_5, li_6, li_7, li_8, li_9, li_10, li_11, li_12, li_13, li_14, li_15, li_16, li_19, li_20, li_21, li_22, li_23, li_32, li_36, li_48, li_50, li_60, li_63, li_74, li_75, li_98, li_99, li_100, li_199, li_200, li_256, li_7919, li_65537, li_1000000, li_1000001, li_10000000, ll_0, ll_1, ll_100, ll_65535, Option.bind_some, e, h, am_bool1]
def RlS (N G : Nat) (g w q : Nat → Int32) (pl pa : Nat → Nat → Nat) (v : Nat → Int32) (f : Nat → Nat → Int32) : Prop :=
  (v 3 = nI N ∧ v 4 = nI G ∧ v 5 = nI N ∧ v 0 = g 2 ∧ v 1 = g 3 ∧ v 2 = g 4 ∧ f 7 0 = g 5 ∧ f 7 1 = g 6 ∧ f 7 2 = g 7) ∧
  (∀ k, k < N → f 6 k = w k) ∧
  (∀ h, h < G → f 2 h = q (3 * h) ∧ (q (3 * h) = nI 1 → f 3 h = q (3 * h + 1) ∧ f 4 h = q (3 * h + 2)) ∧ (q (3 * h) = nI 2 → f 5 h = q (3 * h + 2))) ∧
  (∀ h k, h < G → k < N → f 0 (h * 12 + k) = nI (pl h k)) ∧
  (∀ h k, 0 < h → h < G → k < N → f 1 (h * 12 + k) = nI (pa h k))
section Cls
variable {N G : Nat} {g w q : Nat → Int32} {pl pa : Nat → Nat → Nat} {v v1 : Nat → Int32} {f f1 : Nat → Nat → Int32}
theorem xcopy (hN : N ≤ 12) (hG : G ≤ 20) (hR : RlS N G g w q pl pa v f) : ∃ f', RlS N G g w q pl pa v f' ∧ F_X4_copyState (v1 0) (v1 1) (v1 2) (v1 3) (v1 4) (f1 0) (f1 1) (f1 2) (f1 3) (f1 4) (f1 5) (v1 5) (f1 6) (f1 7) (v 0) (v 1) (v 2) (v 3) (v 4) (f 0) (f 1) (f 2) (f 3) (f 4) (f 5) (v 5) (f 6) (f 7) = some (v 0, v 1, v 2, v 3, v 4, f' 0, f' 1, f' 2, f' 3, f' 4, f' 5, v 5, f' 6, f' 7) := by
  obtain ⟨⟨r3, r4, r5, r0, r1, r2, t0, t1, t2⟩, hw, hq, hpl, hpa⟩ := hR
  obtain ⟨c1, a1, b1⟩ := fcopyRow 240 (by omega) (f1 0) (f 0)
  obtain ⟨c2, a2, b2⟩ := fcopyRow 240 (by omega) (f1 1) (f 1)
  obtain ⟨c3, a3, b3⟩ := fcopyRow 20 (by omega) (f1 2) (f 2)
  obtain ⟨c4, a4, b4⟩ := fcopyRow 20 (by omega) (f1 3) (f 3)
  obtain ⟨c5, a5, b5⟩ := fcopyRow 20 (by omega) (f1 4) (f 4)
  obtain ⟨c6, a6, b6⟩ := fcopyRow 20 (by omega) (f1 5) (f 5)
  obtain ⟨c7, a7, b7⟩ := fcopyW (v1 5) (v 5) (f1 6) (f 6)
  obtain ⟨c8, a8, b8⟩ := fcopyRow 3 (by omega) (f1 7) (f 7)
  refine ⟨gF [c1, c2, c3, c4, c5, c6, c7, c8], ⟨⟨r3, r4, r5, r0, r1, r2, (a8 0 (by omega)).trans t0, (a8 1 (by omega)).trans t1, (a8 2 (by omega)).trans t2⟩, fun k hk => (a7 k (by omega)).trans (hw k hk), fun h hh => ?_, fun h k hh hk => (a1 _ (by omega)).trans (hpl h k hh hk), fun h k h0 hh hk => (a2 _ (by omega)).trans (hpa h k h0 hh hk)⟩, ?_⟩
  · obtain ⟨o1, o2, o3⟩ := hq h hh
    exact ⟨(a3 h (by omega)).trans o1, fun e => ⟨(a4 h (by omega)).trans (o2 e).1, (a5 h (by omega)).trans (o2 e).2⟩, fun e => (a6 h (by omega)).trans (o3 e)⟩
  · unfold F_X4_copyState F_X1_copyLineage
    simp only [b1, b2, b3, b4, b5, b6, b7, b8, Option.bind_some, am_call8_e, am_call2_e]
    rfl
-- one generation more
theorem rls_gen (hR : RlS N G g w q pl pa v f) {v' : Nat → Int32} {f' : Nat → Nat → Int32} {g' w' q' : Nat → Int32} {pv qv : Nat → Nat} (e3 : v' 3 = nI N) (e4 : v' 4 = nI (G + 1)) (e5 : v' 5 = nI N) (e0 : v' 0 = g' 2) (e1 : v' 1 = g' 3) (e2 : v' 2 = g' 4) (s7 : f' 7 = f 7) (g5 : g' 5 = g 5) (g6 : g' 6 = g 6) (g7 : g' 7 = g 7) (hw : ∀ k, k < N → f' 6 k = w' k) (hq : ∀ i, i < 3 * G → q' i = q i) (o2 : f' 2 G = q' (3 * G)) (o2' : ∀ h, h < G → f' 2 h = f 2 h) (od : q' (3 * G) = nI 1 → f' 3 G = q' (3 * G + 1) ∧ f' 4 G = q' (3 * G + 2)) (od' : ∀ h, h < G → f' 3 h = f 3 h ∧ f' 4 h = f 4 h) (os : q' (3 * G) = nI 2 → f' 5 G = q' (3 * G + 2)) (os' : ∀ h, h < G → f' 5 h = f 5 h) (p1 : ∀ k, k < N → f' 0 (G * 12 + k) = nI (pv k)) (p2 : ∀ i, i < G * 12 → f' 0 i = f 0 i) (a1 : ∀ k, k < N → f' 1 (G * 12 + k) = nI (qv k)) (a2 : ∀ i, i < G * 12 → f' 1 i = f 1 i) (hN : N ≤ 12) : RlS N (G + 1) g' w' q' (fun h k => if h = G then pv k else pl h k) (fun h k => if h = G then qv k else pa h k) v' f' := by
  obtain ⟨⟨r3, r4, r5, r0, r1, r2, t0, t1, t2⟩, hw0, hq0, hpl, hpa⟩ := hR
  refine ⟨⟨e3, e4, e5, e0, e1, e2, by rw [s7, g5]; exact t0, by rw [s7, g6]; exact t1, by rw [s7, g7]; exact t2⟩, hw, fun h hh => ?_, fun h k hh hk => ?_, fun h k h0 hh hk => ?_⟩
  · by_cases e : h = G
    · subst e; exact ⟨o2, od, os⟩
    · have hhG : h < G := by omega
      rw [hq _ (by omega), hq _ (by omega), hq _ (by omega), o2' h hhG, (od' h hhG).1, (od' h hhG).2, os' h hhG]
      exact hq0 h hhG
  · show f' 0 (h * 12 + k) = nI (if h = G then pv k else pl h k)
    by_cases e : h = G
    · subst e; rw [if_pos rfl]; exact p1 k hk
    · rw [p2 _ (by omega), if_neg e]; exact hpl h k (by omega) hk
  · show f' 1 (h * 12 + k) = nI (if h = G then qv k else pa h k)
    by_cases e : h = G
    · subst e; rw [if_pos rfl]; exact a1 k hk
    · rw [a2 _ (by omega), if_neg e]; exact hpa h k h0 (by omega) hk
-- begin
theorem os_begin {n a b : Nat} {g' w' q' : Nat → Int32} {pa' : Nat → Nat → Nat} (hN : N ≤ 12) (hG1 : 1 ≤ G) (hG : G ≤ 20) (hn0 : 1 ≤ n) (hn : n ≤ 12) (ha : a ≤ 99) (hb : b ≤ 99) (k2 : g' 2 = nI 1) (k3 : g' 3 = nI 0) (k4 : g' 4 = nI 0) (k5 : g' 5 = g 5) (k6 : g' 6 = g 6) (k7 : g' 7 = g 7) (kw : ∀ k, k < n → w' k = nI 1) (kq : q' 0 = nI 0) : OStep 0 (nI n) (nI a) (nI b) (RlS N G g w q pl pa) (nI G) (RlS n 1 g' w' q' (fun _ k => if a + k * b ≤ 99 then a + k * b else 99) pa') := by
  intro v f xn xa xr hR
  refine ⟨fun _ => ?_, fun h => absurd h (by decide), fun h => absurd h (by decide), fun h => absurd h (by decide), fun h => absurd h (by decide), fun h => absurd h (by decide)⟩
  obtain ⟨f', hR', e⟩ := xcopy (v1 := v 1) (f1 := f 1) hN hG hR
  have h3 := hR'.1.1
  have h4 := hR'.1.2.1
  have h5 := hR'.1.2.2.1
  have c1 := inW (j := n) (a := 1) (b := 12) hn0 hn (by omega)
  have c2 := inW (j := a) (a := 0) (b := 99) (Nat.zero_le _) ha (by omega)
  have c3 := inW (j := b) (a := 0) (b := 99) (Nat.zero_le _) hb (by omega)
  rw [h3, h4, h5] at e
  obtain ⟨f2, f3, a1, a2, a3⟩ := fstart (nI N) (nI G) (f' 0) (f' 2) hn ha hb
  obtain ⟨f13, a4, a5⟩ := fequal (nI N) (f' 6) hn
  refine ⟨gI [nI 1, nI 0, nI 0, nI n, nI 1, nI n], gF [f2, f' 1, f3, f' 3, f' 4, f' 5, f13, f' 7], ?_, Or.inr ⟨nI_nn (by omega), ⟨rfl, rfl, rfl, k2.symm, k3.symm, k4.symm, hR'.1.2.2.2.2.2.2.1.trans k5.symm, hR'.1.2.2.2.2.2.2.2.1.trans k6.symm, hR'.1.2.2.2.2.2.2.2.2.trans k7.symm⟩, fun k hk => (a4 k hk).trans (kw k hk).symm, fun h hh => ?_, fun h k hh hk => ?_, fun h k h0 hh _ => absurd hh (by omega)⟩⟩
  · unfold F_X6_begin
    rw [h3, h4, h5, e, am_call14_e]
    unfold F_X4_beginAnew F_X1_generations F_X4_startAnew
    simp (disch := omega) only [li_0, li_1, li_2, li_3, li_4, li_5, li_6, li_7, li_8, li_9, li_10, li_11, li_12, li_13, li_14, li_15, li_16, li_19, li_20, li_21, li_22, li_23, li_32, li_36, li_48, li_50, li_60, li_63, li_74, li_75, li_98, li_99, li_100, li_199, li_200, li_256, li_7919, li_65537, li_1000000, li_1000001, li_10000000, ll_0, ll_1, ll_100, ll_65535, c1, c2, c3, Option.bind_some, sI_eq, if_neg, a3, a5, am_call4_e, am_call2_e, am_call9_e, am_call10_e]
    rfl
  · have : h = 0 := by omega
    subst this
    have kq' : q' (3 * 0) = nI 0 := kq
    rw [kq']
    exact ⟨a2, fun e => absurd e (by decide), fun e => absurd e (by decide)⟩
  · have : h = 0 := by omega
    subst this
    show f2 (0 * 12 + k) = _
    rw [show 0 * 12 + k = k by omega]
    exact a1 k hk
-- weigh
theorem xweigh0 {wf : Nat → Int32} {wn : Nat → Nat} {i x : Nat} (hN : N ≤ 12) (hi : i < N) (hx : x ≤ 1000000) (hw : ∀ k, k < N → wf k = nI (wn k)) (hb : ∀ k, k < N → wn k ≤ 1000000) (hz : sumN (fun k => if k = i then x else wn k) N = 0) : F_X4_changeWeight (nI N) (nI N) wf (nI i) (nI x) = some (-1000002, upd wf i (nI x)) := by
  obtain ⟨w1, hw1⟩ : ∃ w1 : Nat → Nat, w1 = fun k => if k = i then x else wn k := ⟨_, rfl⟩
  rw [← hw1] at hz
  have hb1 : ∀ k, k < N → w1 k < 2147483648 := fun k hk => by
    rw [hw1]
    show (if k = i then x else wn k) < _
    have := hb k hk
    split <;> omega
  have hf1 : ∀ k, k < N → upd wf i (nI x) k = nI (w1 k) := fun k hk => by
    rw [hw1]
    show _ = nI (if k = i then x else wn k)
    by_cases h : k = i
    · subst h; rw [upd_s, if_pos rfl]
    · rw [upd_n h, if_neg h, hw k hk]
  have d1 := inW (j := x) (a := 0) (b := 1000000) (Nat.zero_le _) hx (by omega)
  unfold F_X4_changeWeight
  rw [hasPC hi hN]
  simp (disch := omega) only [li_0, li_1, li_2, li_3, li_4, li_5, li_6, li_7, li_8, li_9, li_10, li_11, li_12, li_13, li_14, li_15, li_16, li_19, li_20, li_21, li_22, li_23, li_32, li_36, li_48, li_50, li_60, li_63, li_74, li_75, li_98, li_99, li_100, li_199, li_200, li_256, li_7919, li_65537, li_1000000, li_1000001, li_10000000, ll_0, ll_1, ll_100, ll_65535, d1, Option.bind_some, sI_eq, if_neg, fputWeight (f := wf) (v := nI x) (show i < 12 by omega)]
  rw [freduce0 hN hf1 hb1 (gcd_zero_of hz)]
  simp (disch := omega) only [am_call2_e, if_true]
theorem xweigh1 {wf : Nat → Int32} {wn w1 : Nat → Nat} {i x : Nat} (hw1 : w1 = fun k => if k = i then x else wn k) (hN : N ≤ 12) (hi : i < N) (hx : x ≤ 1000000) (hw : ∀ k, k < N → wf k = nI (wn k)) (hb : ∀ k, k < N → wn k ≤ 1000000) (hz : 0 < sumN w1 N) : ∃ f', (∀ k, k < N → f' k = nI (w1 k / gcdN w1 N)) ∧ F_X4_changeWeight (nI N) (nI N) wf (nI i) (nI x) = some (nI (w1 i / gcdN w1 N), f') := by
  have hb1 : ∀ k, k < N → w1 k ≤ 1000000 := fun k hk => by
    rw [hw1]
    show (if k = i then x else wn k) ≤ _
    have := hb k hk
    split <;> omega
  have hb2 : ∀ k, k < N → w1 k < 2147483648 := fun k hk => by have := hb1 k hk; omega
  have hf1 : ∀ k, k < N → upd wf i (nI x) k = nI (w1 k) := fun k hk => by
    rw [hw1]
    show _ = nI (if k = i then x else wn k)
    by_cases h : k = i
    · subst h; rw [upd_s, if_pos rfl]
    · rw [upd_n h, if_neg h, hw k hk]
  have d1 := inW (j := x) (a := 0) (b := 1000000) (Nat.zero_le _) hx (by omega)
  obtain ⟨f', a1, a2⟩ := freduce1 hN hf1 hb2 (gcd_pos_of hz)
  refine ⟨f', a1, ?_⟩
  unfold F_X4_changeWeight
  rw [hasPC hi hN]
  simp (disch := omega) only [li_0, li_1, li_2, li_3, li_4, li_5, li_6, li_7, li_8, li_9, li_10, li_11, li_12, li_13, li_14, li_15, li_16, li_19, li_20, li_21, li_22, li_23, li_32, li_36, li_48, li_50, li_60, li_63, li_74, li_75, li_98, li_99, li_100, li_199, li_200, li_256, li_7919, li_65537, li_1000000, li_1000001, li_10000000, ll_0, ll_1, ll_100, ll_65535, d1, Option.bind_some, sI_eq, if_neg, fputWeight (f := wf) (v := nI x) (show i < 12 by omega)]
  rw [a2]
  simp (disch := omega) only [am_call2_e, sI_eq, if_neg, fweightOf (f := f') (show i < 12 by omega), a1 i hi, Option.bind_some]
theorem os_weigh0 {wn : Nat → Nat} {i x : Nat} (hN : N ≤ 12) (hG : G ≤ 20) (hi : i < N) (hx : x ≤ 1000000) (hw : ∀ k, k < N → w k = nI (wn k)) (hb : ∀ k, k < N → wn k ≤ 1000000) (hz : sumN (fun k => if k = i then x else wn k) N = 0) : OStep 1 (nI i) (nI x) 0 (RlS N G g w q pl pa) (-1000002) (RlS N G g w q pl pa) := by
  intro v f xn xa xr hR
  refine ⟨fun h => absurd h (by decide), fun _ => ?_, fun h => absurd h (by decide), fun h => absurd h (by decide), fun h => absurd h (by decide), fun h => absurd h (by decide)⟩
  obtain ⟨f', hR', e⟩ := xcopy (v1 := v 1) (f1 := f 1) hN hG hR
  have h3 := hR'.1.1
  have h4 := hR'.1.2.1
  have h5 := hR'.1.2.2.1
  rw [h3, h4, h5] at e
  refine ⟨v 0, gF [f' 0, f' 1, f' 2, f' 3, f' 4, f' 5, upd (f' 6) i (nI x), f' 7], ?_, Or.inl ⟨np_neg, hR⟩⟩
  unfold F_X6_weigh
  rw [h3, h4, h5, e, am_call14_e, xweigh0 hN hi hx (fun k hk => (hR'.2.1 k hk).trans (hw k hk)) hb hz, am_call2_e]
  rfl
theorem os_weigh1 {wn w1 : Nat → Nat} {w' : Nat → Int32} {i x : Nat} (hw1 : w1 = fun k => if k = i then x else wn k) (hN : N ≤ 12) (hG : G ≤ 20) (hi : i < N) (hx : x ≤ 1000000) (hw : ∀ k, k < N → w k = nI (wn k)) (hb : ∀ k, k < N → wn k ≤ 1000000) (hz : 0 < sumN w1 N) (kw : ∀ k, k < N → w' k = nI (w1 k / gcdN w1 N)) : OStep 1 (nI i) (nI x) 0 (RlS N G g w q pl pa) (nI (w1 i / gcdN w1 N)) (RlS N G g w' q pl pa) := by
  intro v f xn xa xr hR
  refine ⟨fun h => absurd h (by decide), fun _ => ?_, fun h => absurd h (by decide), fun h => absurd h (by decide), fun h => absurd h (by decide), fun h => absurd h (by decide)⟩
  obtain ⟨f', hR', e⟩ := xcopy (v1 := v 1) (f1 := f 1) hN hG hR
  have h3 := hR'.1.1
  have h4 := hR'.1.2.1
  have h5 := hR'.1.2.2.1
  rw [h3, h4, h5] at e
  obtain ⟨f6, a1, a2⟩ := xweigh1 hw1 hN hi hx (fun k hk => (hR'.2.1 k hk).trans (hw k hk)) hb hz
  have hbi : w1 i / gcdN w1 N ≤ 1000000 := by
    refine Nat.le_trans (Nat.div_le_self _ _) ?_
    rw [hw1]
    show (if i = i then x else wn i) ≤ _
    rw [if_pos rfl]
    exact hx
  refine ⟨v 0, gF [f' 0, f' 1, f' 2, f' 3, f' 4, f' 5, f6, f' 7], ?_, Or.inr ⟨nI_nn (by omega), hR'.1, fun k hk => (a1 k hk).trans (kw k hk).symm, hR'.2.2.1, hR'.2.2.2.1, hR'.2.2.2.2⟩⟩
  unfold F_X6_weigh
  rw [h3, h4, h5, e, am_call14_e, a2, am_call2_e]
  rfl
-- set
theorem xset {sf : Nat → Int32} {j M x y : Nat} (hj : j < 3) (hM : M = if j = 0 then 12 else if j = 1 then 2 else 99) (hx : x ≤ M) (hs : sf j = nI y) : F_X4_putSetting sf (nI j) (nI x) = some (nI y, upd sf j (nI x)) := by
  have c1 := inW (j := j) (a := 0) (b := 2) (Nat.zero_le _) (by omega) (by omega)
  have hM2 : M < 100 := by
    rw [hM]
    split
    · omega
    · split <;> omega
  have c2 := inW (j := x) (a := 0) (b := M) (Nat.zero_le _) hx (by omega)
  have e1 := fat (n := 3) (i := j) (f := sf) hj (by omega)
  have e2 := fput (n := 3) (i := j) (f := sf) (v := nI x) hj (by omega)
  unfold F_X4_putSetting F_X4_greatestSetting
  have h3 : j = 0 ∨ j = 1 ∨ j = 2 := by omega
  rcases h3 with rfl | rfl | rfl
  · have : M = 12 := hM
    subst this
    simp (disch := omega) only [if_true, if_false, am_in_n, am_nz_n, am_nzl_n, sI_add, sI_mul, sI_cl, sI_le, sI_lt, sI_eq, sI_l, lN_add, lN_mul, lN_i, sg_gt, sg_le, sg_eq, sg_ge, sI_rem, sI_div, sI_rem2, sL_rem, sL_div, sL_rem2, sI_sub, sI_m1, sI_m1n, sI_or, if_pos, if_neg, Option.bind_some, am_call2_e, am_call3_e, am_call4_e, am_call5_e, am_call6_e, am_call7_e, am_call8_e, am_call9_e, am_call10_e, am_call11_e, am_call12_e, am_call13_e, am_call14_e, li_0, li_1, li_2, li_3, li_4, li_5, li_6, li_7, li_8, li_9, li_10, li_11, li_12, li_13, li_14, li_15, li_16, li_19, li_20, li_21, li_22, li_23, li_32, li_36, li_48, li_50, li_60, li_63, li_74, li_75, li_98, li_99, li_100, li_199, li_200, li_256, li_7919, li_65537, li_1000000, li_1000001, li_10000000, ll_0, ll_1, ll_100, ll_65535, c1, c2, e1, e2, hs]
  · have : M = 2 := hM
    subst this
    simp (disch := omega) only [if_true, if_false, am_in_n, am_nz_n, am_nzl_n, sI_add, sI_mul, sI_cl, sI_le, sI_lt, sI_eq, sI_l, lN_add, lN_mul, lN_i, sg_gt, sg_le, sg_eq, sg_ge, sI_rem, sI_div, sI_rem2, sL_rem, sL_div, sL_rem2, sI_sub, sI_m1, sI_m1n, sI_or, if_pos, if_neg, Option.bind_some, am_call2_e, am_call3_e, am_call4_e, am_call5_e, am_call6_e, am_call7_e, am_call8_e, am_call9_e, am_call10_e, am_call11_e, am_call12_e, am_call13_e, am_call14_e, li_0, li_1, li_2, li_3, li_4, li_5, li_6, li_7, li_8, li_9, li_10, li_11, li_12, li_13, li_14, li_15, li_16, li_19, li_20, li_21, li_22, li_23, li_32, li_36, li_48, li_50, li_60, li_63, li_74, li_75, li_98, li_99, li_100, li_199, li_200, li_256, li_7919, li_65537, li_1000000, li_1000001, li_10000000, ll_0, ll_1, ll_100, ll_65535, c1, c2, e1, e2, hs]
  · have : M = 99 := hM
    subst this
    simp (disch := omega) only [if_true, if_false, am_in_n, am_nz_n, am_nzl_n, sI_add, sI_mul, sI_cl, sI_le, sI_lt, sI_eq, sI_l, lN_add, lN_mul, lN_i, sg_gt, sg_le, sg_eq, sg_ge, sI_rem, sI_div, sI_rem2, sL_rem, sL_div, sL_rem2, sI_sub, sI_m1, sI_m1n, sI_or, if_pos, if_neg, Option.bind_some, am_call2_e, am_call3_e, am_call4_e, am_call5_e, am_call6_e, am_call7_e, am_call8_e, am_call9_e, am_call10_e, am_call11_e, am_call12_e, am_call13_e, am_call14_e, li_0, li_1, li_2, li_3, li_4, li_5, li_6, li_7, li_8, li_9, li_10, li_11, li_12, li_13, li_14, li_15, li_16, li_19, li_20, li_21, li_22, li_23, li_32, li_36, li_48, li_50, li_60, li_63, li_74, li_75, li_98, li_99, li_100, li_199, li_200, li_256, li_7919, li_65537, li_1000000, li_1000001, li_10000000, ll_0, ll_1, ll_100, ll_65535, c1, c2, e1, e2, hs]
theorem os_set {g' : Nat → Int32} {j M x y : Nat} (hN : N ≤ 12) (hG : G ≤ 20) (hj : j < 3) (hM : M = if j = 0 then 12 else if j = 1 then 2 else 99) (hx : x ≤ M) (hy : y < 1000) (hs : g (5 + j) = nI y) (k1 : g' (5 + j) = nI x) (k2 : ∀ i, i ≠ 5 + j → g' i = g i) : OStep 5 (nI j) (nI x) 0 (RlS N G g w q pl pa) (nI y) (RlS N G g' w q pl pa) := by
  intro v f xn xa xr hR
  refine ⟨fun h => absurd h (by decide), fun h => absurd h (by decide), fun h => absurd h (by decide), fun h => absurd h (by decide), fun h => absurd h (by decide), fun _ => ?_⟩
  obtain ⟨f', hR', e⟩ := xcopy (v1 := v 1) (f1 := f 1) hN hG hR
  obtain ⟨⟨r3, r4, r5, r0, r1, r2, t0, t1, t2⟩, hw, hq, hpl, hpa⟩ := hR'
  have hsf : f' 7 j = nI y := by
    have h3 : j = 0 ∨ j = 1 ∨ j = 2 := by omega
    rcases h3 with rfl | rfl | rfl
    · exact t0.trans hs
    · exact t1.trans hs
    · exact t2.trans hs
  have ex := xset hj hM hx hsf
  refine ⟨v 0, gF [f' 0, f' 1, f' 2, f' 3, f' 4, f' 5, f' 6, upd (f' 7) j (nI x)], ?_, Or.inr ⟨nI_nn (by omega), ⟨r3, r4, r5, by rw [k2 2 (by omega)]; exact r0, by rw [k2 3 (by omega)]; exact r1, by rw [k2 4 (by omega)]; exact r2, ?_, ?_, ?_⟩, hw, hq, hpl, hpa⟩⟩
  · unfold F_X6_set
    rw [e, am_call14_e, ex, am_call2_e]
    rfl
  · show upd (f' 7) j (nI x) 0 = _
    by_cases h : j = 0
    · subst h; rw [upd_s]; exact k1.symm
    · rw [upd_n (by omega), k2 5 (by omega)]; exact t0
  · show upd (f' 7) j (nI x) 1 = _
    by_cases h : j = 1
    · subst h; rw [upd_s]; exact k1.symm
    · rw [upd_n (by omega), k2 6 (by omega)]; exact t1
  · show upd (f' 7) j (nI x) 2 = _
    by_cases h : j = 2
    · subst h; rw [upd_s]; exact k1.symm
    · rw [upd_n (by omega), k2 7 (by omega)]; exact t2
end Cls
