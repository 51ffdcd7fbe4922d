-- each call on both sides, whole states (printed by gen54.py)
def gI (l : List Int32) (k : Nat) : Int32 := l.getD k 0
def gF (l : List (Nat → Int32)) (k : Nat) : Nat → Int32 := l.getD k (fun _ => 0)
section Calls
variable {v : Nat → Nat → Int32} {f : Nat → Nat → Nat → Int32} {s : Nat → Int32} {r : Nat}
theorem s_begin (hR : RelS (v 0) (f 0) s) (hr : r ≤ 4) (mpast : Nat → Int32) (p0 p1 p2 : Int32) : ∃ ans v' f', F_X6_begin (v 0 0) (v 0 1) (v 0 2) (v 0 3) (v 0 4) (f 0 0) (f 0 1) (f 0 2) (f 0 3) (f 0 4) (f 0 5) (v 0 5) (f 0 6) (f 0 7) (v 1 0) (v 1 1) (v 1 2) (v 1 3) (v 1 4) (f 1 0) (f 1 1) (f 1 2) (f 1 3) (f 1 4) (f 1 5) (v 1 5) (f 1 6) (f 1 7) p0 p1 p2 = some (ans, v' 0, v' 1, v' 2, v' 3, v' 4, f' 0, f' 1, f' 2, f' 3, f' 4, f' 5, v' 5, f' 6, f' 7) ∧ ((¬ 0 ≤ ans ∧ F_X7_begin (nI r) (nI 0) s mpast p0 p1 p2 = some (ans, nI r, s, mpast)) ∨ (0 ≤ ans ∧ ∃ s' fp, F_X7_begin (nI r) (nI 0) s mpast p0 p1 p2 = some (ans, nI (nx r), s', fp) ∧ Pushed r s mpast fp ∧ RelS v' f' s')) := by
  obtain ⟨N, G, z, th, sc, of, w, pl, pa, hG, hR⟩ := hR
  obtain ⟨fp, hp, hc⟩ := fchanges hr s mpast
  obtain ⟨g1, g2, g3, g4, g5, g6, g7, g8, hR2, e⟩ := fcopyState hG hR (v 1 0) (v 1 1) (v 1 2) (v 1 3) (v 1 4) (f 1 0) (f 1 1) (f 1 2) (f 1 3) (f 1 4) (f 1 5) (v 1 5) (f 1 6) (f 1 7)
  obtain ⟨r0, noi', obs', res', lmany', lgens', lplf', logf', wmany', wf', e1, h⟩ := o_begin hG hR2 hc p0 p1 p2
  refine ⟨r0, gI [noi', obs', res', lmany', lgens', wmany'], gF [lplf', g2, logf', g4, g5, g6, wf', g8], ?_, ?_⟩
  · unfold F_X6_begin
    rw [e, am_call14_e, e1]
    rfl
  · rcases h with ⟨h1, h2⟩ | ⟨h1, N', G', z', w', pl', pa', s', h2, h3, h4⟩
    · exact Or.inl ⟨h1, h2⟩
    · exact Or.inr ⟨h1, s', fp, h2, hp, _, _, _, _, _, _, _, _, _, h3, h4⟩
theorem s_weigh (hR : RelS (v 0) (f 0) s) (hr : r ≤ 4) (mpast : Nat → Int32) (p0 p1 : Int32) : ∃ ans v' f', F_X6_weigh (v 0 0) (v 0 1) (v 0 2) (v 0 3) (v 0 4) (f 0 0) (f 0 1) (f 0 2) (f 0 3) (f 0 4) (f 0 5) (v 0 5) (f 0 6) (f 0 7) (v 1 0) (v 1 1) (v 1 2) (v 1 3) (v 1 4) (f 1 0) (f 1 1) (f 1 2) (f 1 3) (f 1 4) (f 1 5) (v 1 5) (f 1 6) (f 1 7) p0 p1 = some (ans, v' 0, v' 1, v' 2, v' 3, v' 4, f' 0, f' 1, f' 2, f' 3, f' 4, f' 5, v' 5, f' 6, f' 7) ∧ ((¬ 0 ≤ ans ∧ F_X7_weigh (nI r) (nI 0) s mpast p0 p1 = some (ans, nI r, s, mpast)) ∨ (0 ≤ ans ∧ ∃ s' fp, F_X7_weigh (nI r) (nI 0) s mpast p0 p1 = some (ans, nI (nx r), s', fp) ∧ Pushed r s mpast fp ∧ RelS v' f' s')) := by
  obtain ⟨N, G, z, th, sc, of, w, pl, pa, hG, hR⟩ := hR
  obtain ⟨fp, hp, hc⟩ := fchanges hr s mpast
  obtain ⟨g1, g2, g3, g4, g5, g6, g7, g8, hR2, e⟩ := fcopyState hG hR (v 1 0) (v 1 1) (v 1 2) (v 1 3) (v 1 4) (f 1 0) (f 1 1) (f 1 2) (f 1 3) (f 1 4) (f 1 5) (v 1 5) (f 1 6) (f 1 7)
  obtain ⟨r0, wf', e1, h⟩ := o_weigh hG hR2 hc p0 p1
  refine ⟨r0, gI [(v 0 0), (v 0 1), (v 0 2), (v 0 3), (v 0 4), (v 0 5)], gF [g1, g2, g3, g4, g5, g6, wf', g8], ?_, ?_⟩
  · unfold F_X6_weigh
    rw [e, am_call14_e, e1]
    rfl
  · rcases h with ⟨h1, h2⟩ | ⟨h1, w', s', h2, h3, h4⟩
    · exact Or.inl ⟨h1, h2⟩
    · exact Or.inr ⟨h1, s', fp, h2, hp, _, _, _, _, _, _, _, _, _, h3, h4⟩
theorem s_move (hR : RelS (v 0) (f 0) s) (hr : r ≤ 4) (mpast : Nat → Int32) (p0 p1 : Int32) : ∃ ans v' f', F_X6_move (v 0 0) (v 0 1) (v 0 2) (v 0 3) (v 0 4) (f 0 0) (f 0 1) (f 0 2) (f 0 3) (f 0 4) (f 0 5) (v 0 5) (f 0 6) (f 0 7) (v 1 0) (v 1 1) (v 1 2) (v 1 3) (v 1 4) (f 1 0) (f 1 1) (f 1 2) (f 1 3) (f 1 4) (f 1 5) (v 1 5) (f 1 6) (f 1 7) p0 p1 = some (ans, v' 0, v' 1, v' 2, v' 3, v' 4, f' 0, f' 1, f' 2, f' 3, f' 4, f' 5, v' 5, f' 6, f' 7) ∧ ((¬ 0 ≤ ans ∧ F_X7_move (nI r) (nI 0) s mpast p0 p1 = some (ans, nI r, s, mpast)) ∨ (0 ≤ ans ∧ ∃ s' fp, F_X7_move (nI r) (nI 0) s mpast p0 p1 = some (ans, nI (nx r), s', fp) ∧ Pushed r s mpast fp ∧ RelS v' f' s')) := by
  obtain ⟨N, G, z, th, sc, of, w, pl, pa, hG, hR⟩ := hR
  obtain ⟨fp, hp, hc⟩ := fchanges hr s mpast
  obtain ⟨g1, g2, g3, g4, g5, g6, g7, g8, hR2, e⟩ := fcopyState hG hR (v 1 0) (v 1 1) (v 1 2) (v 1 3) (v 1 4) (f 1 0) (f 1 1) (f 1 2) (f 1 3) (f 1 4) (f 1 5) (v 1 5) (f 1 6) (f 1 7)
  obtain ⟨r0, noi', lgens', lplf', lpaf', logf', ldrf', lspf', e1, h⟩ := o_move hG hR2 hc p0 p1
  refine ⟨r0, gI [noi', (v 0 1), (v 0 2), (v 0 3), lgens', (v 0 5)], gF [lplf', lpaf', logf', ldrf', lspf', g6, g7, g8], ?_, ?_⟩
  · unfold F_X6_move
    rw [e, am_call14_e, e1]
    rfl
  · rcases h with ⟨h1, h2⟩ | ⟨h1, G', z', pl', pa', s', h2, h3, h4⟩
    · exact Or.inl ⟨h1, h2⟩
    · exact Or.inr ⟨h1, s', fp, h2, hp, _, _, _, _, _, _, _, _, _, h3, h4⟩
theorem s_set (hR : RelS (v 0) (f 0) s) (hr : r ≤ 4) (mpast : Nat → Int32) (p0 p1 : Int32) : ∃ ans v' f', F_X6_set (v 0 0) (v 0 1) (v 0 2) (v 0 3) (v 0 4) (f 0 0) (f 0 1) (f 0 2) (f 0 3) (f 0 4) (f 0 5) (v 0 5) (f 0 6) (f 0 7) (v 1 0) (v 1 1) (v 1 2) (v 1 3) (v 1 4) (f 1 0) (f 1 1) (f 1 2) (f 1 3) (f 1 4) (f 1 5) (v 1 5) (f 1 6) (f 1 7) p0 p1 = some (ans, v' 0, v' 1, v' 2, v' 3, v' 4, f' 0, f' 1, f' 2, f' 3, f' 4, f' 5, v' 5, f' 6, f' 7) ∧ ((¬ 0 ≤ ans ∧ F_X7_set (nI r) (nI 0) s mpast p0 p1 = some (ans, nI r, s, mpast)) ∨ (0 ≤ ans ∧ ∃ s' fp, F_X7_set (nI r) (nI 0) s mpast p0 p1 = some (ans, nI (nx r), s', fp) ∧ Pushed r s mpast fp ∧ RelS v' f' s')) := by
  obtain ⟨N, G, z, th, sc, of, w, pl, pa, hG, hR⟩ := hR
  obtain ⟨fp, hp, hc⟩ := fchanges hr s mpast
  obtain ⟨g1, g2, g3, g4, g5, g6, g7, g8, hR2, e⟩ := fcopyState hG hR (v 1 0) (v 1 1) (v 1 2) (v 1 3) (v 1 4) (f 1 0) (f 1 1) (f 1 2) (f 1 3) (f 1 4) (f 1 5) (v 1 5) (f 1 6) (f 1 7)
  obtain ⟨r0, sf', e1, h⟩ := o_set hG hR2 hc p0 p1
  refine ⟨r0, gI [(v 0 0), (v 0 1), (v 0 2), (v 0 3), (v 0 4), (v 0 5)], gF [g1, g2, g3, g4, g5, g6, g7, sf'], ?_, ?_⟩
  · unfold F_X6_set
    rw [e, am_call14_e, e1]
    rfl
  · rcases h with ⟨h1, h2⟩ | ⟨h1, th', sc', of', s', h2, h3, h4⟩
    · exact Or.inl ⟨h1, h2⟩
    · exact Or.inr ⟨h1, s', fp, h2, hp, _, _, _, _, _, _, _, _, _, h3, h4⟩
theorem s_resample (hR : RelS (v 0) (f 0) s) (hr : r ≤ 4) (mpast : Nat → Int32) (mchosen mtimes : Nat → Int32) (mrests : Nat → Int64) (xn : Int32) (xa : Nat → Int32) (xr : Nat → Int64) : ∃ ans v' f' xn' xa' xr', F_X6_resample (v 0 0) (v 0 1) (v 0 2) (v 0 3) (v 0 4) (f 0 0) (f 0 1) (f 0 2) (f 0 3) (f 0 4) (f 0 5) (v 0 5) (f 0 6) (f 0 7) (v 1 0) (v 1 1) (v 1 2) (v 1 3) (v 1 4) (f 1 0) (f 1 1) (f 1 2) (f 1 3) (f 1 4) (f 1 5) (v 1 5) (f 1 6) (f 1 7) xn xa xr  = some (ans, v' 0, v' 1, v' 2, v' 3, v' 4, f' 0, f' 1, f' 2, f' 3, f' 4, f' 5, v' 5, f' 6, f' 7, xn', xa', xr') ∧ ((¬ 0 ≤ ans ∧ F_X7_resample (nI r) (nI 0) s mpast mchosen mtimes mrests  = some (ans, nI r, s, mpast, mchosen, mtimes, mrests)) ∨ (0 ≤ ans ∧ ∃ s' fp q4 q5 q6, F_X7_resample (nI r) (nI 0) s mpast mchosen mtimes mrests  = some (ans, nI (nx r), s', fp, q4, q5, q6) ∧ Pushed r s mpast fp ∧ RelS v' f' s')) := by
  obtain ⟨N, G, z, th, sc, of, w, pl, pa, hG, hR⟩ := hR
  obtain ⟨fp, hp, hc⟩ := fchanges hr s mpast
  obtain ⟨g1, g2, g3, g4, g5, g6, g7, g8, hR2, e⟩ := fcopyState hG hR (v 1 0) (v 1 1) (v 1 2) (v 1 3) (v 1 4) (f 1 0) (f 1 1) (f 1 2) (f 1 3) (f 1 4) (f 1 5) (v 1 5) (f 1 6) (f 1 7)
  obtain ⟨r0, noi', res', lgens', lplf', lpaf', logf', lscf', wmany', wf', xn', xa', xr', e1, h⟩ := o_resample hG hR2 hc mchosen mtimes mrests xn xa xr 
  refine ⟨r0, gI [noi', (v 0 1), res', (v 0 3), lgens', wmany'], gF [lplf', lpaf', logf', g4, g5, lscf', wf', g8], xn', xa', xr', ?_, ?_⟩
  · unfold F_X6_resample
    rw [e, am_call14_e, e1]
    rfl
  · rcases h with ⟨h1, h2⟩ | ⟨h1, G', z', w', pl', pa', s', q4, q5, q6, h2, h3, h4⟩
    · exact Or.inl ⟨h1, h2⟩
    · exact Or.inr ⟨h1, s', fp, q4, q5, q6, h2, hp, _, _, _, _, _, _, _, _, _, h3, h4⟩
theorem s_observe (hR : RelS (v 0) (f 0) s) (hr : r ≤ 4) (mpast : Nat → Int32) (mchosen mtimes : Nat → Int32) (mrests : Nat → Int64) (mbefore : Nat → Int32) (xn : Int32) (xa : Nat → Int32) (xr : Nat → Int64) (p0 p1 : Int32) : ∃ ans v' f' xn' xa' xr', F_X6_observe (v 0 0) (v 0 1) (v 0 2) (v 0 3) (v 0 4) (f 0 0) (f 0 1) (f 0 2) (f 0 3) (f 0 4) (f 0 5) (v 0 5) (f 0 6) (f 0 7) (v 1 0) (v 1 1) (v 1 2) (v 1 3) (v 1 4) (f 1 0) (f 1 1) (f 1 2) (f 1 3) (f 1 4) (f 1 5) (v 1 5) (f 1 6) (f 1 7) xn xa xr p0 p1 = some (ans, v' 0, v' 1, v' 2, v' 3, v' 4, f' 0, f' 1, f' 2, f' 3, f' 4, f' 5, v' 5, f' 6, f' 7, xn', xa', xr') ∧ ((¬ 0 ≤ ans ∧ ∃ q7, F_X7_observe (nI r) (nI 0) s mpast mchosen mtimes mrests mbefore p0 p1 = some (ans, nI r, s, mpast, mchosen, mtimes, mrests, q7)) ∨ (0 ≤ ans ∧ ∃ s' fp q4 q5 q6 q7, F_X7_observe (nI r) (nI 0) s mpast mchosen mtimes mrests mbefore p0 p1 = some (ans, nI (nx r), s', fp, q4, q5, q6, q7) ∧ Pushed r s mpast fp ∧ RelS v' f' s')) := by
  obtain ⟨N, G, z, th, sc, of, w, pl, pa, hG, hR⟩ := hR
  obtain ⟨fp, hp, hc⟩ := fchanges hr s mpast
  obtain ⟨g1, g2, g3, g4, g5, g6, g7, g8, hR2, e⟩ := fcopyState hG hR (v 1 0) (v 1 1) (v 1 2) (v 1 3) (v 1 4) (f 1 0) (f 1 1) (f 1 2) (f 1 3) (f 1 4) (f 1 5) (v 1 5) (f 1 6) (f 1 7)
  obtain ⟨r0, noi', obs', res', lgens', lplf', lpaf', logf', lscf', wmany', wf', xn', xa', xr', e1, h⟩ := o_observe hG hR2 hc mchosen mtimes mrests mbefore xn xa xr p0 p1
  refine ⟨r0, gI [noi', obs', res', (v 0 3), lgens', wmany'], gF [lplf', lpaf', logf', g4, g5, lscf', wf', g8], xn', xa', xr', ?_, ?_⟩
  · unfold F_X6_observe
    rw [e, am_call14_e, e1]
    rfl
  · rcases h with ⟨h1, q7, h2⟩ | ⟨h1, G', z', w', pl', pa', s', q4, q5, q6, q7, h2, h3, h4⟩
    · exact Or.inl ⟨h1, q7, h2⟩
    · exact Or.inr ⟨h1, s', fp, q4, q5, q6, q7, h2, hp, _, _, _, _, _, _, _, _, _, h3, h4⟩
theorem s_particleOf (hR : RelS (v 0) (f 0) s) (p0 p1 : Int32) : ∃ ans, F_X6_particleOf (v 0 3) (v 0 4) (f 0 0) (f 0 1) (v 0 5) (f 0 6) p0 p1 = some ans ∧ F_X7_particleOf s p0 p1 = some ans := by
  obtain ⟨N, G, z, th, sc, of, w, pl, pa, hG, hR⟩ := hR
  exact q_particleOf hG hR p0 p1
theorem s_generationOf (hR : RelS (v 0) (f 0) s) (p0 p1 : Int32) : ∃ ans, F_X6_generationOf (v 0 3) (v 0 4) (f 0 0) (f 0 1) (f 0 2) (f 0 3) (f 0 4) (f 0 5) p0 p1 = some ans ∧ F_X7_generationOf s p0 p1 = some ans := by
  obtain ⟨N, G, z, th, sc, of, w, pl, pa, hG, hR⟩ := hR
  exact q_generationOf hG hR p0 p1
theorem s_ancestor (hR : RelS (v 0) (f 0) s) (p0 p1 p2 : Int32) : ∃ ans, F_X6_ancestor (v 0 3) (v 0 4) (f 0 0) (f 0 1) p0 p1 p2 = some ans ∧ F_X7_ancestor s p0 p1 p2 = some ans := by
  obtain ⟨N, G, z, th, sc, of, w, pl, pa, hG, hR⟩ := hR
  exact q_ancestor hG hR p0 p1 p2
theorem s_common (hR : RelS (v 0) (f 0) s) (p0 p1 : Int32) : ∃ ans, F_X6_common (v 0 3) (v 0 4) (f 0 1) p0 p1 = some ans ∧ F_X7_common s p0 p1 = some ans := by
  obtain ⟨N, G, z, th, sc, of, w, pl, pa, hG, hR⟩ := hR
  exact q_common hG hR p0 p1
theorem s_root (hR : RelS (v 0) (f 0) s) : ∃ ans, F_X6_root (v 0 3) (v 0 4) (f 0 1)  = some ans ∧ F_X7_root s  = some ans := by
  obtain ⟨N, G, z, th, sc, of, w, pl, pa, hG, hR⟩ := hR
  exact q_root hG hR 
theorem s_mean (hR : RelS (v 0) (f 0) s) (p0 p1 : Int32) : ∃ ans, F_X6_mean (v 0 3) (v 0 4) (f 0 0) (f 0 1) (v 0 5) (f 0 6) p0 p1 = some ans ∧ F_X7_mean s p0 p1 = some ans := by
  obtain ⟨N, G, z, th, sc, of, w, pl, pa, hG, hR⟩ := hR
  exact q_mean hG hR p0 p1
theorem s_share (hR : RelS (v 0) (f 0) s) (p0 p1 p2 p3 : Int32) : ∃ ans, F_X6_share (v 0 3) (v 0 4) (f 0 0) (f 0 1) (v 0 5) (f 0 6) p0 p1 p2 p3 = some ans ∧ F_X7_share s p0 p1 p2 p3 = some ans := by
  obtain ⟨N, G, z, th, sc, of, w, pl, pa, hG, hR⟩ := hR
  exact q_share hG hR p0 p1 p2 p3
theorem s_count (hR : RelS (v 0) (f 0) s) (rec len p0 : Int32) : ∃ ans, F_X6_count rec (v 0 0) (v 0 1) (v 0 2) (v 0 3) (v 0 4) (f 0 0) (v 0 5) (f 0 6) (f 0 7) len p0 = some ans ∧ F_X7_count rec len s p0 = some ans := by
  obtain ⟨N, G, z, th, sc, of, w, pl, pa, hG, hR⟩ := hR
  exact q_count hG hR rec len p0
theorem s_would (hR : RelS (v 0) (f 0) s) (mchosen mtimes : Nat → Int32) (mrests : Nat → Int64) (xn : Int32) (xa : Nat → Int32) (xr : Nat → Int64) (p0 p1 : Int32) : ∃ ans xn' xa' xr' s' q4 q5 q6, F_X6_would (v 0 0) (v 0 3) (v 0 5) (f 0 6) (f 0 7) xn xa xr p0 p1 = some (ans, xn', xa', xr') ∧ F_X7_would s mchosen mtimes mrests p0 p1 = some (ans, s', q4, q5, q6) ∧ ∀ i, s' i = s i := by
  obtain ⟨N, G, z, th, sc, of, w, pl, pa, hG, hR⟩ := hR
  obtain ⟨⟨n0, n1, g0, g1, hz, hth, hsc, hof⟩, ⟨s0, s1, s2, s5, s6, s7⟩, ⟨sw, swb, sS⟩, -⟩ := hG
  obtain ⟨⟨r1, r2, r3, r4, r5, r6, r7, r8, r9⟩, rw_, -⟩ := hR
  have hwf : ∀ k, k < N → f 0 6 k = nI (w k) := fun k hk => (rw_ k hk).trans (sw k hk)
  unfold F_X6_would F_X7_would F_X4_chosenBy
  rw [inEq, r1, r3, r4, s2]
  rcases inN p0 (a := 0) (b := 2) (by omega) (by omega) with ⟨sch, -, hs, rfl, c1⟩ | ⟨-, c1⟩
  · have c1' : F_X6_isWithin (nI sch) (0 : Int32) (2 : Int32) = some (nI 1) := c1
    rcases hasP p1 n0 n1 with ⟨i, hi, rfl, d1, d2⟩ | ⟨d1, d2⟩
    · obtain ⟨a5, q6, hc5, ec⟩ := fchooseC xn xa xr n1 hof hs hz hwf swb sS
      obtain ⟨t, c4, c5, c6, ⟨t2, tr⟩, hm5, em⟩ := fchooseM mchosen mtimes mrests s0 s2 s7 n0 n1 hof hs hz sw swb sS
      have e4 : F_X0_chosenFor a5 (nI i) = some (nI (chW sch of N w z i)) := by
        unfold F_X0_chosenFor
        simp (disch := omega) only [if_true, if_false, am_in_n, am_nz_n, am_nzl_n, sI_add, sI_mul, sI_cl, sI_le, sI_lt, sI_eq, sI_l, lN_add, lN_mul, lN_i, sg_gt, sg_le, sg_eq, sg_ge, sI_rem, sI_div, sI_rem2, sL_rem, sL_div, sL_rem2, sI_sub, sI_m1, sI_m1n, sI_or, if_pos, if_neg, Option.bind_some, am_call2_e, am_call3_e, am_call4_e, am_call5_e, am_call6_e, am_call7_e, am_call8_e, am_call9_e, am_call10_e, am_call11_e, am_call12_e, am_call13_e, am_call14_e, li_0, li_1, li_2, li_3, li_4, li_5, li_6, li_7, li_8, li_9, li_10, li_12, li_16, li_20, li_21, li_22, li_32, li_33, li_44, li_45, li_48, li_57, li_59, li_60, li_63, li_74, li_75, li_99, li_100, li_109, li_111, li_114, li_126, li_200, li_340, li_580, li_1740, li_65537, li_1000000, ll_0, ll_1, ll_100, hc5 i hi]
      have hat : F_X2_at 3 (f 0 7) (2 : Int32) = some (nI of) := by rw [li_2, fat (by omega) (by omega), r9, s7]
      rw [c1', Option.bind_some, Option.bind_some, if_neg nI10, if_neg nI10, d1, d2 s s0, Option.bind_some, Option.bind_some, if_neg nI10, if_neg nI10, hat, Option.bind_some, ec, em, am_call3_e, e4]
      simp only [am_let_e, Option.bind_some, am_call4_e]
      rw [am_in_n (by omega) (by omega), sI_cl (by omega), hm5 i hi]
      refine ⟨nI (chW sch of N w z i), _, _, _, _, _, _, _, rfl, rfl, fun j => ?_⟩
      show upd t 2 (s 2) j = s j
      by_cases hj : j = 2
      · subst hj; exact upd_s _ _ _
      · rw [upd_n hj]; exact tr j hj
    · rw [c1', Option.bind_some, Option.bind_some, if_neg nI10, if_neg nI10, d1, d2 s s0, Option.bind_some, Option.bind_some, if_pos nI00, if_pos nI00]
      exact ⟨-1000001, _, _, _, _, _, _, _, rfl, rfl, fun _ => rfl⟩
  · have c1' : F_X6_isWithin p0 (0 : Int32) (2 : Int32) = some (nI 0) := c1
    rw [c1', Option.bind_some, Option.bind_some, if_pos nI00, if_pos nI00]
    exact ⟨-1000001, _, _, _, _, _, _, _, rfl, rfl, fun _ => rfl⟩
end Calls
