-- the orders of a text, done on both sides (printed by gen52.py)
def KC24 (c0 : Int32) (c1 : Int32) (c2 : Int32) (c3 : Int32) (c4 : Int32) (c5 : Int32) (c6 : Int32) (c7 : Int32) (c8 : Int32) (c9 : Int32) (c10 : Int32) (c11 : Int32) (c12 : (Nat → Int32)) (c13 : (Nat → Int32)) (c14 : (Nat → Int32)) (c15 : (Nat → Int32)) (c16 : (Nat → Int32)) (c17 : (Nat → Int32)) (c18 : Int32) (c19 : (Nat → Int32)) (c20 : Int32) (c21 : (Nat → Int32)) (c22 : (Nat → Int64)) : Option (Int32 × Int32 × Int32 × Int32 × Int32 × Int32 × Int32 × Int32 × Int32 × Int32 × Int32 × Int32 × Int32 × (Nat → Int32) × (Nat → Int32) × (Nat → Int32) × (Nat → Int32) × (Nat → Int32) × (Nat → Int32) × Int32 × (Nat → Int32) × Int32 × (Nat → Int32) × (Nat → Int64)) := some (nI 1, c0, c1, c2, c3, c4, c5, c6, c7, c8, c9, c10, c11, c12, c13, c14, c15, c16, c17, c18, c19, c20, c21, c22)
def KM15 (x : Int32) (m0 : Int32) (m1 : Int32) (m2 : Int32) (m3 : Int32) (m4 : Int32) (m5 : Int32) (m6 : Int32) (m7 : (Nat → Int32)) (m8 : (Nat → Int32)) (m9 : (Nat → Int32)) (m10 : (Nat → Int32)) (m11 : (Nat → Int64)) (m12 : (Nat → Int32)) (m13 : (Nat → Int32)) : Option (Int32 × Int32 × Int32 × Int32 × Int32 × Int32 × Int32 × Int32 × Int32 × (Nat → Int32) × (Nat → Int32) × (Nat → Int32) × (Nat → Int32) × (Nat → Int64) × (Nat → Int32) × (Nat → Int32)) := am_bool x (some (x, m0, nI 0, m1, m2, m3, m4, m5, m6, m7, m8, m9, m10, m11, m12, m13))
theorem perform_eq (len sta pos kin fst snd don rea cau : Int32) (ch : Nat → Int32) (noi obs res lmany lgens : Int32) (lplf lpaf logf ldrf lspf lscf : Nat → Int32) (wmany : Int32) (wf sf : Nat → Int32) (cnoi : Int32) (canc : Nat → Int32) (crst : Nat → Int64) : F_X3_perform len sta pos kin fst snd don rea cau ch noi obs res lmany lgens lplf lpaf logf ldrf lspf lscf wmany wf sf cnoi canc crst = am_loop24 (F_X3_perform_B12 KC24 len ch lmany sf) am_fuel (nI 0) sta (nI 0) kin fst snd (nI 0) rea cau noi obs res lgens lplf lpaf logf ldrf lspf lscf wmany wf cnoi canc crst := rfl
theorem plays_eq (mpasts mruns mtyped mspot mfrom mreason mcause morders mkind : Int32) (s mpast mtext mchosen mtimes : Nat → Int32) (mrests : Nat → Int64) (mbefore mtold : Nat → Int32) : F_X7_plays mpasts mruns mtyped mspot mfrom mreason mcause morders mkind s mpast mtext mchosen mtimes mrests mbefore mtold = am_loop15 (F_X7_plays_B22 mtyped KM15 mtext) am_fuel (nI 1) mpasts (nI 0) (nI 0) mreason mcause (nI 0) mkind s mpast mchosen mtimes mrests mbefore mtold := rfl
theorem changes_runs (mpasts : Int32) (s mpast : Nat → Int32) : F_X7_changes mpasts (nI 1) s mpast = some (mpasts, mpast) := by
  unfold F_X7_changes
  rw [if_neg (by decide)]
section Plays
variable {L : Nat} {c : Nat → Nat} {ch text : Nat → Int32} {N G z th sc of : Nat} {w : Nat → Nat} {pl pa : Nat → Nat → Nat} {s : Nat → Int32} {noi obs res lmany lgens : Int32} {lplf lpaf logf ldrf lspf lscf : Nat → Int32} {wmany : Int32} {wf sf : Nat → Int32}
theorem fcall (hG : Good N G z th sc of w pl pa s) (hR : Rel N G noi obs res lmany lgens lplf lpaf logf ldrf lspf lscf wmany wf sf s) {k : Nat} (hk : k = 109 ∨ k = 111 ∨ k = 114) (a b : Int32) {told : Nat → Int32} (ht : ¬ k = 114 → told 0 = a ∧ told 1 = b) (mpasts : Int32) (mpast mchosen mtimes : Nat → Int32) (mrests : Nat → Int64) (mbefore : Nat → Int32) (cnoi : Int32) (canc : Nat → Int32) (crst : Nat → Int64) : ∃ r noi' obs' res' lgens' lplf' lpaf' logf' ldrf' lspf' lscf' wmany' wf' cnoi' canc' crst' s' f4 f5 f6 f7, (∀ (R : Type) (J : Int32 → Int32 → Int32 → Int32 → Int32 → (Nat → Int32) → (Nat → Int32) → (Nat → Int32) → (Nat → Int32) → (Nat → Int32) → (Nat → Int32) → Int32 → (Nat → Int32) → Int32 → (Nat → Int32) → (Nat → Int64) → Option R), (if nI k = (109 : Int32) then (am_call8 (F_X4_shift noi lmany lgens lplf lpaf logf ldrf lspf a b) fun r101 u102 u103 f104 f105 f106 f107 f108 => J r101 u102 obs res u103 f104 f105 f106 f107 f108 lscf wmany wf cnoi canc crst) else (if nI k = (111 : Int32) then (am_call14 (F_X4_look noi obs res lmany lgens lplf lpaf logf lscf wmany wf sf cnoi canc crst a b) fun r87 u88 u89 u90 u91 f92 f93 f94 f95 u96 f97 u98 f99 f100 => J r87 u88 u89 u90 u91 f92 f93 f94 ldrf lspf f95 u96 f97 u98 f99 f100) else (am_call13 (F_X4_renew noi res lmany lgens lplf lpaf logf lscf wmany wf sf cnoi canc crst) fun r74 u75 u76 u77 f78 f79 f80 f81 u82 f83 u84 f85 f86 => J r74 u75 obs u76 u77 f78 f79 f80 ldrf lspf f81 u82 f83 u84 f85 f86))) = J r noi' obs' res' lgens' lplf' lpaf' logf' ldrf' lspf' lscf' wmany' wf' cnoi' canc' crst') ∧ F_X7_calls mpasts (nI 1) (nI k) s mpast mchosen mtimes mrests mbefore told = some (r, mpasts, s', mpast, f4, f5, f6, f7) ∧ (¬ 0 ≤ r ∨ (0 ≤ r ∧ ∃ N' G' z' th' sc' of' w' pl' pa', Good N' G' z' th' sc' of' w' pl' pa' s' ∧ Rel N' G' noi' obs' res' lmany lgens' lplf' lpaf' logf' ldrf' lspf' lscf' wmany' wf' sf s')) := by
  have hc := changes_runs mpasts s mpast
  unfold F_X7_calls
  rcases hk with rfl | rfl | rfl
  · obtain ⟨t0, t1⟩ := ht (by decide)
    obtain ⟨r, noi', lgens', lplf', lpaf', logf', ldrf', lspf', e1, h⟩ := o_move hG hR hc a b
    have n1 : nI 109 = (109 : Int32) := id rfl
    rw [if_pos n1]
    rcases h with ⟨h1, e2⟩ | ⟨h1, G', z', pl', pa', s', e2, h2, h3⟩
    · refine ⟨r, noi', obs, res, lgens', lplf', lpaf', logf', ldrf', lspf', lscf, wmany, wf, cnoi, canc, crst, s, mchosen, mtimes, mrests, mbefore, fun R J => ?_, ?_, Or.inl h1⟩
      · rw [if_pos n1, e1]; rfl
      · simp (disch := omega) only [li_0, li_1, li_2, li_3, li_4, li_5, li_6, li_7, li_8, li_9, li_10, li_12, li_16, li_20, li_21, li_22, li_32, li_33, li_44, li_45, li_48, li_57, li_59, li_60, li_63, li_74, li_75, li_99, li_100, li_109, li_111, li_114, li_126, li_200, li_340, li_580, li_1740, li_65537, li_1000000, ll_0, ll_1, ll_100, sI_cl, t0, t1, e2, am_call4_e]
    · refine ⟨r, noi', obs, res, lgens', lplf', lpaf', logf', ldrf', lspf', lscf, wmany, wf, cnoi, canc, crst, s', mchosen, mtimes, mrests, mbefore, fun R J => ?_, ?_, Or.inr ⟨h1, _, _, _, _, _, _, _, _, _, h2, h3⟩⟩
      · rw [if_pos n1, e1]; rfl
      · simp (disch := omega) only [li_0, li_1, li_2, li_3, li_4, li_5, li_6, li_7, li_8, li_9, li_10, li_12, li_16, li_20, li_21, li_22, li_32, li_33, li_44, li_45, li_48, li_57, li_59, li_60, li_63, li_74, li_75, li_99, li_100, li_109, li_111, li_114, li_126, li_200, li_340, li_580, li_1740, li_65537, li_1000000, ll_0, ll_1, ll_100, sI_cl, t0, t1, e2, am_call4_e]
  · obtain ⟨t0, t1⟩ := ht (by decide)
    obtain ⟨r, noi', obs', res', lgens', lplf', lpaf', logf', lscf', wmany', wf', cnoi', canc', crst', e1, h⟩ := o_observe hG hR hc mchosen mtimes mrests mbefore cnoi canc crst a b
    have n1 : ¬ nI 111 = (109 : Int32) := by decide
    have n2 : nI 111 = (111 : Int32) := id rfl
    rw [if_neg n1, if_pos n2]
    rcases h with ⟨h1, f7, e2⟩ | ⟨h1, G', z', w', pl', pa', s', f4, f5, f6, f7, e2, h2, h3⟩
    · refine ⟨r, noi', obs', res', lgens', lplf', lpaf', logf', ldrf, lspf, lscf', wmany', wf', cnoi', canc', crst', s, mchosen, mtimes, mrests, f7, fun R J => ?_, ?_, Or.inl h1⟩
      · rw [if_neg n1, if_pos n2, e1]; rfl
      · simp (disch := omega) only [li_0, li_1, li_2, li_3, li_4, li_5, li_6, li_7, li_8, li_9, li_10, li_12, li_16, li_20, li_21, li_22, li_32, li_33, li_44, li_45, li_48, li_57, li_59, li_60, li_63, li_74, li_75, li_99, li_100, li_109, li_111, li_114, li_126, li_200, li_340, li_580, li_1740, li_65537, li_1000000, ll_0, ll_1, ll_100, sI_cl, t0, t1, e2, am_call8_e]
    · refine ⟨r, noi', obs', res', lgens', lplf', lpaf', logf', ldrf, lspf, lscf', wmany', wf', cnoi', canc', crst', s', f4, f5, f6, f7, fun R J => ?_, ?_, Or.inr ⟨h1, _, _, _, _, _, _, _, _, _, h2, h3⟩⟩
      · rw [if_neg n1, if_pos n2, e1]; rfl
      · simp (disch := omega) only [li_0, li_1, li_2, li_3, li_4, li_5, li_6, li_7, li_8, li_9, li_10, li_12, li_16, li_20, li_21, li_22, li_32, li_33, li_44, li_45, li_48, li_57, li_59, li_60, li_63, li_74, li_75, li_99, li_100, li_109, li_111, li_114, li_126, li_200, li_340, li_580, li_1740, li_65537, li_1000000, ll_0, ll_1, ll_100, sI_cl, t0, t1, e2, am_call8_e]
  · obtain ⟨r, noi', res', lgens', lplf', lpaf', logf', lscf', wmany', wf', cnoi', canc', crst', e1, h⟩ := o_resample hG hR hc mchosen mtimes mrests cnoi canc crst
    have n1 : ¬ nI 114 = (109 : Int32) := by decide
    have n2 : ¬ nI 114 = (111 : Int32) := by decide
    rw [if_neg n1, if_neg n2]
    rcases h with ⟨h1, e2⟩ | ⟨h1, G', z', w', pl', pa', s', f4, f5, f6, e2, h2, h3⟩
    · refine ⟨r, noi', obs, res', lgens', lplf', lpaf', logf', ldrf, lspf, lscf', wmany', wf', cnoi', canc', crst', s, mchosen, mtimes, mrests, mbefore, fun R J => ?_, ?_, Or.inl h1⟩
      · rw [if_neg n1, if_neg n2, e1]; rfl
      · rw [e2]; rfl
    · refine ⟨r, noi', obs, res', lgens', lplf', lpaf', logf', ldrf, lspf, lscf', wmany', wf', cnoi', canc', crst', s', f4, f5, f6, mbefore, fun R J => ?_, ?_, Or.inr ⟨h1, _, _, _, _, _, _, _, _, _, h2, h3⟩⟩
      · rw [if_neg n1, if_neg n2, e1]; rfl
      · rw [e2]; rfl
theorem plays_end (hL : L ≤ 60) {m q : Nat} (hm : 0 < m) (hq : q < 1000) (x : Nat) (hx : x ≤ 1) (hs : x = 0 ∨ L ≤ q) (mpasts mfrom mreason mcause morders mkind : Int32) (s mpast mchosen mtimes : Nat → Int32) (mrests : Nat → Int64) (mbefore mtold : Nat → Int32) : am_loop15 (F_X7_plays_B22 (nI L) KM15 text) m (nI x) mpasts (nI q) mfrom mreason mcause morders mkind s mpast mchosen mtimes mrests mbefore mtold = some (nI x, mpasts, nI 0, nI q, mfrom, mreason, mcause, morders, mkind, s, mpast, mchosen, mtimes, mrests, mbefore, mtold) := by
  obtain ⟨m, rfl⟩ : ∃ k, m = k + 1 := ⟨m - 1, by omega⟩
  have e : am_loop15 (F_X7_plays_B22 (nI L) KM15 text) (m + 1) (nI x) mpasts (nI q) mfrom mreason mcause morders mkind s mpast mchosen mtimes mrests mbefore mtold = F_X7_plays_B22 (nI L) KM15 text (am_loop15 (F_X7_plays_B22 (nI L) KM15 text) m) (nI x) mpasts (nI q) mfrom mreason mcause morders mkind s mpast mchosen mtimes mrests mbefore mtold := rfl
  rw [e]
  have hK : KM15 (nI x) mpasts (nI q) mfrom mreason mcause morders mkind s mpast mchosen mtimes mrests mbefore mtold = some (nI x, mpasts, nI 0, nI q, mfrom, mreason, mcause, morders, mkind, s, mpast, mchosen, mtimes, mrests, mbefore, mtold) := by
    unfold KM15
    have : x = 0 ∨ x = 1 := by omega
    rcases this with rfl | rfl
    · exact am_bool0
    · exact am_bool1
  unfold F_X7_plays_B22
  by_cases h : L ≤ q
  · rw [if_pos (by rw [sI_le (by omega) (by omega)]; exact h)]
    exact hK
  · have h0 : x = 0 := by omega
    subst h0
    rw [if_neg (by rw [sI_le (by omega) (by omega)]; exact h), if_pos nI00]
    exact hK
theorem fplays (hT : Txt L c ch text) (mpasts : Int32) (mpast : Nat → Int32) : ∀ (d p j n m : Nat), L ≤ p + d → p ≤ L → j ≤ p → d < n → d + 1 < m → ∀ (N G z th sc of : Nat) (w : Nat → Nat) (pl pa : Nat → Nat → Nat) (s : Nat → Int32) (noi obs res lmany lgens : Int32) (lplf lpaf logf ldrf lspf lscf : Nat → Int32) (wmany : Int32) (wf sf : Nat → Int32), Good N G z th sc of w pl pa s → Rel N G noi obs res lmany lgens lplf lpaf logf ldrf lspf lscf wmany wf sf s → ∀ (sta kin fst snd rea cau cnoi : Int32) (canc : Nat → Int32) (crst : Nat → Int64) (mfrom mreason mcause mkind : Int32) (mchosen mtimes : Nat → Int32) (mrests : Nat → Int64) (mbefore mtold : Nat → Int32), ∃ ok : Nat, ∃ sta' pos' kin' fst' snd' don' rea' cau' noi' obs' res' lgens' lplf' lpaf' logf' ldrf' lspf' lscf' wmany' wf' cnoi' canc' crst' spot' frm' reason' cause' orders' kind' s' chosen' times' rests' before' told', am_loop24 (F_X3_perform_B12 KC24 (nI L) ch lmany sf) n (nI j) sta (nI p) kin fst snd (nI j) rea cau noi obs res lgens lplf lpaf logf ldrf lspf lscf wmany wf cnoi canc crst = some (nI ok, sta', pos', kin', fst', snd', don', rea', cau', noi', obs', res', lgens', lplf', lpaf', logf', ldrf', lspf', lscf', wmany', wf', cnoi', canc', crst') ∧ am_loop15 (F_X7_plays_B22 (nI L) KM15 text) m (nI 1) mpasts (nI p) mfrom mreason mcause (nI j) mkind s mpast mchosen mtimes mrests mbefore mtold = some (nI ok, mpasts, nI 0, spot', frm', reason', cause', orders', kind', s', mpast, chosen', times', rests', before', told') ∧ ((ok = 0 ∧ sta' = frm' ∧ rea' = reason' ∧ cau' = cause') ∨ (ok = 1 ∧ (∃ J, J ≤ 60 ∧ don' = nI J ∧ orders' = nI J) ∧ ∃ N' G' z' th' sc' of' w' pl' pa', Good N' G' z' th' sc' of' w' pl' pa' s' ∧ Rel N' G' noi' obs' res' lmany lgens' lplf' lpaf' logf' ldrf' lspf' lscf' wmany' wf' sf s')) := by
  have hL := hT.1
  intro d
  induction d with
  | zero =>
    intro p j n m h1 h2 h3 h4 h5 N G z th sc of w pl pa s noi obs res lmany lgens lplf lpaf logf ldrf lspf lscf wmany wf sf hG hR sta kin fst snd rea cau cnoi canc crst mfrom mreason mcause mkind mchosen mtimes mrests mbefore mtold
    obtain ⟨n, rfl⟩ : ∃ k, n = k + 1 := ⟨n - 1, by omega⟩
    have e : am_loop24 (F_X3_perform_B12 KC24 (nI L) ch lmany sf) (n + 1) (nI j) sta (nI p) kin fst snd (nI j) rea cau noi obs res lgens lplf lpaf logf ldrf lspf lscf wmany wf cnoi canc crst = some (nI 1, sta, nI p, kin, fst, snd, nI j, rea, cau, noi, obs, res, lgens, lplf, lpaf, logf, ldrf, lspf, lscf, wmany, wf, cnoi, canc, crst) := by
      show F_X3_perform_B12 KC24 (nI L) ch lmany sf (am_loop24 (F_X3_perform_B12 KC24 (nI L) ch lmany sf) n) (nI j) sta (nI p) kin fst snd (nI j) rea cau noi obs res lgens lplf lpaf logf ldrf lspf lscf wmany wf cnoi canc crst = _
      unfold F_X3_perform_B12
      by_cases h : 60 ≤ j
      · rw [if_pos (by rw [li_60, sI_le (by omega) (by omega)]; exact h)]
        rfl
      · rw [if_neg (by rw [li_60, sI_le (by omega) (by omega)]; exact h), if_pos (by rw [sI_le (by omega) (by omega)]; omega)]
        rfl
    refine ⟨1, _, _, _, _, _, _, _, _, _, _, _, _, _, _, _, _, _, _, _, _, _, _, _, _, _, _, _, _, _, _, _, _, _, _, _, e, plays_end hL (by omega) (by omega) 1 (by omega) (Or.inr (by omega)) _ _ _ _ _ _ _ _ _ _ _ _ _, Or.inr ⟨rfl, ⟨j, by omega, rfl, rfl⟩, _, _, _, _, _, _, _, _, _, hG, hR⟩⟩
  | succ d ih =>
    intro p j n m h1 h2 h3 h4 h5 N G z th sc of w pl pa s noi obs res lmany lgens lplf lpaf logf ldrf lspf lscf wmany wf sf hG hR sta kin fst snd rea cau cnoi canc crst mfrom mreason mcause mkind mchosen mtimes mrests mbefore mtold
    by_cases hp : p < L
    · obtain ⟨n, rfl⟩ : ∃ k, n = k + 1 := ⟨n - 1, by omega⟩
      obtain ⟨m, rfl⟩ : ∃ k, m = k + 1 := ⟨m - 1, by omega⟩
      have eC : am_loop24 (F_X3_perform_B12 KC24 (nI L) ch lmany sf) (n + 1) (nI j) sta (nI p) kin fst snd (nI j) rea cau noi obs res lgens lplf lpaf logf ldrf lspf lscf wmany wf cnoi canc crst = F_X3_perform_B12 KC24 (nI L) ch lmany sf (am_loop24 (F_X3_perform_B12 KC24 (nI L) ch lmany sf) n) (nI j) sta (nI p) kin fst snd (nI j) rea cau noi obs res lgens lplf lpaf logf ldrf lspf lscf wmany wf cnoi canc crst := rfl
      have eM : am_loop15 (F_X7_plays_B22 (nI L) KM15 text) (m + 1) (nI 1) mpasts (nI p) mfrom mreason mcause (nI j) mkind s mpast mchosen mtimes mrests mbefore mtold = F_X7_plays_B22 (nI L) KM15 text (am_loop15 (F_X7_plays_B22 (nI L) KM15 text) m) (nI 1) mpasts (nI p) mfrom mreason mcause (nI j) mkind s mpast mchosen mtimes mrests mbefore mtold := rfl
      rw [eC, eM]
      generalize hCg : am_loop24 (F_X3_perform_B12 KC24 (nI L) ch lmany sf) n = recC
      generalize hMg : am_loop15 (F_X7_plays_B22 (nI L) KM15 text) m = recM
      obtain ⟨a, b, eR, hab⟩ := freadC hT hp kin fst snd
      obtain ⟨kM, t', eS, hkt⟩ := freadM hT hp mkind mtold
      have n60 : ¬ (60 : Int32) ≤ nI j := by rw [li_60, sI_le (by omega) (by omega)]; omega
      have ej : nI j + (1 : Int32) = nI (j + 1) := sI_add j 1
      have nLp : ¬ nI L ≤ nI p := by rw [sI_le (by omega) (by omega)]; omega
      have n10 : ¬ nI 1 = nI 0 := by decide
      unfold F_X3_perform_B12 F_X7_plays_B22
      rw [if_neg n60, if_neg nLp, eR, if_neg nLp, if_neg nI10, eS]
      simp only [am_call5_e, am_call4_e]
      by_cases hok : okB L c p = true
      · obtain ⟨q1, q2, q3⟩ := ok_end hok
        obtain ⟨rfl, hkt2⟩ := hkt hok
        simp only [if_pos hok, if_neg nI10, am_let_e]
        obtain ⟨r, noi', obs', res', lgens', lplf', lpaf', logf', ldrf', lspf', lscf', wmany', wf', cnoi', canc', crst', s', f4, f5, f6, f7, k1, k2, k3⟩ := fcall hG hR q3 a b (fun h => ⟨(hkt2 h).1.trans (hab hok h).1.symm, (hkt2 h).2.trans (hab hok h).2.symm⟩) mpasts mpast mchosen mtimes mrests mbefore cnoi canc crst
        have k1' := k1 _ (fun (j55 : Int32) (u56 : Int32) (u57 : Int32) (u58 : Int32) (u59 : Int32) (f60 : Nat → Int32) (f61 : Nat → Int32) (f62 : Nat → Int32) (f63 : Nat → Int32) (f64 : Nat → Int32) (f65 : Nat → Int32) (u66 : Int32) (f67 : Nat → Int32) (u68 : Int32) (f69 : Nat → Int32) (f70 : Nat → Int64) => if 0 ≤ j55 then recC (nI j + 1) (nI p) (nI (endN L c p)) (nI (hrN L c p)) a b (nI j + 1) rea cau u56 u57 u58 u59 f60 f61 f62 f63 f64 f65 u66 f67 u68 f69 f70 else some (0, nI p, nI (endN L c p), nI (hrN L c p), a, b, nI j, 2, j55, u56, u57, u58, u59, f60, f61, f62, f63, f64, f65, u66, f67, u68, f69, f70))
        have k2' : F_X7_calls mpasts (1 : Int32) (nI (hrN L c p)) s mpast mchosen mtimes mrests mbefore t' = some (r, mpasts, s', mpast, f4, f5, f6, f7) := k2
        rw [k2', am_call8_e]
        rcases k3 with k3 | ⟨k3, N', G', z', th', sc', of', w', pl', pa', hG', hR'⟩
        · have k3' : r < 0 := Int32.not_le.mp k3
          rw [if_neg k3] at k1'
          rw [if_pos k3', ← hMg]
          exact ⟨0, _, _, _, _, _, _, _, _, _, _, _, _, _, _, _, _, _, _, _, _, _, _, _, _, _, _, _, _, _, _, _, _, _, _, _, k1', plays_end hL (by omega) (by omega) 0 (by omega) (Or.inl rfl) _ _ _ _ _ _ _ _ _ _ _ _ _, Or.inl ⟨rfl, rfl, rfl, rfl⟩⟩
        · have k3' : ¬ r < 0 := Int32.not_lt.mpr k3
          rw [if_pos k3, ej, ← hCg] at k1'
          rw [if_neg k3', ej, ← hMg, ← hCg]
          obtain ⟨ok, sta'', pos'', kin'', fst'', snd'', don'', rea'', cau'', noi'', obs'', res'', lgens'', lplf'', lpaf'', logf'', ldrf'', lspf'', lscf'', wmany'', wf'', cnoi'', canc'', crst'', spot'', frm'', reason'', cause'', orders'', kind'', s'', chosen'', times'', rests'', before'', told'', i1, i2, i3⟩ := ih (endN L c p) (j + 1) n m (by omega) q2 (by omega) (by omega) (by omega) _ _ _ _ _ _ _ _ _ _ _ _ _ _ _ _ _ _ _ _ _ _ _ _ hG' hR' (nI p) (nI (hrN L c p)) a b rea cau cnoi' canc' crst' (nI p) (nI 2) r (nI (hrN L c p)) f4 f5 f6 f7 t'
          exact ⟨ok, _, _, _, _, _, _, _, _, _, _, _, _, _, _, _, _, _, _, _, _, _, _, _, _, _, _, _, _, _, _, _, _, _, _, _, k1'.trans i1, i2, i3⟩
      · simp only [if_neg hok, if_pos nI00, am_let_e]
        rw [← hMg]
        have hend : endN L c p < 1000 := end_lt hT hp
        exact ⟨0, _, _, _, _, _, _, _, _, _, _, _, _, _, _, _, _, _, _, _, _, _, _, _, _, _, _, _, _, _, _, _, _, _, _, _, rfl, plays_end hL (by omega) hend 0 (by omega) (Or.inl rfl) _ _ _ _ _ _ _ _ _ _ _ _ _, Or.inl ⟨rfl, rfl, rfl, rfl⟩⟩
    · exact ih p j n m (by omega) h2 h3 (by omega) (by omega) N G z th sc of w pl pa s noi obs res lmany lgens lplf lpaf logf ldrf lspf lscf wmany wf sf hG hR sta kin fst snd rea cau cnoi canc crst mfrom mreason mcause mkind mchosen mtimes mrests mbefore mtold
end Plays
