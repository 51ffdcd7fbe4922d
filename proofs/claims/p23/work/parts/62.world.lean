-- worlds beside worlds; methods that make arrays; static calls that write
theorem vP_l {D : va_G} {cl : List vw_C} {w r : va_W} {H : Heap} (h : va_P D cl (w ++ r) H) : va_P D cl w H := fun k q hq => h k q (by
  rw [List.getElem?_append_left (List.getElem?_eq_some_iff.mp hq).1]
  exact hq)
theorem vP_r {D : va_G} {cl : List vw_C} {w r : va_W} {H : Heap} (h : va_P D cl (w ++ r) H) : va_P D cl r H := fun k q hq => h (w.length + k) q (by
  rw [List.getElem?_append_right (Nat.le_add_right _ _), Nat.add_sub_cancel_left]
  exact hq)
theorem vD_l {A : Nat → Prop} {w r : va_W} (h : va_D A (w ++ r)) : va_D A w := by
  have e : ∀ (k : Nat) (q : Nat × va_E), w[k]? = some q → (w ++ r)[k]? = some q := fun k q hq => by
    rw [List.getElem?_append_left (List.getElem?_eq_some_iff.mp hq).1]
    exact hq
  exact ⟨fun i j p q hi hj hpq => h.1 i j p q (e i p hi) (e j q hj) hpq, fun k q hq => h.2 k q (e k q hq)⟩
theorem vD_r {A : Nat → Prop} {w r : va_W} (h : va_D A (w ++ r)) : va_D A r := by
  have e : ∀ (k : Nat) (q : Nat × va_E), r[k]? = some q → (w ++ r)[w.length + k]? = some q := fun k q hq => by
    rw [List.getElem?_append_right (Nat.le_add_right _ _), Nat.add_sub_cancel_left]
    exact hq
  refine ⟨fun i j p q hi hj hpq => ?_, fun k q hq => h.2 _ q (e k q hq)⟩
  have := h.1 _ _ p q (e i p hi) (e j q hj) hpq
  omega
theorem app_at {w r : va_W} {k : Nat} {q : Nat × va_E} (h : (w ++ r)[k]? = some q) : (k < w.length ∧ w[k]? = some q) ∨ (w.length ≤ k ∧ r[k - w.length]? = some q) := by
  by_cases hk : k < w.length
  · rw [List.getElem?_append_left hk] at h
    exact Or.inl ⟨hk, h⟩
  · rw [List.getElem?_append_right (by omega)] at h
    exact Or.inr ⟨by omega, h⟩
theorem adr_at {w w1 : va_W} (hadr : w1.map Prod.fst = w.map Prod.fst) {k : Nat} {q : Nat × va_E} (h : w1[k]? = some q) : ∃ q0, w[k]? = some q0 ∧ q0.1 = q.1 := by
  have h1 : (w1.map Prod.fst)[k]? = some q.1 := by rw [List.getElem?_map, h]; rfl
  rw [hadr, List.getElem?_map] at h1
  cases h2 : w[k]? with
  | none => rw [h2] at h1; cases h1
  | some q0 => rw [h2] at h1; exact ⟨q0, rfl, Option.some.inj h1⟩
theorem kJoinL {A0 : Nat → Prop} {D : va_G} {cl : List vw_C} {w r w1 : va_W} {H H1 : Heap} (hP : va_P D cl (w ++ r) H) (hD : va_D A0 (w ++ r)) (hk : ∀ q : Nat, q < H.size → ¬ va_A w H.size q → H1[q]? = H[q]?) (hP1 : va_P D cl w1 H1) (hadr : w1.map Prod.fst = w.map Prod.fst) : va_P D cl (w1 ++ r) H1 ∧ va_D A0 (w1 ++ r) := by
  have hlen : w1.length = w.length := by
    have := congrArg List.length hadr
    simpa only [List.length_map] using this
  have key : ∀ (k : Nat) (q : Nat × va_E), (w1 ++ r)[k]? = some q → ∃ q0, (w ++ r)[k]? = some q0 ∧ q0.1 = q.1 := by
    intro k q h
    rcases app_at h with ⟨h1, h2⟩ | ⟨h1, h2⟩
    · obtain ⟨q0, h3, h4⟩ := adr_at hadr h2
      exact ⟨q0, by rw [List.getElem?_append_left (by omega)]; exact h3, h4⟩
    · exact ⟨q, by rw [List.getElem?_append_right (by omega), ← hlen]; exact h2, rfl⟩
  constructor
  · intro k q h
    rcases app_at h with ⟨h1, h2⟩ | ⟨h1, h2⟩
    · exact hP1 k q h2
    · have h3 := vP_r hP _ q h2
      refine h3.kept (hk q.1 h3.lt ?_)
      rintro (⟨j, e, he⟩ | he)
      · have h4 : (w ++ r)[w.length + (k - w1.length)]? = some q := by
          rw [List.getElem?_append_right (Nat.le_add_right _ _), Nat.add_sub_cancel_left]
          exact h2
        have hj := (List.getElem?_eq_some_iff.mp he).1
        have h5 : (w ++ r)[j]? = some (q.1, e) := by
          rw [List.getElem?_append_left hj]
          exact he
        have := hD.1 _ _ _ _ h5 h4 rfl
        omega
      · exact absurd h3.lt (Nat.not_lt.mpr he)
  · refine ⟨fun i j p q hi hj hpq => ?_, fun k q hq => ?_⟩
    · obtain ⟨p0, h1, h2⟩ := key i p hi
      obtain ⟨q0, h3, h4⟩ := key j q hj
      exact hD.1 i j p0 q0 h1 h3 (h2.trans (hpq.trans h4.symm))
    · obtain ⟨q0, h1, h2⟩ := key k q hq
      rw [← h2]
      exact hD.2 k q0 h1
theorem vP_sw {D : va_G} {cl : List vw_C} {w r : va_W} {H : Heap} (h : va_P D cl (w ++ r) H) : va_P D cl (r ++ w) H := (vP_r h).app (vP_l h)
theorem vD_sw {A : Nat → Prop} {w r : va_W} (h : va_D A (w ++ r)) : va_D A (r ++ w) := by
  have key : ∀ (k : Nat) (q : Nat × va_E), (r ++ w)[k]? = some q → ∃ j, (w ++ r)[j]? = some q ∧ ((k < r.length ∧ j = w.length + k) ∨ (r.length ≤ k ∧ j = k - r.length ∧ j < w.length)) := by
    intro k q hq
    rcases app_at hq with ⟨h1, h2⟩ | ⟨h1, h2⟩
    · exact ⟨w.length + k, by rw [List.getElem?_append_right (Nat.le_add_right _ _), Nat.add_sub_cancel_left]; exact h2, Or.inl ⟨h1, rfl⟩⟩
    · have h3 := (List.getElem?_eq_some_iff.mp h2).1
      exact ⟨k - r.length, by rw [List.getElem?_append_left h3]; exact h2, Or.inr ⟨h1, rfl, h3⟩⟩
  refine ⟨fun i j p q hi hj hpq => ?_, fun k q hq => ?_⟩
  · obtain ⟨i1, h1, h2⟩ := key i p hi
    obtain ⟨j1, h3, h4⟩ := key j q hj
    have := h.1 i1 j1 p q h1 h3 hpq
    omega
  · obtain ⟨j, h1, -⟩ := key k q hq
    exact h.2 j q h1
theorem kJoinR {A0 : Nat → Prop} {D : va_G} {cl : List vw_C} {w r w1 : va_W} {H H1 : Heap} (hP : va_P D cl (r ++ w) H) (hD : va_D A0 (r ++ w)) (hk : ∀ q : Nat, q < H.size → ¬ va_A w H.size q → H1[q]? = H[q]?) (hP1 : va_P D cl w1 H1) (hadr : w1.map Prod.fst = w.map Prod.fst) : va_P D cl (r ++ w1) H1 ∧ va_D A0 (r ++ w1) := by
  obtain ⟨h1, h2⟩ := kJoinL (vP_sw hP) (vD_sw hD) hk hP1 hadr
  exact ⟨vP_sw h1, vD_sw h2⟩
section kLaw
variable {p : Program} {l : Launch} {e : Env} {R : Room} {s : State} {m : MethodId} {args : Array Value} {below : List Frame} {meth : Method} {c : Code} {H H0 : Heap} {locs : List Loc} {cells slots : Nat} {Q : State → Prop} {cc : ByteArray} {nL : Nat} {Ts : List Cond} {own C : String} {D : va_G} {cI cJ : ClassId} {wc w1 : va_W} {y : MethodName} {wsy : List Cond} {rm : Room} {bytes : ByteArray} {maxL n index : Nat} {ret : Option FieldType} {pc : Nat} {ls : Array Slot} {A0 : Nat → Prop}
theorem kG_V {r0 : Int32} (S : CallFix p m c cc nL s args Ts own) (hPc : va_P D vwCl wc H) (hK : kK D cI cJ s) {b : Nat} (As : List Value) (hM : Met l y wsy rm (kPc D cI cJ wc (.ref b :: As)) (vp_Si (fun r => r = r0)) 0 0 (fun _ => False)) (cw : CallW R s args own C index y bytes maxL ret wsy rm 0 0 n) {T : u_T} {N1 ci : Nat} {fs : List Value} (hc : vwCl[ci]? = some (C, T, N1)) (he : wc[0]? = some (b, .inr (ci, fs))) (rest : List Value) (hn : As.length = n) (hsize : ls.size = nL) {stk : List Value} (hstack : stk = As.reverse ++ .ref b :: rest) (hW : (rest.map fun v => v.category).sum ≤ 8) (hdg : decode cc pc = .ok (.invokevirtual index, 3)) (hf : cells ≤ R.cells ∧ slots ≤ R.slots)
    (kk : W p l e R s m args below meth c H locs cells slots Q (F0 m (pc + 3) ls (.int r0 :: rest))) : W p l e R s m args below meth c H locs cells slots Q (F0 m pc ls stk) := by
  subst hstack
  refine vp_callSi (rest := rest) (W.runV (As := As) (rest := rest) S hM cw ⟨kPc_blind, va_recv hK.1 hPc hc he, fun U hU hW => ⟨rfl, by rw [hU]; exact hPc, hK.warm hW⟩⟩ rfl hn hsize rfl (lv_room hW) hdg hf) (fun r hr => ?_)
  subst hr
  exact kk
theorem kG_W {r0 : Int32} (S : CallFix p m c cc nL s args Ts own) (hPc : va_P D vwCl wc H) (hK : kK D cI cJ s) (hDc : va_D A0 wc) (hS : va_S A0 H0 H locs) (hA : ∀ q, H0.size ≤ q → A0 q) {b : Nat} (As : List Value) (hM : Met l y wsy rm (kPw D cI cJ wc H.size (.ref b :: As)) (kQi D r0 w1 (va_A wc H.size)) 0 0 (va_A wc H.size)) (cw : CallW R s args own C index y bytes maxL ret wsy rm 0 0 n) {T : u_T} {N1 ci : Nat} {fs : List Value} (hc : vwCl[ci]? = some (C, T, N1)) (he : wc[0]? = some (b, .inr (ci, fs))) (rest : List Value) (hn : As.length = n) (hsize : ls.size = nL) {stk : List Value} (hstack : stk = As.reverse ++ .ref b :: rest) (hW : (rest.map fun v => v.category).sum ≤ 8) (hdg : decode cc pc = .ok (.invokevirtual index, 3)) (hf : cells ≤ R.cells ∧ slots ≤ R.slots)
    (kk : ∀ (H1 : Heap) (locs1 : List Loc), va_P D vwCl w1 H1 → (∀ q : Nat, q < H.size → ¬ va_A wc H.size q → H1[q]? = H[q]?) → va_S A0 H0 H1 locs1 → W p l e R s m args below meth c H1 locs1 cells slots Q (F0 m (pc + 3) ls (.int r0 :: rest))) : W p l e R s m args below meth c H locs cells slots Q (F0 m pc ls stk) := by
  subst hstack
  have hFc : ∀ q, va_A wc H.size q → A0 q := by
    intro q h
    rcases h with ⟨k, e, h⟩ | h
    · exact hDc.2 k (q, e) h
    · exact hA q (Nat.le_trans hS.1 h)
  refine va_calli (rest := rest) (va_runV (As := As) (rest := rest) S hM cw ⟨kPw_blind, va_recv hK.1 hPc hc he, fun U hU hW => ⟨rfl, by rw [hU], by rw [hU]; exact hPc, hK.warm hW, hDc.weaken (fun _ _ _ _ => trivial)⟩⟩ rfl hn hsize rfl (lv_room hW) hdg hf) hS (fun q _ h => hFc q h) hFc (fun r u t H1 locs1 ht hvm hw hB hz1 hk1 hS1 => ?_)
  have hw : r = r0 := hw
  subst hw
  have hB : va_P D vwCl w1 t.heap := hB
  rw [ht] at hB
  exact kk H1 locs1 hB hk1 hS1
end kLaw
