-- the law's world: the class's cells ahead of the model's
theorem vP_l {D : va_G} {cl : List vw_C} {w r : va_W} {H : Heap} (h : va_P D cl (w ++ r) H) : va_P D cl w H := fun k q hq => h k q (by
  rw [List.getElem?_append_left (List.getElem?_eq_some_iff.mp hq).1]
  exact hq)
theorem vP_r {D : va_G} {cl : List vw_C} {w r : va_W} {H : Heap} (h : va_P D cl (w ++ r) H) : va_P D cl r H := fun k q hq => h (w.length + k) q (by
  rw [List.getElem?_append_right (Nat.le_add_right _ _), Nat.add_sub_cancel_left]
  exact hq)
theorem vD_l {A : Nat → Prop} {w r : va_W} (h : va_D A (w ++ r)) : va_D A w := by
  have e : ∀ (k : Nat) (q : Nat × va_E), w[k]? = some q → (w ++ r)[k]? = some q := fun k q hq => by
    rw [List.getElem?_append_left (List.getElem?_eq_some_iff.mp hq).1]
    exact hq
  exact ⟨fun i j p q hi hj hpq => h.1 i j p q (e i p hi) (e j q hj) hpq, fun k q hq => h.2 k q (e k q hq)⟩
theorem vD_r {A : Nat → Prop} {w r : va_W} (h : va_D A (w ++ r)) : va_D A r := by
  have e : ∀ (k : Nat) (q : Nat × va_E), r[k]? = some q → (w ++ r)[w.length + k]? = some q := fun k q hq => by
    rw [List.getElem?_append_right (Nat.le_add_right _ _), Nat.add_sub_cancel_left]
    exact hq
  refine ⟨fun i j p q hi hj hpq => ?_, fun k q hq => h.2 _ q (e k q hq)⟩
  have := h.1 _ _ p q (e i p hi) (e j q hj) hpq
  omega
theorem app_at {w r : va_W} {k : Nat} {q : Nat × va_E} (h : (w ++ r)[k]? = some q) : (k < w.length ∧ w[k]? = some q) ∨ (w.length ≤ k ∧ r[k - w.length]? = some q) := by
  by_cases hk : k < w.length
  · rw [List.getElem?_append_left hk] at h
    exact Or.inl ⟨hk, h⟩
  · rw [List.getElem?_append_right (by omega)] at h
    exact Or.inr ⟨by omega, h⟩
theorem adr_at {w w1 : va_W} (hadr : w1.map Prod.fst = w.map Prod.fst) {k : Nat} {q : Nat × va_E} (h : w1[k]? = some q) : ∃ q0, w[k]? = some q0 ∧ q0.1 = q.1 := by
  have h1 : (w1.map Prod.fst)[k]? = some q.1 := by rw [List.getElem?_map, h]; rfl
  rw [hadr, List.getElem?_map] at h1
  cases h2 : w[k]? with
  | none => rw [h2] at h1; cases h1
  | some q0 => rw [h2] at h1; exact ⟨q0, rfl, Option.some.inj h1⟩
theorem kJoinL {A0 : Nat → Prop} {D : va_G} {cl : List vw_C} {w r w1 : va_W} {H H1 : Heap} (hP : va_P D cl (w ++ r) H) (hD : va_D A0 (w ++ r)) (hk : ∀ q : Nat, q < H.size → ¬ va_A w H.size q → H1[q]? = H[q]?) (hP1 : va_P D cl w1 H1) (hadr : w1.map Prod.fst = w.map Prod.fst) : va_P D cl (w1 ++ r) H1 ∧ va_D A0 (w1 ++ r) := by
  have hlen : w1.length = w.length := by
    have := congrArg List.length hadr
    simpa only [List.length_map] using this
  have key : ∀ (k : Nat) (q : Nat × va_E), (w1 ++ r)[k]? = some q → ∃ q0, (w ++ r)[k]? = some q0 ∧ q0.1 = q.1 := by
    intro k q h
    rcases app_at h with ⟨h1, h2⟩ | ⟨h1, h2⟩
    · obtain ⟨q0, h3, h4⟩ := adr_at hadr h2
      exact ⟨q0, by rw [List.getElem?_append_left (by omega)]; exact h3, h4⟩
    · exact ⟨q, by rw [List.getElem?_append_right (by omega), ← hlen]; exact h2, rfl⟩
  constructor
  · intro k q h
    rcases app_at h with ⟨h1, h2⟩ | ⟨h1, h2⟩
    · exact hP1 k q h2
    · have h3 := vP_r hP _ q h2
      refine h3.kept (hk q.1 h3.lt ?_)
      rintro (⟨j, e, he⟩ | he)
      · have h4 : (w ++ r)[w.length + (k - w1.length)]? = some q := by
          rw [List.getElem?_append_right (Nat.le_add_right _ _), Nat.add_sub_cancel_left]
          exact h2
        have hj := (List.getElem?_eq_some_iff.mp he).1
        have h5 : (w ++ r)[j]? = some (q.1, e) := by
          rw [List.getElem?_append_left hj]
          exact he
        have := hD.1 _ _ _ _ h5 h4 rfl
        omega
      · exact absurd h3.lt (Nat.not_lt.mpr he)
  · refine ⟨fun i j p q hi hj hpq => ?_, fun k q hq => ?_⟩
    · obtain ⟨p0, h1, h2⟩ := key i p hi
      obtain ⟨q0, h3, h4⟩ := key j q hj
      exact hD.1 i j p0 q0 h1 h3 (h2.trans (hpq.trans h4.symm))
    · obtain ⟨q0, h1, h2⟩ := key k q hq
      rw [← h2]
      exact hD.2 k q0 h1
theorem vP_sw {D : va_G} {cl : List vw_C} {w r : va_W} {H : Heap} (h : va_P D cl (w ++ r) H) : va_P D cl (r ++ w) H := (vP_r h).app (vP_l h)
theorem vD_sw {A : Nat → Prop} {w r : va_W} (h : va_D A (w ++ r)) : va_D A (r ++ w) := by
  have key : ∀ (k : Nat) (q : Nat × va_E), (r ++ w)[k]? = some q → ∃ j, (w ++ r)[j]? = some q ∧ ((k < r.length ∧ j = w.length + k) ∨ (r.length ≤ k ∧ j = k - r.length ∧ j < w.length)) := by
    intro k q hq
    rcases app_at hq with ⟨h1, h2⟩ | ⟨h1, h2⟩
    · exact ⟨w.length + k, by rw [List.getElem?_append_right (Nat.le_add_right _ _), Nat.add_sub_cancel_left]; exact h2, Or.inl ⟨h1, rfl⟩⟩
    · have h3 := (List.getElem?_eq_some_iff.mp h2).1
      exact ⟨k - r.length, by rw [List.getElem?_append_left h3]; exact h2, Or.inr ⟨h1, rfl, h3⟩⟩
  refine ⟨fun i j p q hi hj hpq => ?_, fun k q hq => ?_⟩
  · obtain ⟨i1, h1, h2⟩ := key i p hi
    obtain ⟨j1, h3, h4⟩ := key j q hj
    have := h.1 i1 j1 p q h1 h3 hpq
    omega
  · obtain ⟨j, h1, -⟩ := key k q hq
    exact h.2 j q h1
theorem kJoinR {A0 : Nat → Prop} {D : va_G} {cl : List vw_C} {w r w1 : va_W} {H H1 : Heap} (hP : va_P D cl (r ++ w) H) (hD : va_D A0 (r ++ w)) (hk : ∀ q : Nat, q < H.size → ¬ va_A w H.size q → H1[q]? = H[q]?) (hP1 : va_P D cl w1 H1) (hadr : w1.map Prod.fst = w.map Prod.fst) : va_P D cl (r ++ w1) H1 ∧ va_D A0 (r ++ w1) := by
  obtain ⟨h1, h2⟩ := kJoinL (vP_sw hP) (vD_sw hD) hk hP1 hadr
  exact ⟨vP_sw h1, vD_sw h2⟩
section kLaw
variable {p : Program} {l : Launch} {e : Env} {R : Room} {s : State} {m : MethodId} {args : Array Value} {below : List Frame} {meth : Method} {c : Code} {H H0 : Heap} {locs : List Loc} {cells slots : Nat} {Q : State → Prop} {cc : ByteArray} {nL : Nat} {Ts : List Cond} {own C : String} {D : va_G} {cI cJ : ClassId} {wc w1 : va_W} {y : MethodName} {wsy : List Cond} {rm : Room} {bytes : ByteArray} {maxL n index : Nat} {ret : Option FieldType} {pc : Nat} {ls : Array Slot} {A0 : Nat → Prop}
theorem kG_V {r0 : Int32} (S : CallFix p m c cc nL s args Ts own) (hPc : va_P D vwCl wc H) (hK : kK D cI cJ s) {b : Nat} (As : List Value) (hM : Met l y wsy rm (kPc D cI cJ wc (.ref b :: As)) (vp_Si (fun r => r = r0)) 0 0 (fun _ => False)) (cw : CallW R s args own C index y bytes maxL ret wsy rm 0 0 n) {T : u_T} {N1 ci : Nat} {fs : List Value} (hc : vwCl[ci]? = some (C, T, N1)) (he : wc[0]? = some (b, .inr (ci, fs))) (rest : List Value) (hn : As.length = n) (hsize : ls.size = nL) {stk : List Value} (hstack : stk = As.reverse ++ .ref b :: rest) (hW : (rest.map fun v => v.category).sum ≤ 8) (hdg : decode cc pc = .ok (.invokevirtual index, 3)) (hf : cells ≤ R.cells ∧ slots ≤ R.slots)
    (kk : W p l e R s m args below meth c H locs cells slots Q (F0 m (pc + 3) ls (.int r0 :: rest))) : W p l e R s m args below meth c H locs cells slots Q (F0 m pc ls stk) := by
  subst hstack
  refine vp_callSi (rest := rest) (W.runV (As := As) (rest := rest) S hM cw ⟨kPc_blind, va_recv hK.1 hPc hc he, fun U hU hW => ⟨rfl, by rw [hU]; exact hPc, hK.warm hW⟩⟩ rfl hn hsize rfl (lv_room hW) hdg hf) (fun r hr => ?_)
  subst hr
  exact kk
theorem kG_W {r0 : Int32} (S : CallFix p m c cc nL s args Ts own) (hPc : va_P D vwCl wc H) (hK : kK D cI cJ s) (hDc : va_D A0 wc) (hS : va_S A0 H0 H locs) (hA : ∀ q, H0.size ≤ q → A0 q) {b : Nat} (As : List Value) (hM : Met l y wsy rm (kPw D cI cJ wc H.size (.ref b :: As)) (kQi D r0 w1 (va_A wc H.size)) 0 0 (va_A wc H.size)) (cw : CallW R s args own C index y bytes maxL ret wsy rm 0 0 n) {T : u_T} {N1 ci : Nat} {fs : List Value} (hc : vwCl[ci]? = some (C, T, N1)) (he : wc[0]? = some (b, .inr (ci, fs))) (rest : List Value) (hn : As.length = n) (hsize : ls.size = nL) {stk : List Value} (hstack : stk = As.reverse ++ .ref b :: rest) (hW : (rest.map fun v => v.category).sum ≤ 8) (hdg : decode cc pc = .ok (.invokevirtual index, 3)) (hf : cells ≤ R.cells ∧ slots ≤ R.slots)
    (kk : ∀ (H1 : Heap) (locs1 : List Loc), va_P D vwCl w1 H1 → (∀ q : Nat, q < H.size → ¬ va_A wc H.size q → H1[q]? = H[q]?) → va_S A0 H0 H1 locs1 → W p l e R s m args below meth c H1 locs1 cells slots Q (F0 m (pc + 3) ls (.int r0 :: rest))) : W p l e R s m args below meth c H locs cells slots Q (F0 m pc ls stk) := by
  subst hstack
  have hFc : ∀ q, va_A wc H.size q → A0 q := by
    intro q h
    rcases h with ⟨k, e, h⟩ | h
    · exact hDc.2 k (q, e) h
    · exact hA q (Nat.le_trans hS.1 h)
  refine va_calli (rest := rest) (va_runV (As := As) (rest := rest) S hM cw ⟨kPw_blind, va_recv hK.1 hPc hc he, fun U hU hW => ⟨rfl, by rw [hU], by rw [hU]; exact hPc, hK.warm hW, hDc.weaken (fun _ _ _ _ => trivial)⟩⟩ rfl hn hsize rfl (lv_room hW) hdg hf) hS (fun q _ h => hFc q h) hFc (fun r u t H1 locs1 ht hvm hw hB hz1 hk1 hS1 => ?_)
  have hw : r = r0 := hw
  subst hw
  have hB : va_P D vwCl w1 t.heap := hB
  rw [ht] at hB
  exact kk H1 locs1 hB hk1 hS1
end kLaw
-- what holds ahead of each call of the law
def Sys (rec : Int32) (v : Nat → Nat → Int32) (f : Nat → Nat → Nat → Int32) (u : Nat → Int32) (ch : Nat → Int32) (mm : Nat → Int32) (ar : Nat → Nat → Int32) : Prop := ∃ (r Lt : Nat) (ct : Nat → Nat), r ≤ 4 ∧ rec = nI r ∧ mm 0 = nI r ∧ mm 1 = nI 0 ∧ u 0 = nI Lt ∧ mm 2 = nI Lt ∧ Txt Lt ct ch (ar 3) ∧ RelS (v 0) (f 0) (ar 0) ∧ Hist r v f (ar 1)
abbrev lA (s : State) : Nat → Prop := fun q => s.heap.size ≤ q
def LInv (D : va_G) (cI cJ : ClassId) (s : State) (b1 b2 : Nat) (H : Heap) (locs : List Loc) : Prop := ∃ (o : Nat → Nat) (rec : Int32) (A : Nat → Nat → Nat) (v : Nat → Nat → Int32) (f : Nat → Nat → Nat → Int32) (u : Nat → Int32) (ch : Nat → Int32) (xn : Int32) (xa : Nat → Int32) (xr : Nat → Int64) (a : Nat → Nat) (mm : Nat → Int32) (ar : Nat → Nat → Int32) (rr : Nat → Int64), o 0 = b1 ∧ a 0 = b2 ∧ Sys rec v f u ch mm ar ∧ va_P D vwCl (plW cI cJ o rec A v f u ch xn xa xr ++ mdW cI cJ a mm ar rr) H ∧ va_D (lA s) (plW cI cJ o rec A v f u ch xn xa xr ++ mdW cI cJ a mm ar rr) ∧ va_S (lA s) s.heap H locs
def LCtx (p : Program) (m : MethodId) (meth : Method) (c : Code) (s : State) (b L : Nat) (xs : Nat → Int32) (D : va_G) (cI cJ : ClassId) : Prop := p.tables.exec = Jvm.exec ∧ c.code = code ∧ meth.sig.returnType = ret ∧ c.maxLocals = 4 ∧ s.vm.findClass RL = some m.cls ∧ (∀ w ∈ (Cond.initialized RX6 :: wsL_law), w.before #[Value.ref b] s = true) ∧ va_X b L xs s s.heap ∧ b < s.heap.size ∧ kK D cI cJ s
theorem ix_in {L i k : Nat} (hL : L ≤ 2560) (hi : i + k < L) {K : Int32} (hk : K = nI k) : vp_in (nI i + K) L := by
  rw [hk, sI_add]
  exact vp_in_nI hi (by omega)
theorem hist_keep {r : Nat} (hr : r ≤ 4) {v v' : Nat → Nat → Int32} {f f' : Nat → Nat → Nat → Int32} {mpast : Nat → Int32} (hH : Hist r v f mpast) (v2 : v' 2 = v 2) (v3 : v' 3 = v 3) (v4 : v' 4 = v 4) (v5 : v' 5 = v 5) (f2 : f' 2 = f 2) (f3 : f' 3 = f 3) (f4 : f' 4 = f 4) (f5 : f' 5 = f 5) : Hist r v' f' mpast := by
  intro j hj
  have h := hH j hj
  have hj3 : j = 0 ∨ j = 1 ∨ j = 2 ∨ j = 3 := by omega
  rcases hj3 with rfl | rfl | rfl | rfl
  · rw [show 0 + 2 = 2 from rfl, v2, f2]; exact h
  · rw [show 1 + 2 = 3 from rfl, v3, f3]; exact h
  · rw [show 2 + 2 = 4 from rfl, v4, f4]; exact h
  · rw [show 3 + 2 = 5 from rfl, v5, f5]; exact h
