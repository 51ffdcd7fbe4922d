-- methods that make arrays; static calls that write
theorem vP_tl {D : va_G} {cl : List vw_C} {x : Nat × va_E} {r : va_W} {H : Heap} (h : va_P D cl (x :: r) H) : va_P D cl r H := vP_r (w := [x]) h
theorem vD_tl {A : Nat → Prop} {x : Nat × va_E} {r : va_W} (h : va_D A (x :: r)) : va_D A r := vD_r (w := [x]) h
def kQX (D : va_G) (r0 : Int32) (R1 : va_W → Prop) (A : Nat → Prop) : Array Value → State → Outcome → State → Prop := va_Qi (fun (r : Int32) (_ : Unit) => r = r0) (fun _ t => ∃ w1, R1 w1 ∧ va_P D vwCl w1 t.heap ∧ va_D A w1) A
theorem kM_X {l : Launch} {y : MethodName} {wsy ws' : List Cond} {rm : Room} {D : va_G} {cI cJ : ClassId} {wc : va_W} {R1 : va_W → Prop} {mc ms : Nat} {av : List Value} {r0 : Int32} {sz : Nat} {own : String} (cc : ByteArray) (maxL : Nat) (ty : FieldType) (hy : plainName y.cls = true) (ho : y.cls = own) (hw : wsy = Cond.code y cc maxL (some ty) :: ws') (hlen : (lg_sl av).length ≤ maxL)
    (body : ∀ (p : Program) (e : Env) (s : State) (m : MethodId) (args : Array Value) (below : List Frame) (meth : Method) (c : Code) (Q : State → Prop) (A : Nat → Prop) (ls : Array Slot), p.tables.exec = Jvm.exec → c.code = cc → c.maxLocals = maxL → s.vm.findClass own = some m.cls → (∀ w ∈ wsy, w.before args s = true) → va_P D vwCl wc s.heap → kK D cI cJ s → va_D A wc → (∀ q, s.heap.size ≤ q → A q) → va_S A s.heap s.heap [] → lv_has ls maxL (lv_args 0 av) → (∀ (H : Heap) (locs : List Loc) (pc : Nat) (ls : Array Slot) (v : Int32) (w1 : va_W), decode cc pc = .ok (.ireturn, 1) → narrow ty (.int v) = .int v → v = r0 → R1 w1 → va_P D vwCl w1 H → va_D A w1 → va_S A s.heap H locs → W p l e rm s m args below meth c H locs mc ms Q (F0 m pc ls [.int v])) → W p l e rm s m args below meth c s.heap [] 0 0 Q (F0 m 0 ls [])) :
    Met l y wsy rm (kPw D cI cJ wc sz av) (kQX D r0 R1 (va_A wc sz)) mc ms (va_A wc sz) := by
  refine Met.ofW (cc := cc) (maxL := maxL) (ret := some ty) hy hw ?_
  intro p e s m args below meth c s₁ B hml hv
  obtain ⟨rfl, hsz, hP, hK, hD0⟩ := hv
  subst hsz
  have hl := lv_entry av (n := maxL) hlen
  rw [lg_entry_eq]
  refine body p e s m _ below meth c _ _ _ B.exec B.bytes hml (by rw [← ho]; exact findClass_of_methodNamed B.named) (atoms_spec (ws := wsy) B.pre) hP hK (hD0.self (sz := s.heap.size)) (fun q h => Or.inr h) va_S.rf hl ?_
  intro H locs pc ls v w1 hd hn hv hR hP1 hD1 hS
  have hlocks := B.notSynchronized
  exact W.zret (ty := ty) B.exec B.bytes B.returns hn (fun t ht _ => ⟨⟨v, (), rfl, hv, w1, hR, by rw [ht]; exact hP1, hD1⟩, hS.F ht⟩) hS.2.2 hd
section kMore
variable {p : Program} {l : Launch} {e : Env} {R : Room} {s : State} {m : MethodId} {args : Array Value} {below : List Frame} {meth : Method} {c : Code} {H H0 : Heap} {locs : List Loc} {cells slots : Nat} {Q : State → Prop} {cc : ByteArray} {nL : Nat} {Ts : List Cond} {own C : String} {D : va_G} {cI cJ : ClassId} {ws wc wr w1 : va_W} {y : MethodName} {wsy : List Cond} {rm : Room} {bytes : ByteArray} {maxL n index : Nat} {ret : Option FieldType} {pc : Nat} {ls : Array Slot} {A0 : Nat → Prop}
theorem kc_SWi {r0 : Int32} (S : CallFix p m c cc nL s args Ts own) (hP : va_P D vwCl ws H) (hK : kK D cI cJ s) (hD : va_D A0 ws) (hS : va_S A0 H0 H locs) (hA : ∀ q, H0.size ≤ q → A0 q)
    (As : List Value) (hM : Met l y wsy rm (kPw D cI cJ wc H.size As) (kQi D r0 w1 (va_A wc H.size)) 0 0 (va_A wc H.size)) (isC : List Nat) (hC : isC.map (fun i => ws[i]?) = wc.map some) (hnd : va_nd isC = true) (hadr : w1.map Prod.fst = wc.map Prod.fst) (cw : CallB R s args own index y bytes maxL ret wsy rm 0 0 n ∧ (Cond.static y).before args s = true) (rest : List Value) (hn : As.length = n) (hsize : ls.size = nL) {stk : List Value} (hstack : stk = As.reverse ++ rest) (hW : (rest.map fun v => v.category).sum ≤ 8) (hdg : decode cc pc = .ok (.invokestatic index, 3)) (hf : cells ≤ R.cells ∧ slots ≤ R.slots)
    (kk : ∀ (H1 : Heap) (locs1 : List Loc), va_P D vwCl (kSet ws isC w1) H1 → va_D A0 (kSet ws isC w1) → va_S A0 H0 H1 locs1 → W p l e R s m args below meth c H1 locs1 cells slots Q (F0 m (pc + 3) ls (.int r0 :: rest))) : W p l e R s m args below meth c H locs cells slots Q (F0 m pc ls stk) := by
  subst hstack
  have hPc := hP.sub isC (kMapFilter _ _ _ hC)
  have hDc := hD.sub isC hnd hC
  have hFc := va_free (wc := wc) hD hS hA isC hC
  refine va_calli (rest := rest) (va_runS (As := As) (rest := rest) S hM cw ⟨kPw_blind, fun U hU hW => ⟨rfl, by rw [hU], by rw [hU]; exact hPc, hK.warm hW, hDc.weaken (fun _ _ _ _ => trivial)⟩⟩ rfl hn hsize rfl (lv_room hW) hdg hf) hS (fun q _ h => hFc q h) hFc (fun r u t H1 locs1 ht hvm hw hB hz1 hk1 hS1 => ?_)
  have hw : r = r0 := hw
  subst hw
  have hB : va_P D vwCl w1 t.heap := hB
  rw [ht] at hB
  obtain ⟨h1, h2⟩ := kJoin hP hD isC hC hadr hk1 hB
  exact kk H1 locs1 h1 h2 hS1
theorem kc_SX {r0 : Int32} {R1 : va_W → Prop} {mc ms : Nat} (S : CallFix p m c cc nL s args Ts own) (hP : va_P D vwCl ws H) (hK : kK D cI cJ s) (hD : va_D A0 ws) (hS : va_S A0 H0 H locs) (hA : ∀ q, H0.size ≤ q → A0 q)
    (As : List Value) (hM : Met l y wsy rm (kPw D cI cJ wc H.size As) (kQX D r0 R1 (va_A wc H.size)) mc ms (va_A wc H.size)) (isC : List Nat) (hC : isC.map (fun i => ws[i]?) = wc.map some) (hnd : va_nd isC = true) (hadr : ∀ w1, R1 w1 → w1.map Prod.fst = wc.map Prod.fst) (cw : CallB R s args own index y bytes maxL ret wsy rm mc ms n ∧ (Cond.static y).before args s = true) (rest : List Value) (hn : As.length = n) (hsize : ls.size = nL) {stk : List Value} (hstack : stk = As.reverse ++ rest) (hW : (rest.map fun v => v.category).sum ≤ 8) (hdg : decode cc pc = .ok (.invokestatic index, 3)) (hf : cells + mc ≤ R.cells ∧ slots + ms ≤ R.slots)
    (kk : ∀ (w1 : va_W) (H1 : Heap) (locs1 : List Loc), R1 w1 → va_P D vwCl (kSet ws isC w1) H1 → va_D A0 (kSet ws isC w1) → va_S A0 H0 H1 locs1 → W p l e R s m args below meth c H1 locs1 (cells + mc) (slots + ms) Q (F0 m (pc + 3) ls (.int r0 :: rest))) : W p l e R s m args below meth c H locs cells slots Q (F0 m pc ls stk) := by
  subst hstack
  have hPc := hP.sub isC (kMapFilter _ _ _ hC)
  have hDc := hD.sub isC hnd hC
  have hFc := va_free (wc := wc) hD hS hA isC hC
  refine va_calli (rest := rest) (va_runS (As := As) (rest := rest) S hM cw ⟨kPw_blind, fun U hU hW => ⟨rfl, by rw [hU], by rw [hU]; exact hPc, hK.warm hW, hDc.weaken (fun _ _ _ _ => trivial)⟩⟩ rfl hn hsize rfl (lv_room hW) hdg hf) hS (fun q _ h => hFc q h) hFc (fun r u t H1 locs1 ht hvm hw hB hz1 hk1 hS1 => ?_)
  have hw : r = r0 := hw
  subst hw
  obtain ⟨w1, hR1, hP1, -⟩ := hB
  rw [ht] at hP1
  obtain ⟨h1, h2⟩ := kJoin hP hD isC hC (hadr w1 hR1) hk1 hP1
  exact kk w1 H1 locs1 hR1 h1 h2 hS1
-- the callee's world is the caller's
theorem kG_SX {r0 : Int32} {R1 : va_W → Prop} {mc ms : Nat} (S : CallFix p m c cc nL s args Ts own) (hP : va_P D vwCl ws H) (hK : kK D cI cJ s) (hD : va_D A0 ws) (hS : va_S A0 H0 H locs) (hA : ∀ q, H0.size ≤ q → A0 q)
    (As : List Value) (hM : Met l y wsy rm (kPw D cI cJ ws H.size As) (kQX D r0 R1 (va_A ws H.size)) mc ms (va_A ws H.size)) (cw : CallB R s args own index y bytes maxL ret wsy rm mc ms n ∧ (Cond.static y).before args s = true) (rest : List Value) (hn : As.length = n) (hsize : ls.size = nL) {stk : List Value} (hstack : stk = As.reverse ++ rest) (hW : (rest.map fun v => v.category).sum ≤ 8) (hdg : decode cc pc = .ok (.invokestatic index, 3)) (hf : cells + mc ≤ R.cells ∧ slots + ms ≤ R.slots)
    (kk : ∀ (w1 : va_W) (H1 : Heap) (locs1 : List Loc), R1 w1 → va_P D vwCl w1 H1 → va_D A0 w1 → va_S A0 H0 H1 locs1 → W p l e R s m args below meth c H1 locs1 (cells + mc) (slots + ms) Q (F0 m (pc + 3) ls (.int r0 :: rest))) : W p l e R s m args below meth c H locs cells slots Q (F0 m pc ls stk) := by
  subst hstack
  have hFc : ∀ q, va_A ws H.size q → A0 q := by
    intro q h
    rcases h with ⟨k, e, h⟩ | h
    · exact hD.2 k (q, e) h
    · exact hA q (Nat.le_trans hS.1 h)
  refine va_calli (rest := rest) (va_runS (As := As) (rest := rest) S hM cw ⟨kPw_blind, fun U hU hW => ⟨rfl, by rw [hU], by rw [hU]; exact hP, hK.warm hW, hD.weaken (fun _ _ _ _ => trivial)⟩⟩ rfl hn hsize rfl (lv_room hW) hdg hf) hS (fun q _ h => hFc q h) hFc (fun r u t H1 locs1 ht hvm hw hB hz1 hk1 hS1 => ?_)
  have hw : r = r0 := hw
  subst hw
  obtain ⟨w1, hR1, hP1, hD1⟩ := hB
  rw [ht] at hP1
  exact kk w1 H1 locs1 hR1 hP1 (hD1.weaken (fun k q _ h => hFc q.1 h)) hS1
end kMore
