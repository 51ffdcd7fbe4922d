-- the law's calls, each from any place of the law (printed by gen87.py)
theorem kM_rb {l : Launch} {y : MethodName} {wsy ws' : List Cond} {rm : Room} {B0 : State → Prop} {av : List Value} {r0 : Int32} {own : String} (cc : ByteArray) (maxL : Nat) (ty : FieldType) (hy : plainName y.cls = true) (ho : y.cls = own) (hw : wsy = Cond.code y cc maxL (some ty) :: ws') (hlen : (lg_sl av).length ≤ maxL)
    (body : ∀ (p : Program) (e : Env) (s : State) (m : MethodId) (args : Array Value) (below : List Frame) (meth : Method) (c : Code) (Q : State → Prop) (ls : Array Slot), p.tables.exec = Jvm.exec → c.code = cc → c.maxLocals = maxL → s.vm.findClass own = some m.cls → (∀ w ∈ wsy, w.before args s = true) → B0 s → lv_has ls maxL (lv_args 0 av) → (∀ (pc : Nat) (ls : Array Slot) (v : Int32), decode cc pc = .ok (.ireturn, 1) → narrow ty (.int v) = .int v → v = r0 → W p l e rm s m args below meth c s.heap [] 0 0 Q (F0 m pc ls [.int v])) → W p l e rm s m args below meth c s.heap [] 0 0 Q (F0 m 0 ls [])) :
    Met l y wsy rm (va_Pc av B0) (vp_Si (fun r => r = r0)) 0 0 (fun _ => False) := by
  refine Met.ofW (cc := cc) (maxL := maxL) (ret := some ty) hy hw ?_
  intro p e s m args below meth c s₁ B hml hv
  obtain ⟨rfl, hB⟩ := hv
  have hl := lv_entry av (n := maxL) hlen
  rw [lg_entry_eq]
  refine body p e s m _ below meth c _ _ B.exec B.bytes hml (by rw [← ho]; exact findClass_of_methodNamed B.named) (atoms_spec (ws := wsy) B.pre) hB hl ?_
  intro pc ls v hd hn hv
  have hlocks := B.notSynchronized
  exact W.zret (ty := ty) B.exec B.bytes B.returns hn (fun t ht _ => ⟨v, rfl, hv, ht⟩) (fun q h => absurd h List.not_mem_nil) hd
def cellV (L : Nat) (xs : Nat → Int32) (i : Nat) : Int32 := if i < L then xs i else (40503 : Int32) * (nI i + (3 : Int32))
def kXb (b L : Nat) (xs : Nat → Int32) : State → Prop := fun U => va_X b L xs U U.heap ∧ b < U.heap.size
theorem kXb_blind {b L : Nat} {xs : Nat → Int32} {av : List Value} : FrameBlind (va_Pc av (kXb b L xs)) := fun _ _ _ _ q => ⟨q.1, q.2.1.moved (Vm.Alike.refl _), q.2.2⟩
theorem hdL_cell : yL_cell.cls ≠ "java/lang/invoke/MethodHandle" ∧ yL_cell.cls ≠ "java/lang/invoke/VarHandle" ∧ (parseMethodDescriptor yL_cell.desc).map (fun d => d.parameters.length) = some 2 := by decide +kernel
abbrev rmL_cell : Room := { frames := 0, cells := 0, slots := 0, locals := 0 }
set_option maxHeartbeats 4000000 in
theorem c_L_cell (l : Launch) (b L : Nat) (xs : Nat → Int32) (hL : L ≤ 260) (i : Nat) (hi : i < 1000) : Met l yL_cell (wz yL_cell cL_cell 2 (some .int)) rmL_cell (va_Pc [.ref b, .int (nI i)] (kXb b L xs)) (vp_Si (fun r => r = cellV L xs i)) 0 0 (fun _ => False) := by
  refine kM_rb cL_cell 2 .int (by decide +kernel) rfl rfl (Nat.le_of_ble_eq_true rfl) ?_
  intro p e s m args below meth c Q ls hx hb hml hown hts hB hl hret
  obtain ⟨hX, hbl⟩ := hB
  replace hl : lv_has ls 2 [(0, .ref b), (1, .int (nI i))] := hl
  have hS : va_S (fun _ => False) s.heap s.heap [] := va_S.rf
  refine lv_iload_n (pc := 0) hx hb dL_cell_0 rfl (lv_at hl 1 rfl) ?_
  refine lv_aload_n (pc := 1) hx hb dL_cell_1 rfl (lv_at hl 0 rfl) ?_
  refine va_slen (pc := 2) hx hb hX hbl (fun h => h) hS dL_cell_2 ?_
  have eL : Int32.ofNat L = nI L := rfl
  rw [eL]
  refine lv_icmp_ge (pc := 3) (tgt := 12) hx hb dL_cell_3 (by decide) (fun cc => ?_) (fun cc => ?_)
  · rw [sI_le (by omega) (by omega)] at cc
    refine lv_ldc (pc := 12) hx hb hown (hts _ (List.mem_cons_of_mem _ wl283)) dL_cell_12 ?_
    refine lv_iload_n (pc := 14) hx hb dL_cell_14 rfl (lv_at hl 1 rfl) ?_
    refine lv_iconst (v := 3) (pc := 15) hx hb dL_cell_15 (by decide) ?_
    refine lv_iadd (pc := 16) hx hb dL_cell_16 ?_
    refine lv_imul (pc := 17) hx hb dL_cell_17 ?_
    exact hret _ _ _ dL_cell_18 rfl (by unfold cellV; rw [if_neg (by omega)])
  · rw [sI_le (by omega) (by omega)] at cc
    refine lv_aload_n (pc := 6) hx hb dL_cell_6 rfl (lv_at hl 0 rfl) ?_
    refine lv_iload_n (pc := 7) hx hb dL_cell_7 rfl (lv_at hl 1 rfl) ?_
    refine va_sld (pc := 8) hx hb hX hbl (fun h => h) hS (vp_in_nI (by omega) (by omega)) dL_cell_8 ?_
    refine lv_goto (pc := 9) (tgt := 18) hx hb dL_cell_9 (by decide) ?_
    exact hret _ _ _ dL_cell_18 rfl (by unfold cellV; rw [if_pos (by omega), sI_cl (by omega)])
section kEnd
variable {p : Program} {l : Launch} {e : Env} {R : Room} {s : State} {m : MethodId} {args : Array Value} {below : List Frame} {meth : Method} {c : Code} {H H0 : Heap} {locs : List Loc} {cells slots : Nat} {Q : State → Prop} {cc : ByteArray} {nL : Nat} {Ts : List Cond} {own : String} {D : va_G} {cI cJ : ClassId} {ws : va_W} {y : MethodName} {wsy : List Cond} {rm : Room} {bytes : ByteArray} {maxL n index : Nat} {ret : Option FieldType} {pc : Nat} {ls : Array Slot} {A0 : Nat → Prop}
theorem kG_S {r0 : Int32} (S : CallFix p m c cc nL s args Ts own) (hP : va_P D vwCl ws H) (hK : kK D cI cJ s) (As : List Value) (hM : Met l y wsy rm (kPc D cI cJ ws As) (vp_Si (fun r => r = r0)) 0 0 (fun _ => False)) (cw : CallB R s args own index y bytes maxL ret wsy rm 0 0 n ∧ (Cond.static y).before args s = true) (rest : List Value) (hn : As.length = n) (hsize : ls.size = nL) {stk : List Value} (hstack : stk = As.reverse ++ rest) (hW : (rest.map fun v => v.category).sum ≤ 8) (hdg : decode cc pc = .ok (.invokestatic index, 3)) (hf : cells ≤ R.cells ∧ slots ≤ R.slots)
    (kk : W p l e R s m args below meth c H locs cells slots Q (F0 m (pc + 3) ls (.int r0 :: rest))) : W p l e R s m args below meth c H locs cells slots Q (F0 m pc ls stk) := by
  subst hstack
  refine vp_callSi (rest := rest) (W.runS (As := As) (rest := rest) S hM cw ⟨kPc_blind, fun U hU hW => ⟨rfl, by rw [hU]; exact hP, hK.warm hW⟩⟩ rfl hn hsize rfl (lv_room hW) hdg hf) (fun r hr => ?_)
  subst hr
  exact kk
theorem kG_cell {b L : Nat} {xs : Nat → Int32} {r0 : Int32} (S : CallFix p m c cc nL s args Ts own) (hX : va_X b L xs s s.heap) (hbl : b < s.heap.size) (hbA : ¬ A0 b) (hS : va_S A0 s.heap H locs) (As : List Value) (hM : Met l y wsy rm (va_Pc As (kXb b L xs)) (vp_Si (fun r => r = r0)) 0 0 (fun _ => False)) (cw : CallB R s args own index y bytes maxL ret wsy rm 0 0 n ∧ (Cond.static y).before args s = true) (rest : List Value) (hn : As.length = n) (hsize : ls.size = nL) {stk : List Value} (hstack : stk = As.reverse ++ rest) (hW : (rest.map fun v => v.category).sum ≤ 8) (hdg : decode cc pc = .ok (.invokestatic index, 3)) (hf : cells ≤ R.cells ∧ slots ≤ R.slots)
    (kk : W p l e R s m args below meth c H locs cells slots Q (F0 m (pc + 3) ls (.int r0 :: rest))) : W p l e R s m args below meth c H locs cells slots Q (F0 m pc ls stk) := by
  subst hstack
  refine vp_callSi (rest := rest) (W.runS (As := As) (rest := rest) S hM cw ⟨kXb_blind, fun U hU hW => ⟨rfl, (hX.moved hW.alike).kept (by rw [hU]; exact hS.2.1 b hbl hbA), by rw [hU]; exact Nat.lt_of_lt_of_le hbl hS.1⟩⟩ rfl hn hsize rfl (lv_room hW) hdg hf) (fun r hr => ?_)
  subst hr
  exact kk
end kEnd
abbrev lA (s : State) : Nat → Prop := fun q => s.heap.size ≤ q
def LInv (D : va_G) (cI cJ : ClassId) (s : State) (bo bg bw bq bc : Nat) (H : Heap) (locs : List Loc) : Prop := ∃ (N G z th sc of : Nat) (wn : Nat → Nat) (pl pa : Nat → Nat → Nat) (g w q : Nat → Int32) (cc : Nat → Int64) (t : va_W), LSt N G z th sc of wn pl pa g w cc ∧ OW cI cJ bo t (RlS N G g w q pl pa) ∧ va_P D vwCl ((bg, .inl (cI, 8, .inl g)) :: (bw, .inl (cI, 12, .inl w)) :: (bq, .inl (cI, 60, .inl q)) :: (bc, .inl (cJ, 60, .inr (.inl cc))) :: t) H ∧ va_D (lA s) ((bg, .inl (cI, 8, .inl g)) :: (bw, .inl (cI, 12, .inl w)) :: (bq, .inl (cI, 60, .inl q)) :: (bc, .inl (cJ, 60, .inr (.inl cc))) :: t) ∧ va_S (lA s) s.heap H locs
def LCtx (p : Program) (m : MethodId) (meth : Method) (c : Code) (s : State) (b L : Nat) (xs : Nat → Int32) (D : va_G) (cI cJ : ClassId) : Prop := p.tables.exec = Jvm.exec ∧ c.code = code ∧ meth.sig.returnType = ret ∧ c.maxLocals = 9 ∧ s.vm.findClass RL = some m.cls ∧ (∀ w ∈ (Cond.initialized RX6 :: wsL_law), w.before #[Value.ref b] s = true) ∧ va_X b L xs s s.heap ∧ b < s.heap.size ∧ kK D cI cJ s
set_option maxHeartbeats 20000000 in
set_option maxRecDepth 100000 in
theorem st_acts {p : Program} {e : Env} {s : State} {m : MethodId} {below : List Frame} {meth : Method} {c : Code} {l : Launch} {b L : Nat} {xs : Nat → Int32} {D : va_G} {cI cJ : ClassId} {bo bg bw bq bc : Nat} {C N : Nat} {Q : State → Prop} {H : Heap} {locs : List Loc} {ls : Array Slot} {pc : Nat} (z : Int32) (X : LCtx p m meth c s b L xs D cI cJ) (I : LInv D cI cJ s bo bg bw bq bc H locs) (hdg : decode cL_law pc = .ok (.invokestatic 111, 3)) (hsize : ls.size = 9) (hf : C + 2 ≤ room_1.cells ∧ N + 24 ≤ room_1.slots) (kk : ∀ (H : Heap) (locs : List Loc), LInv D cI cJ s bo bg bw bq bc H locs → W p l e room_1 s m #[Value.ref b] below meth c H locs (C + 2) (N + 24) Q (F0 m (pc + 3) ls [.int 1])) : W p l e room_1 s m #[Value.ref b] below meth c H locs C N Q (F0 m pc ls [.int z, .ref bc, .ref bq, .ref bw, .ref bg, .ref bo]) := by
  obtain ⟨hx, hb, hr, hml, hown, hts, hX, hbl, hK⟩ := X
  obtain ⟨N1, G1, z1, th1, sc1, of1, wn, pl, pa, g, w, q, cc, t, hL, hOW, hP, hD, hS⟩ := I
  have hA : ∀ q : Nat, s.heap.size ≤ q → lA s q := fun _ h => h
  obtain ⟨KO, g', w', q', c', N', G', z', th', sc', of', wn', pl', pa', eF, hL', hO⟩ := acts_ok hL q z
  refine kG_SX (pc := pc) ⟨hx, hb, hml, hown, hts⟩ hP hK hD hS hA [.ref bo, .ref bg, .ref bw, .ref bq, .ref bc, .int z] (c_L_acts l D cI cJ bo t _ (RlS N' G' g' w' q' pl' pa') KO bg bw bq bc g w q cc z 1 g' w' q' c' eF hOW hO _) (cwS 6 hts (gzS wl284 wl285 wl118 wl286) rfl rfl rfl ⟨rfl, hdL_acts⟩ ⟨Nat.le_of_ble_eq_true rfl, Nat.le_of_ble_eq_true rfl⟩) [] rfl hsize rfl (Nat.le_of_ble_eq_true rfl) hdg hf (fun w1 H1 locs1 hR1 hP1 hD1 hS1 => ?_)
  obtain ⟨t1, hOW1, rfl⟩ := hR1
  exact kk H1 locs1 ⟨N', G', z', th', sc', of', wn', pl', pa', g', w', q', c', t1, hL', hOW1, hP1, hD1, hS1⟩
set_option maxHeartbeats 20000000 in
set_option maxRecDepth 100000 in
theorem st_isSo {p : Program} {e : Env} {s : State} {m : MethodId} {below : List Frame} {meth : Method} {c : Code} {l : Launch} {b L : Nat} {xs : Nat → Int32} {D : va_G} {cI cJ : ClassId} {bo bg bw bq bc : Nat} {C N : Nat} {Q : State → Prop} {H : Heap} {locs : List Loc} {ls : Array Slot} {pc : Nat} (X : LCtx p m meth c s b L xs D cI cJ) (I : LInv D cI cJ s bo bg bw bq bc H locs) (hdg : decode cL_law pc = .ok (.invokestatic 104, 3)) (hsize : ls.size = 9) (hf : C ≤ room_1.cells ∧ N ≤ room_1.slots) (kk : W p l e room_1 s m #[Value.ref b] below meth c H locs C N Q (F0 m (pc + 3) ls [.int 1])) : W p l e room_1 s m #[Value.ref b] below meth c H locs C N Q (F0 m pc ls [.ref bc, .ref bq, .ref bw, .ref bg, .ref bo]) := by
  obtain ⟨hx, hb, hr, hml, hown, hts, hX, hbl, hK⟩ := X
  obtain ⟨N1, G1, z1, th1, sc1, of1, wn, pl, pa, g, w, q, cc, t, hL, hOW, hP, hD, hS⟩ := I
  have hA : ∀ q : Nat, s.heap.size ≤ q → lA s q := fun _ h => h
  obtain ⟨o, rec, A, v, f, u, ch, xn, xa, xr, rfl, rfl, hu, hv⟩ := hOW
  exact kG_S (pc := pc) ⟨hx, hb, hml, hown, hts⟩ hP hK [.ref (o 0), .ref bg, .ref bw, .ref bq, .ref bc] (c_L_isSo l D cI cJ o rec A v f u ch xn xa xr bg bw bq bc g w q cc 1 (isSo_ok hL hv hu rec)) (cwS 5 hts (gzS wl125 wl126 wl118 wl127) rfl rfl rfl ⟨rfl, hdL_isSo⟩ ⟨Nat.le_of_ble_eq_true rfl, Nat.le_of_ble_eq_true rfl⟩) [] rfl hsize rfl (Nat.le_of_ble_eq_true rfl) hdg hf kk
set_option maxHeartbeats 20000000 in
set_option maxRecDepth 100000 in
theorem st_cell {p : Program} {e : Env} {s : State} {m : MethodId} {below : List Frame} {meth : Method} {c : Code} {l : Launch} {b L : Nat} {xs : Nat → Int32} {D : va_G} {cI cJ : ClassId} {bo bg bw bq bc : Nat} {C N : Nat} {Q : State → Prop} {H : Heap} {locs : List Loc} {ls : Array Slot} {pc : Nat} (i : Nat) (hi : i < 1000) (hL : L ≤ 260) (rest : List Value) (hW : (rest.map fun v => v.category).sum ≤ 8) (X : LCtx p m meth c s b L xs D cI cJ) (I : LInv D cI cJ s bo bg bw bq bc H locs) (hdg : decode cL_law pc = .ok (.invokestatic 108, 3)) (hsize : ls.size = 9) (hf : C ≤ room_1.cells ∧ N ≤ room_1.slots) (kk : W p l e room_1 s m #[Value.ref b] below meth c H locs C N Q (F0 m (pc + 3) ls (.int (cellV L xs i) :: rest))) : W p l e room_1 s m #[Value.ref b] below meth c H locs C N Q (F0 m pc ls (.int (nI i) :: .ref b :: rest)) := by
  obtain ⟨hx, hb, hr, hml, hown, hts, hX, hbl, hK⟩ := X
  obtain ⟨N1, G1, z1, th1, sc1, of1, wn, pl, pa, g, w, q, cc, t, -, -, -, -, hS⟩ := I
  have hbA : ¬ lA s b := Nat.not_le.mpr hbl
  exact kG_cell (pc := pc) ⟨hx, hb, hml, hown, hts⟩ hX hbl hbA hS [.ref b, .int (nI i)] (c_L_cell l b L xs hL i hi) (cwS 2 hts (gzS wl280 wl281 wl118 wl282) rfl rfl rfl ⟨rfl, hdL_cell⟩ ⟨Nat.le_of_ble_eq_true rfl, Nat.le_of_ble_eq_true rfl⟩) rest rfl hsize rfl hW hdg hf kk
set_option maxHeartbeats 20000000 in
set_option maxRecDepth 100000 in
theorem st_count {p : Program} {e : Env} {s : State} {m : MethodId} {below : List Frame} {meth : Method} {c : Code} {l : Launch} {b L : Nat} {xs : Nat → Int32} {D : va_G} {cI cJ : ClassId} {bo bg bw bq bc : Nat} {C N : Nat} {Q : State → Prop} {H : Heap} {locs : List Loc} {ls : Array Slot} {pc j : Nat} (hj : j = 11 ∨ j = 23) (X : LCtx p m meth c s b L xs D cI cJ) (I : LInv D cI cJ s bo bg bw bq bc H locs) (hdg : decode cL_law pc = .ok (.invokevirtual 96, 3)) (hsize : ls.size = 9) (hf : C ≤ room_1.cells ∧ N ≤ room_1.slots) (kk : W p l e room_1 s m #[Value.ref b] below meth c H locs C N Q (F0 m (pc + 3) ls [.int (-1000001)])) : W p l e room_1 s m #[Value.ref b] below meth c H locs C N Q (F0 m pc ls [.int (nI j), .ref bo]) := by
  obtain ⟨hx, hb, hr, hml, hown, hts, hX, hbl, hK⟩ := X
  obtain ⟨N1, G1, z1, th1, sc1, of1, wn, pl, pa, g, w, q, cc, t, hL, hOW, hP, hD, hS⟩ := I
  have hA : ∀ q : Nat, s.heap.size ≤ q → lA s q := fun _ h => h
  obtain ⟨o, rec, A, v, f, u, ch, xn, xa, xr, rfl, rfl, hu, hv⟩ := hOW
  have hF : F_X6_count rec (v 0 0) (v 0 1) (v 0 2) (v 0 3) (v 0 4) (f 0 0) (v 0 5) (f 0 6) (f 0 7) (u 0) (nI j) = some (-1000001) := by
    refine t_count hL hv rec (u 0) j (-1000001) ?_
    rcases hj with rfl | rfl
    · exact Or.inr (Or.inr (Or.inr (Or.inr (Or.inr (Or.inr (Or.inr (Or.inr (Or.inr (Or.inr (Or.inl ⟨rfl, rfl⟩))))))))))
    · exact Or.inr (Or.inr (Or.inr (Or.inr (Or.inr (Or.inr (Or.inr (Or.inr (Or.inr (Or.inr (Or.inr (Or.inr (Or.inr (Or.inr ⟨rfl, rfl⟩)))))))))))))
  exact kG_V (pc := pc) (ci := 6) ⟨hx, hb, hml, hown, hts⟩ (vP_tl (vP_tl (vP_tl (vP_tl hP)))) hK [.int (nI j)] (p_count l D cI cJ o rec A v f u ch xn xa xr (nI j) (-1000001) hF) (cwV 1 hts (gzV wl198 wl199 wl200 wl2 wl201) rfl rfl rfl ⟨rfl, hdX6_count⟩ ⟨Nat.le_of_ble_eq_true rfl, Nat.le_of_ble_eq_true rfl⟩) rfl rfl [] rfl hsize rfl (Nat.le_of_ble_eq_true rfl) hdg hf kk
set_option maxHeartbeats 20000000 in
set_option maxRecDepth 100000 in
theorem st_gen6 {p : Program} {e : Env} {s : State} {m : MethodId} {below : List Frame} {meth : Method} {c : Code} {l : Launch} {b L : Nat} {xs : Nat → Int32} {D : va_G} {cI cJ : ClassId} {bo bg bw bq bc : Nat} {C N : Nat} {Q : State → Prop} {H : Heap} {locs : List Loc} {ls : Array Slot} {pc : Nat} (X : LCtx p m meth c s b L xs D cI cJ) (I : LInv D cI cJ s bo bg bw bq bc H locs) (hdg : decode cL_law pc = .ok (.invokevirtual 100, 3)) (hsize : ls.size = 9) (hf : C ≤ room_1.cells ∧ N ≤ room_1.slots) (kk : W p l e room_1 s m #[Value.ref b] below meth c H locs C N Q (F0 m (pc + 3) ls [.int (-1000001)])) : W p l e room_1 s m #[Value.ref b] below meth c H locs C N Q (F0 m pc ls [.int (nI 6), .int (nI 0), .ref bo]) := by
  obtain ⟨hx, hb, hr, hml, hown, hts, hX, hbl, hK⟩ := X
  obtain ⟨N1, G1, z1, th1, sc1, of1, wn, pl, pa, g, w, q, cc, t, hL, hOW, hP, hD, hS⟩ := I
  have hA : ∀ q : Nat, s.heap.size ≤ q → lA s q := fun _ h => h
  obtain ⟨o, rec, A, v, f, u, ch, xn, xa, xr, rfl, rfl, hu, hv⟩ := hOW
  have hG1 : 0 < G1 := hL.1.2.2.1
  have hF := (t_gen hL hv hG1).2.2.2.2
  exact kG_V (pc := pc) (ci := 6) ⟨hx, hb, hml, hown, hts⟩ (vP_tl (vP_tl (vP_tl (vP_tl hP)))) hK [.int (nI 0), .int (nI 6)] (p_generationOf l D cI cJ o rec A v f u ch xn xa xr (nI 0) (nI 6) (-1000001) hF) (cwV 2 hts (gzV wl236 wl237 wl238 wl2 wl239) rfl rfl rfl ⟨rfl, hdX6_generationOf⟩ ⟨Nat.le_of_ble_eq_true rfl, Nat.le_of_ble_eq_true rfl⟩) rfl rfl [] rfl hsize rfl (Nat.le_of_ble_eq_true rfl) hdg hf kk
