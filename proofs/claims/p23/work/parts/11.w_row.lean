-- contracts, printed by wip/p23/gen23.py
theorem hdX2_copyRow : yX2_copyRow.cls ≠ "java/lang/invoke/MethodHandle" ∧ yX2_copyRow.cls ≠ "java/lang/invoke/VarHandle" ∧ (parseMethodDescriptor yX2_copyRow.desc).map (fun d => d.parameters.length) = some 1 := by decide +kernel
abbrev rmX2_copyRow : Room := { frames := 0, cells := 0, slots := 0, locals := 0 }
set_option maxHeartbeats 20000000 in
set_option maxRecDepth 100000 in
theorem c_X2_copyRow (l : Launch) (D : va_G) (cI cJ : ClassId) (self : Nat) (a : Nat) (oself : Nat) (oa : Nat) (n : Nat) (on : Nat) (f : Nat → Int32) (of : Nat → Int32)  (zf : Nat → Int32) (hF : F_X2_copyRow n on f of = some zf) (sz : Nat) : Met l yX2_copyRow (wz yX2_copyRow cX2_copyRow 3 none) rmX2_copyRow (kPw D cI cJ [(self, .inr (2, [.ref a])), (a, .inl (cI, n, .inl f)), (oself, .inr (2, [.ref oa])), (oa, .inl (cI, on, .inl of))] sz [.ref self, .ref oself]) (kQv D [(self, .inr (2, [.ref a])), (a, .inl (cI, n, .inl zf)), (oself, .inr (2, [.ref oa])), (oa, .inl (cI, on, .inl of))] (va_A [(self, .inr (2, [.ref a])), (a, .inl (cI, n, .inl f)), (oself, .inr (2, [.ref oa])), (oa, .inl (cI, on, .inl of))] sz)) 0 0 (va_A [(self, .inr (2, [.ref a])), (a, .inl (cI, n, .inl f)), (oself, .inr (2, [.ref oa])), (oa, .inl (cI, on, .inl of))] sz) := by
  refine kM_wv cX2_copyRow 3 (by decide +kernel) rfl rfl (Nat.le_of_ble_eq_true rfl) ⟨rfl, rfl⟩ ?_
  intro p e s m args below meth c Q A ls hx hb hml hown hts hP hK hD hA hS hl hret
  have hk75 := hts _ (List.mem_cons_of_mem _ wl75)
  have hnX2 : ∀ w ∈ u_ws RX2 TX2 1, w ∈ wz yX2_copyRow cX2_copyRow 3 none := fun w h => List.mem_cons_of_mem _ (inlX2 w h)
  replace hl : lv_has ls 3 [(0, .ref self), (1, .ref oself)] := hl
  have h := hF
  unfold F_X2_copyRow at h
  refine lv_iconst (v := 0) (pc := 0) hx hb dX2_copyRow_0 (by decide) ?_
  refine lv_istore_n (lv' := [(2, .int (0 : Int32)), (0, .ref self), (1, .ref oself)]) (pc := 1) hx hb dX2_copyRow_1 rfl hl (by decide) rfl (fun ls hl => ?_)
  refine am_join1_s (fun (f1 : Nat → Int32) => ∀ (ls : Array Slot), lv_has ls 3 [] → ∀ (H : Heap) (locs : List Loc), va_P D vwCl [(self, .inr (2, [.ref a])), (a, .inl (cI, n, .inl f1)), (oself, .inr (2, [.ref oa])), (oa, .inl (cI, on, .inl of))] H → va_D A [(self, .inr (2, [.ref a])), (a, .inl (cI, n, .inl f1)), (oself, .inr (2, [.ref oa])), (oa, .inl (cI, on, .inl of))] → va_S A s.heap H locs → W p l e rmX2_copyRow s m args below meth c H locs 0 0 Q (F0 m 38 ls [])) h (fun f1 h ls hl H locs hP hD hS => ?_) (fun K2 hK2 h => ?_)
  · obtain e1 := am_ret1 h
    exact hret _ _ _ _ dX2_copyRow_38 (by rw [← e1]; exact hP) hS
  refine am_loop2_s (fun (x3 : Int32) (f4 : Nat → Int32) => ∀ (ls : Array Slot), lv_has ls 3 [(0, .ref self), (1, .ref oself), (2, .int x3)] → ∀ (H : Heap) (locs : List Loc), va_P D vwCl [(self, .inr (2, [.ref a])), (a, .inl (cI, n, .inl f4)), (oself, .inr (2, [.ref oa])), (oa, .inl (cI, on, .inl of))] H → va_D A [(self, .inr (2, [.ref a])), (a, .inl (cI, n, .inl f4)), (oself, .inr (2, [.ref oa])), (oa, .inl (cI, on, .inl of))] → va_S A s.heap H locs → W p l e rmX2_copyRow s m args below meth c H locs 0 0 Q (F0 m 2 ls [])) (fun rec5 ihrec5 x3 f4 h ls hl H locs hP hD hS => ?_) _ _ _ h ls (lv_sub hl [1, 2, 0] rfl) s.heap [] hP hD hS
  unfold F_X2_copyRow_B2 at h
  refine lv_iload_n (pc := 2) hx hb dX2_copyRow_2 rfl (lv_at hl 2 rfl) ?_
  refine lv_aload_n (pc := 3) hx hb dX2_copyRow_3 rfl (lv_at hl 0 rfl) ?_
  refine va_get (pc := 4) (D := D) (ci := 2) (v := .ref a) (C := RX2) (T := TX2) (N := 1) hx hb hts hnX2 hown hK.1 hP 0 rfl rfl 0 (Nat.le_of_ble_eq_true rfl) hk75 (fun _ h9 => h9) rfl dX2_copyRow_4 ?_
  refine va_alen (pc := 7) (v := (nI n)) hx hb hK.1 hP 1 0 rfl rfl rfl dX2_copyRow_7 ?_
  refine lv_icmp_ge (pc := 8) (tgt := 38) hx hb dX2_copyRow_8 (by decide) (fun cc => ?_) (fun cc => ?_)
  · replace h := am_t cc h
    exact hK2 _ h ls (lv_sub hl [] rfl) H locs hP hD hS
  replace h := am_f cc h
  refine lv_iload_n (pc := 11) hx hb dX2_copyRow_11 rfl (lv_at hl 2 rfl) ?_
  refine lv_aload_n (pc := 12) hx hb dX2_copyRow_12 rfl (lv_at hl 1 rfl) ?_
  refine va_get (pc := 13) (D := D) (ci := 2) (v := .ref oa) (C := RX2) (T := TX2) (N := 1) hx hb hts hnX2 hown hK.1 hP 2 rfl rfl 0 (Nat.le_of_ble_eq_true rfl) hk75 (fun _ h9 => h9) rfl dX2_copyRow_13 ?_
  refine va_alen (pc := 16) (v := (nI on)) hx hb hK.1 hP 3 0 rfl rfl rfl dX2_copyRow_16 ?_
  refine lv_icmp_ge (pc := 17) (tgt := 38) hx hb dX2_copyRow_17 (by decide) (fun cc => ?_) (fun cc => ?_)
  · replace h := am_t cc h
    exact hK2 _ h ls (lv_sub hl [] rfl) H locs hP hD hS
  replace h := am_f cc h
  refine lv_aload_n (pc := 20) hx hb dX2_copyRow_20 rfl (lv_at hl 0 rfl) ?_
  refine va_get (pc := 21) (D := D) (ci := 2) (v := .ref a) (C := RX2) (T := TX2) (N := 1) hx hb hts hnX2 hown hK.1 hP 0 rfl rfl 0 (Nat.le_of_ble_eq_true rfl) hk75 (fun _ h9 => h9) rfl dX2_copyRow_21 ?_
  refine lv_iload_n (pc := 24) hx hb dX2_copyRow_24 rfl (lv_at hl 2 rfl) ?_
  refine lv_aload_n (pc := 25) hx hb dX2_copyRow_25 rfl (lv_at hl 1 rfl) ?_
  refine va_get (pc := 26) (D := D) (ci := 2) (v := .ref oa) (C := RX2) (T := TX2) (N := 1) hx hb hts hnX2 hown hK.1 hP 2 rfl rfl 0 (Nat.le_of_ble_eq_true rfl) hk75 (fun _ h9 => h9) rfl dX2_copyRow_26 ?_
  refine lv_iload_n (pc := 29) hx hb dX2_copyRow_29 rfl (lv_at hl 2 rfl) ?_
  obtain ⟨hi, h⟩ := am_in_s h
  refine va_iald (pc := 30) hx hb hK.1 hP 3 0 rfl rfl hi dX2_copyRow_30 ?_
  obtain ⟨hi, h⟩ := am_in_s h
  obtain ⟨f6, ef6⟩ : ∃ y : Nat → Int32, y = (upd f4 x3.toNatClampNeg (of x3.toNatClampNeg)) := ⟨_, rfl⟩
  replace h := am_let_s ef6 h
  refine va_iast (pc := 31) hx hb hK.1 hP hD hS 1 0 rfl rfl hi dX2_copyRow_31 (fun H locs hP hD hS => ?_)
  rw [← ef6] at hP hD
  replace hP : va_P D vwCl [(self, .inr (2, [.ref a])), (a, .inl (cI, n, .inl f6)), (oself, .inr (2, [.ref oa])), (oa, .inl (cI, on, .inl of))] H := hP
  replace hD : va_D A [(self, .inr (2, [.ref a])), (a, .inl (cI, n, .inl f6)), (oself, .inr (2, [.ref oa])), (oa, .inl (cI, on, .inl of))] := hD
  obtain ⟨x7, ex7⟩ : ∃ y : Int32, y = (x3 + (1 : Int32)) := ⟨_, rfl⟩
  replace h := am_let_s ex7 h
  refine lv_iinc (pc := 32) (v := x7) (lv' := [(2, .int x7), (0, .ref self), (1, .ref oself)]) hx hb dX2_copyRow_32 hl (k := 2) rfl (by rw [ex7]; rfl) (by decide) rfl (fun ls hl => ?_)
  refine lv_goto (pc := 35) (tgt := 2) hx hb dX2_copyRow_35 (by decide) ?_
  exact ihrec5 _ _ h ls (lv_sub hl [1, 2, 0] rfl) H locs hP hD hS
theorem hdX2_put : yX2_put.cls ≠ "java/lang/invoke/MethodHandle" ∧ yX2_put.cls ≠ "java/lang/invoke/VarHandle" ∧ (parseMethodDescriptor yX2_put.desc).map (fun d => d.parameters.length) = some 2 := by decide +kernel
abbrev rmX2_put : Room := { frames := 0, cells := 0, slots := 0, locals := 0 }
set_option maxHeartbeats 20000000 in
set_option maxRecDepth 100000 in
theorem c_X2_put (l : Launch) (D : va_G) (cI cJ : ClassId) (self : Nat) (a : Nat) (n : Nat) (f : Nat → Int32) (p0 : Int32) (p1 : Int32) (zf : Nat → Int32) (hF : F_X2_put n f p0 p1 = some zf) (sz : Nat) : Met l yX2_put (wz yX2_put cX2_put 3 none) rmX2_put (kPw D cI cJ [(self, .inr (2, [.ref a])), (a, .inl (cI, n, .inl f))] sz [.ref self, .int p0, .int p1]) (kQv D [(self, .inr (2, [.ref a])), (a, .inl (cI, n, .inl zf))] (va_A [(self, .inr (2, [.ref a])), (a, .inl (cI, n, .inl f))] sz)) 0 0 (va_A [(self, .inr (2, [.ref a])), (a, .inl (cI, n, .inl f))] sz) := by
  refine kM_wv cX2_put 3 (by decide +kernel) rfl rfl (Nat.le_of_ble_eq_true rfl) ⟨rfl, rfl⟩ ?_
  intro p e s m args below meth c Q A ls hx hb hml hown hts hP hK hD hA hS hl hret
  have hk75 := hts _ (List.mem_cons_of_mem _ wl75)
  have hnX2 : ∀ w ∈ u_ws RX2 TX2 1, w ∈ wz yX2_put cX2_put 3 none := fun w h => List.mem_cons_of_mem _ (inlX2 w h)
  replace hl : lv_has ls 3 [(0, .ref self), (1, .int p0), (2, .int p1)] := hl
  have h := hF
  unfold F_X2_put at h
  refine lv_iload_n (pc := 0) hx hb dX2_put_0 rfl (lv_at hl 1 rfl) ?_
  refine lv_if_lt (pc := 1) (tgt := 20) hx hb dX2_put_1 (by decide) (fun cc => ?_) (fun cc => ?_)
  · replace h := am_t cc h
    obtain e1 := am_ret1 h
    exact hret _ _ _ _ dX2_put_20 (by rw [← e1]; exact hP) hS
  replace h := am_f cc h
  refine lv_iload_n (pc := 4) hx hb dX2_put_4 rfl (lv_at hl 1 rfl) ?_
  refine lv_aload_n (pc := 5) hx hb dX2_put_5 rfl (lv_at hl 0 rfl) ?_
  refine va_get (pc := 6) (D := D) (ci := 2) (v := .ref a) (C := RX2) (T := TX2) (N := 1) hx hb hts hnX2 hown hK.1 hP 0 rfl rfl 0 (Nat.le_of_ble_eq_true rfl) hk75 (fun _ h9 => h9) rfl dX2_put_6 ?_
  refine va_alen (pc := 9) (v := (nI n)) hx hb hK.1 hP 1 0 rfl rfl rfl dX2_put_9 ?_
  refine lv_icmp_ge (pc := 10) (tgt := 20) hx hb dX2_put_10 (by decide) (fun cc => ?_) (fun cc => ?_)
  · replace h := am_t cc h
    obtain e1 := am_ret1 h
    exact hret _ _ _ _ dX2_put_20 (by rw [← e1]; exact hP) hS
  replace h := am_f cc h
  refine lv_aload_n (pc := 13) hx hb dX2_put_13 rfl (lv_at hl 0 rfl) ?_
  refine va_get (pc := 14) (D := D) (ci := 2) (v := .ref a) (C := RX2) (T := TX2) (N := 1) hx hb hts hnX2 hown hK.1 hP 0 rfl rfl 0 (Nat.le_of_ble_eq_true rfl) hk75 (fun _ h9 => h9) rfl dX2_put_14 ?_
  refine lv_iload_n (pc := 17) hx hb dX2_put_17 rfl (lv_at hl 1 rfl) ?_
  refine lv_iload_n (pc := 18) hx hb dX2_put_18 rfl (lv_at hl 2 rfl) ?_
  obtain ⟨hi, h⟩ := am_in_s h
  obtain ⟨f1, ef1⟩ : ∃ y : Nat → Int32, y = (upd f p0.toNatClampNeg p1) := ⟨_, rfl⟩
  replace h := am_let_s ef1 h
  refine va_iast (pc := 19) hx hb hK.1 hP hD hS 1 0 rfl rfl hi dX2_put_19 (fun H locs hP hD hS => ?_)
  rw [← ef1] at hP hD
  replace hP : va_P D vwCl [(self, .inr (2, [.ref a])), (a, .inl (cI, n, .inl f1))] H := hP
  replace hD : va_D A [(self, .inr (2, [.ref a])), (a, .inl (cI, n, .inl f1))] := hD
  obtain e1 := am_ret1 h
  exact hret _ _ _ _ dX2_put_20 (by rw [← e1]; exact hP) hS
theorem hdX2_at : yX2_at.cls ≠ "java/lang/invoke/MethodHandle" ∧ yX2_at.cls ≠ "java/lang/invoke/VarHandle" ∧ (parseMethodDescriptor yX2_at.desc).map (fun d => d.parameters.length) = some 1 := by decide +kernel
abbrev rmX2_at : Room := { frames := 0, cells := 0, slots := 0, locals := 0 }
set_option maxHeartbeats 20000000 in
set_option maxRecDepth 100000 in
theorem c_X2_at (l : Launch) (D : va_G) (cI cJ : ClassId) (self : Nat) (a : Nat) (n : Nat) (f : Nat → Int32) (p0 : Int32) (r0 : Int32) (hF : F_X2_at n f p0 = some r0) : Met l yX2_at (wz yX2_at cX2_at 2 (some .int)) rmX2_at (kPc D cI cJ [(self, .inr (2, [.ref a])), (a, .inl (cI, n, .inl f))] [.ref self, .int p0]) (vp_Si (fun r => r = r0)) 0 0 (fun _ => False) := by
  refine kM_ri cX2_at 2 .int (by decide +kernel) rfl rfl (Nat.le_of_ble_eq_true rfl) ⟨rfl, rfl⟩ ?_
  intro p e s m args below meth c Q ls hx hb hml hown hts hP hK hl hret
  have hk75 := hts _ (List.mem_cons_of_mem _ wl75)
  have hnX2 : ∀ w ∈ u_ws RX2 TX2 1, w ∈ wz yX2_at cX2_at 2 (some .int) := fun w h => List.mem_cons_of_mem _ (inlX2 w h)
  replace hl : lv_has ls 2 [(0, .ref self), (1, .int p0)] := hl
  have h := hF
  unfold F_X2_at at h
  refine lv_iload_n (pc := 0) hx hb dX2_at_0 rfl (lv_at hl 1 rfl) ?_
  refine lv_if_lt (pc := 1) (tgt := 13) hx hb dX2_at_1 (by decide) (fun cc => ?_) (fun cc => ?_)
  · replace h := am_t cc h
    refine lv_iconst (v := 0) (pc := 13) hx hb dX2_at_13 (by decide) ?_
    obtain e1 := am_ret1 h
    exact hret _ _ _ dX2_at_14 rfl e1
  replace h := am_f cc h
  refine lv_iload_n (pc := 4) hx hb dX2_at_4 rfl (lv_at hl 1 rfl) ?_
  refine lv_aload_n (pc := 5) hx hb dX2_at_5 rfl (lv_at hl 0 rfl) ?_
  refine va_get (pc := 6) (D := D) (ci := 2) (v := .ref a) (C := RX2) (T := TX2) (N := 1) hx hb hts hnX2 hown hK.1 hP 0 rfl rfl 0 (Nat.le_of_ble_eq_true rfl) hk75 (fun _ h9 => h9) rfl dX2_at_6 ?_
  refine va_alen (pc := 9) (v := (nI n)) hx hb hK.1 hP 1 0 rfl rfl rfl dX2_at_9 ?_
  refine lv_icmp_lt (pc := 10) (tgt := 15) hx hb dX2_at_10 (by decide) (fun cc => ?_) (fun cc => ?_)
  · replace h := am_t cc h
    refine lv_aload_n (pc := 15) hx hb dX2_at_15 rfl (lv_at hl 0 rfl) ?_
    refine va_get (pc := 16) (D := D) (ci := 2) (v := .ref a) (C := RX2) (T := TX2) (N := 1) hx hb hts hnX2 hown hK.1 hP 0 rfl rfl 0 (Nat.le_of_ble_eq_true rfl) hk75 (fun _ h9 => h9) rfl dX2_at_16 ?_
    refine lv_iload_n (pc := 19) hx hb dX2_at_19 rfl (lv_at hl 1 rfl) ?_
    obtain ⟨hi, h⟩ := am_in_s h
    refine va_iald (pc := 20) hx hb hK.1 hP 1 0 rfl rfl hi dX2_at_20 ?_
    obtain e1 := am_ret1 h
    exact hret _ _ _ dX2_at_21 rfl e1
  replace h := am_f cc h
  refine lv_iconst (v := 0) (pc := 13) hx hb dX2_at_13 (by decide) ?_
  obtain e1 := am_ret1 h
  exact hret _ _ _ dX2_at_14 rfl e1
