-- contracts, printed by wip/p23/gen23.py
theorem hdX5_firstAbove : yX5_firstAbove.cls ≠ "java/lang/invoke/MethodHandle" ∧ yX5_firstAbove.cls ≠ "java/lang/invoke/VarHandle" ∧ (parseMethodDescriptor yX5_firstAbove.desc).map (fun d => d.parameters.length) = some 1 := by decide +kernel
abbrev rmX5_firstAbove : Room := { frames := 0, cells := 0, slots := 0, locals := 0 }
set_option maxHeartbeats 20000000 in
set_option maxRecDepth 100000 in
theorem c_X5_firstAbove (l : Launch) (D : va_G) (cI cJ : ClassId) (self : Nat) (a : Nat) (many : Int32) (f : Nat → Int32) (p0 : Int64) (r0 : Int32) (hF : F_X5_firstAbove many f p0 = some r0) : Met l yX5_firstAbove (wz yX5_firstAbove cX5_firstAbove 6 (some .int)) rmX5_firstAbove (kPc D cI cJ [(self, .inr (5, [.ref a, .int many])), (a, .inl (cI, 12, .inl f))] [.ref self, .long p0]) (vp_Si (fun r => r = r0)) 0 0 (fun _ => False) := by
  refine kM_ri cX5_firstAbove 6 .int (by decide +kernel) rfl rfl (Nat.le_of_ble_eq_true rfl) ⟨rfl, rfl⟩ ?_
  intro p e s m args below meth c Q ls hx hb hml hown hts hP hK hl hret
  have hk80 := hts _ (List.mem_cons_of_mem _ wl80)
  have hk81 := hts _ (List.mem_cons_of_mem _ wl81)
  have hnX5 : ∀ w ∈ u_ws RX5 TX5 2, w ∈ wz yX5_firstAbove cX5_firstAbove 6 (some .int) := fun w h => List.mem_cons_of_mem _ (inlX5 w h)
  replace hl : lv_has ls 6 [(0, .ref self), (1, .long p0)] := hl
  have h := hF
  unfold F_X5_firstAbove at h
  refine lv_lconst (v := 0) (pc := 0) hx hb dX5_firstAbove_0 rfl ?_
  refine lv_lstore_n (lv' := [(3, .long (0 : Int64)), (0, .ref self), (1, .long p0)]) (pc := 1) hx hb dX5_firstAbove_1 rfl hl (by decide) rfl (fun ls hl => ?_)
  refine lv_iconst (v := 0) (pc := 2) hx hb dX5_firstAbove_2 (by decide) ?_
  refine lv_istore (lv' := [(5, .int (0 : Int32)), (3, .long (0 : Int64)), (0, .ref self), (1, .long p0)]) (pc := 3) hx hb dX5_firstAbove_3 hl (by decide) rfl (fun ls hl => ?_)
  refine am_join0_s (∀ (ls : Array Slot), lv_has ls 6 [] → W p l e rmX5_firstAbove s m args below meth c s.heap [] 0 0 Q (F0 m 56 ls [])) h (fun h ls hl => ?_) (fun K1 hK1 h => ?_)
  · refine lv_iconst (v := 0) (pc := 56) hx hb dX5_firstAbove_56 (by decide) ?_
    obtain e1 := am_ret1 h
    exact hret _ _ _ dX5_firstAbove_57 rfl e1
  refine am_loop2_s (fun (x2 : Int64) (x3 : Int32) => ∀ (ls : Array Slot), lv_has ls 6 [(0, .ref self), (1, .long p0), (3, .long x2), (5, .int x3)] → W p l e rmX5_firstAbove s m args below meth c s.heap [] 0 0 Q (F0 m 5 ls [])) (fun rec4 ihrec4 x2 x3 h ls hl => ?_) _ _ _ h ls (lv_sub hl [2, 3, 1, 0] rfl)
  unfold F_X5_firstAbove_B5 at h
  refine lv_iload (pc := 5) hx hb dX5_firstAbove_5 (lv_at hl 3 rfl) ?_
  refine lv_aload_n (pc := 7) hx hb dX5_firstAbove_7 rfl (lv_at hl 0 rfl) ?_
  refine va_get (pc := 8) (D := D) (ci := 5) (v := .int many) (C := RX5) (T := TX5) (N := 2) hx hb hts hnX5 hown hK.1 hP 0 rfl rfl 1 (Nat.le_of_ble_eq_true rfl) hk81 (fun _ h9 => h9) rfl dX5_firstAbove_8 ?_
  refine lv_icmp_ge (pc := 11) (tgt := 56) hx hb dX5_firstAbove_11 (by decide) (fun cc => ?_) (fun cc => ?_)
  · replace h := am_t cc h
    exact hK1 h ls (lv_sub hl [] rfl)
  replace h := am_f cc h
  refine lv_iload (pc := 14) hx hb dX5_firstAbove_14 (lv_at hl 3 rfl) ?_
  refine lv_aload_n (pc := 16) hx hb dX5_firstAbove_16 rfl (lv_at hl 0 rfl) ?_
  refine va_get (pc := 17) (D := D) (ci := 5) (v := .ref a) (C := RX5) (T := TX5) (N := 2) hx hb hts hnX5 hown hK.1 hP 0 rfl rfl 0 (Nat.le_of_ble_eq_true rfl) hk80 (fun _ h9 => h9) rfl dX5_firstAbove_17 ?_
  refine va_alen (pc := 20) (v := (12 : Int32)) hx hb hK.1 hP 1 0 rfl rfl rfl dX5_firstAbove_20 ?_
  refine lv_icmp_ge (pc := 21) (tgt := 56) hx hb dX5_firstAbove_21 (by decide) (fun cc => ?_) (fun cc => ?_)
  · replace h := am_t cc h
    exact hK1 h ls (lv_sub hl [] rfl)
  replace h := am_f cc h
  refine lv_lload_n (pc := 24) hx hb dX5_firstAbove_24 rfl (lv_at hl 2 rfl) ?_
  refine lv_aload_n (pc := 25) hx hb dX5_firstAbove_25 rfl (lv_at hl 0 rfl) ?_
  refine va_get (pc := 26) (D := D) (ci := 5) (v := .ref a) (C := RX5) (T := TX5) (N := 2) hx hb hts hnX5 hown hK.1 hP 0 rfl rfl 0 (Nat.le_of_ble_eq_true rfl) hk80 (fun _ h9 => h9) rfl dX5_firstAbove_26 ?_
  refine lv_iload (pc := 29) hx hb dX5_firstAbove_29 (lv_at hl 3 rfl) ?_
  obtain ⟨hi, h⟩ := am_in_s h
  refine va_iald (pc := 31) hx hb hK.1 hP 1 0 rfl rfl hi dX5_firstAbove_31 ?_
  refine lv_i2l (pc := 32) hx hb dX5_firstAbove_32 rfl ?_
  refine lv_ladd (pc := 33) hx hb dX5_firstAbove_33 ?_
  refine lv_topl (fun x5 ex5 => ?_)
  replace h := am_let_s ex5 h
  refine lv_lstore_n (lv' := [(3, .long x5), (0, .ref self), (1, .long p0), (5, .int x3)]) (pc := 34) hx hb dX5_firstAbove_34 rfl hl (by decide) rfl (fun ls hl => ?_)
  refine lv_aload_n (pc := 35) hx hb dX5_firstAbove_35 rfl (lv_at hl 1 rfl) ?_
  refine va_get (pc := 36) (D := D) (ci := 5) (v := .int many) (C := RX5) (T := TX5) (N := 2) hx hb hts hnX5 hown hK.1 hP 0 rfl rfl 1 (Nat.le_of_ble_eq_true rfl) hk81 (fun _ h9 => h9) rfl dX5_firstAbove_36 ?_
  refine lv_i2l (pc := 39) hx hb dX5_firstAbove_39 rfl ?_
  refine lv_lload_n (pc := 40) hx hb dX5_firstAbove_40 rfl (lv_at hl 0 rfl) ?_
  refine lv_lmul (pc := 41) hx hb dX5_firstAbove_41 ?_
  refine lv_lload_n (pc := 42) hx hb dX5_firstAbove_42 rfl (lv_at hl 2 rfl) ?_
  refine W.lcmp (pc := 43) hx hb dX5_firstAbove_43 ?_
  refine lv_if_le (pc := 44) (tgt := 50) hx hb dX5_firstAbove_44 (by decide) (fun cc => ?_) (fun cc => ?_)
  · replace h := am_t cc h
    obtain ⟨x6, ex6⟩ : ∃ y : Int32, y = (x3 + (1 : Int32)) := ⟨_, rfl⟩
    replace h := am_let_s ex6 h
    refine lv_iinc (pc := 50) (v := x6) (lv' := [(5, .int x6), (3, .long x5), (0, .ref self), (1, .long p0)]) hx hb dX5_firstAbove_50 hl (k := 3) rfl (by rw [ex6]; rfl) (by decide) rfl (fun ls hl => ?_)
    refine lv_goto (pc := 53) (tgt := 5) hx hb dX5_firstAbove_53 (by decide) ?_
    exact ihrec4 _ _ h ls (lv_sub hl [2, 3, 1, 0] rfl)
  replace h := am_f cc h
  refine lv_iload (pc := 47) hx hb dX5_firstAbove_47 (lv_at hl 3 rfl) ?_
  obtain e1 := am_ret1 h
  exact hret _ _ _ dX5_firstAbove_49 rfl e1
theorem hdX5_sum : yX5_sum.cls ≠ "java/lang/invoke/MethodHandle" ∧ yX5_sum.cls ≠ "java/lang/invoke/VarHandle" ∧ (parseMethodDescriptor yX5_sum.desc).map (fun d => d.parameters.length) = some 0 := by decide +kernel
abbrev rmX5_sum : Room := { frames := 0, cells := 0, slots := 0, locals := 0 }
set_option maxHeartbeats 20000000 in
set_option maxRecDepth 100000 in
theorem c_X5_sum (l : Launch) (D : va_G) (cI cJ : ClassId) (self : Nat) (a : Nat) (many : Int32) (f : Nat → Int32)  (r0 : Int64) (hF : F_X5_sum many f = some r0) : Met l yX5_sum (wz yX5_sum cX5_sum 4 (some .long)) rmX5_sum (kPc D cI cJ [(self, .inr (5, [.ref a, .int many])), (a, .inl (cI, 12, .inl f))] [.ref self]) (vp_Sl (fun r => r = r0)) 0 0 (fun _ => False) := by
  refine kM_rl cX5_sum 4 (by decide +kernel) rfl rfl (Nat.le_of_ble_eq_true rfl) ⟨rfl, rfl⟩ ?_
  intro p e s m args below meth c Q ls hx hb hml hown hts hP hK hl hret
  have hk80 := hts _ (List.mem_cons_of_mem _ wl80)
  have hk81 := hts _ (List.mem_cons_of_mem _ wl81)
  have hnX5 : ∀ w ∈ u_ws RX5 TX5 2, w ∈ wz yX5_sum cX5_sum 4 (some .long) := fun w h => List.mem_cons_of_mem _ (inlX5 w h)
  replace hl : lv_has ls 4 [(0, .ref self)] := hl
  have h := hF
  unfold F_X5_sum at h
  refine lv_lconst (v := 0) (pc := 0) hx hb dX5_sum_0 rfl ?_
  refine lv_lstore_n (lv' := [(1, .long (0 : Int64)), (0, .ref self)]) (pc := 1) hx hb dX5_sum_1 rfl hl (by decide) rfl (fun ls hl => ?_)
  refine lv_iconst (v := 0) (pc := 2) hx hb dX5_sum_2 (by decide) ?_
  refine lv_istore_n (lv' := [(3, .int (0 : Int32)), (1, .long (0 : Int64)), (0, .ref self)]) (pc := 3) hx hb dX5_sum_3 rfl hl (by decide) rfl (fun ls hl => ?_)
  refine am_join1_s (fun (x1 : Int64) => ∀ (ls : Array Slot), lv_has ls 4 [(1, .long x1)] → W p l e rmX5_sum s m args below meth c s.heap [] 0 0 Q (F0 m 37 ls [])) h (fun x1 h ls hl => ?_) (fun K2 hK2 h => ?_)
  · refine lv_lload_n (pc := 37) hx hb dX5_sum_37 rfl (lv_at hl 0 rfl) ?_
    obtain e1 := am_ret1 h
    exact hret _ _ _ dX5_sum_38 e1
  refine am_loop2_s (fun (x3 : Int64) (x4 : Int32) => ∀ (ls : Array Slot), lv_has ls 4 [(0, .ref self), (1, .long x3), (3, .int x4)] → W p l e rmX5_sum s m args below meth c s.heap [] 0 0 Q (F0 m 4 ls [])) (fun rec5 ihrec5 x3 x4 h ls hl => ?_) _ _ _ h ls (lv_sub hl [2, 1, 0] rfl)
  unfold F_X5_sum_B4 at h
  refine lv_iload_n (pc := 4) hx hb dX5_sum_4 rfl (lv_at hl 2 rfl) ?_
  refine lv_aload_n (pc := 5) hx hb dX5_sum_5 rfl (lv_at hl 0 rfl) ?_
  refine va_get (pc := 6) (D := D) (ci := 5) (v := .int many) (C := RX5) (T := TX5) (N := 2) hx hb hts hnX5 hown hK.1 hP 0 rfl rfl 1 (Nat.le_of_ble_eq_true rfl) hk81 (fun _ h9 => h9) rfl dX5_sum_6 ?_
  refine lv_icmp_ge (pc := 9) (tgt := 37) hx hb dX5_sum_9 (by decide) (fun cc => ?_) (fun cc => ?_)
  · replace h := am_t cc h
    exact hK2 _ h ls (lv_sub hl [1] rfl)
  replace h := am_f cc h
  refine lv_iload_n (pc := 12) hx hb dX5_sum_12 rfl (lv_at hl 2 rfl) ?_
  refine lv_aload_n (pc := 13) hx hb dX5_sum_13 rfl (lv_at hl 0 rfl) ?_
  refine va_get (pc := 14) (D := D) (ci := 5) (v := .ref a) (C := RX5) (T := TX5) (N := 2) hx hb hts hnX5 hown hK.1 hP 0 rfl rfl 0 (Nat.le_of_ble_eq_true rfl) hk80 (fun _ h9 => h9) rfl dX5_sum_14 ?_
  refine va_alen (pc := 17) (v := (12 : Int32)) hx hb hK.1 hP 1 0 rfl rfl rfl dX5_sum_17 ?_
  refine lv_icmp_ge (pc := 18) (tgt := 37) hx hb dX5_sum_18 (by decide) (fun cc => ?_) (fun cc => ?_)
  · replace h := am_t cc h
    exact hK2 _ h ls (lv_sub hl [1] rfl)
  replace h := am_f cc h
  refine lv_lload_n (pc := 21) hx hb dX5_sum_21 rfl (lv_at hl 1 rfl) ?_
  refine lv_aload_n (pc := 22) hx hb dX5_sum_22 rfl (lv_at hl 0 rfl) ?_
  refine va_get (pc := 23) (D := D) (ci := 5) (v := .ref a) (C := RX5) (T := TX5) (N := 2) hx hb hts hnX5 hown hK.1 hP 0 rfl rfl 0 (Nat.le_of_ble_eq_true rfl) hk80 (fun _ h9 => h9) rfl dX5_sum_23 ?_
  refine lv_iload_n (pc := 26) hx hb dX5_sum_26 rfl (lv_at hl 2 rfl) ?_
  obtain ⟨hi, h⟩ := am_in_s h
  refine va_iald (pc := 27) hx hb hK.1 hP 1 0 rfl rfl hi dX5_sum_27 ?_
  refine lv_i2l (pc := 28) hx hb dX5_sum_28 rfl ?_
  refine lv_ladd (pc := 29) hx hb dX5_sum_29 ?_
  refine lv_topl (fun x6 ex6 => ?_)
  replace h := am_let_s ex6 h
  refine lv_lstore_n (lv' := [(1, .long x6), (0, .ref self), (3, .int x4)]) (pc := 30) hx hb dX5_sum_30 rfl hl (by decide) rfl (fun ls hl => ?_)
  obtain ⟨x7, ex7⟩ : ∃ y : Int32, y = (x4 + (1 : Int32)) := ⟨_, rfl⟩
  replace h := am_let_s ex7 h
  refine lv_iinc (pc := 31) (v := x7) (lv' := [(3, .int x7), (1, .long x6), (0, .ref self)]) hx hb dX5_sum_31 hl (k := 2) rfl (by rw [ex7]; rfl) (by decide) rfl (fun ls hl => ?_)
  refine lv_goto (pc := 34) (tgt := 4) hx hb dX5_sum_34 (by decide) ?_
  exact ihrec5 _ _ h ls (lv_sub hl [2, 1, 0] rfl)
theorem hdX5_weightOf : yX5_weightOf.cls ≠ "java/lang/invoke/MethodHandle" ∧ yX5_weightOf.cls ≠ "java/lang/invoke/VarHandle" ∧ (parseMethodDescriptor yX5_weightOf.desc).map (fun d => d.parameters.length) = some 1 := by decide +kernel
abbrev rmX5_weightOf : Room := { frames := 0, cells := 0, slots := 0, locals := 0 }
set_option maxHeartbeats 20000000 in
set_option maxRecDepth 100000 in
theorem c_X5_weightOf (l : Launch) (D : va_G) (cI cJ : ClassId) (self : Nat) (a : Nat) (many : Int32) (f : Nat → Int32) (p0 : Int32) (r0 : Int32) (hF : F_X5_weightOf f p0 = some r0) : Met l yX5_weightOf (wz yX5_weightOf cX5_weightOf 2 (some .int)) rmX5_weightOf (kPc D cI cJ [(self, .inr (5, [.ref a, .int many])), (a, .inl (cI, 12, .inl f))] [.ref self, .int p0]) (vp_Si (fun r => r = r0)) 0 0 (fun _ => False) := by
  refine kM_ri cX5_weightOf 2 .int (by decide +kernel) rfl rfl (Nat.le_of_ble_eq_true rfl) ⟨rfl, rfl⟩ ?_
  intro p e s m args below meth c Q ls hx hb hml hown hts hP hK hl hret
  have hk80 := hts _ (List.mem_cons_of_mem _ wl80)
  have hnX5 : ∀ w ∈ u_ws RX5 TX5 2, w ∈ wz yX5_weightOf cX5_weightOf 2 (some .int) := fun w h => List.mem_cons_of_mem _ (inlX5 w h)
  replace hl : lv_has ls 2 [(0, .ref self), (1, .int p0)] := hl
  have h := hF
  unfold F_X5_weightOf at h
  refine lv_iload_n (pc := 0) hx hb dX5_weightOf_0 rfl (lv_at hl 1 rfl) ?_
  refine lv_if_lt (pc := 1) (tgt := 13) hx hb dX5_weightOf_1 (by decide) (fun cc => ?_) (fun cc => ?_)
  · replace h := am_t cc h
    refine lv_iconst (v := 0) (pc := 13) hx hb dX5_weightOf_13 (by decide) ?_
    obtain e1 := am_ret1 h
    exact hret _ _ _ dX5_weightOf_14 rfl e1
  replace h := am_f cc h
  refine lv_iload_n (pc := 4) hx hb dX5_weightOf_4 rfl (lv_at hl 1 rfl) ?_
  refine lv_aload_n (pc := 5) hx hb dX5_weightOf_5 rfl (lv_at hl 0 rfl) ?_
  refine va_get (pc := 6) (D := D) (ci := 5) (v := .ref a) (C := RX5) (T := TX5) (N := 2) hx hb hts hnX5 hown hK.1 hP 0 rfl rfl 0 (Nat.le_of_ble_eq_true rfl) hk80 (fun _ h9 => h9) rfl dX5_weightOf_6 ?_
  refine va_alen (pc := 9) (v := (12 : Int32)) hx hb hK.1 hP 1 0 rfl rfl rfl dX5_weightOf_9 ?_
  refine lv_icmp_lt (pc := 10) (tgt := 15) hx hb dX5_weightOf_10 (by decide) (fun cc => ?_) (fun cc => ?_)
  · replace h := am_t cc h
    refine lv_aload_n (pc := 15) hx hb dX5_weightOf_15 rfl (lv_at hl 0 rfl) ?_
    refine va_get (pc := 16) (D := D) (ci := 5) (v := .ref a) (C := RX5) (T := TX5) (N := 2) hx hb hts hnX5 hown hK.1 hP 0 rfl rfl 0 (Nat.le_of_ble_eq_true rfl) hk80 (fun _ h9 => h9) rfl dX5_weightOf_16 ?_
    refine lv_iload_n (pc := 19) hx hb dX5_weightOf_19 rfl (lv_at hl 1 rfl) ?_
    obtain ⟨hi, h⟩ := am_in_s h
    refine va_iald (pc := 20) hx hb hK.1 hP 1 0 rfl rfl hi dX5_weightOf_20 ?_
    obtain e1 := am_ret1 h
    exact hret _ _ _ dX5_weightOf_21 rfl e1
  replace h := am_f cc h
  refine lv_iconst (v := 0) (pc := 13) hx hb dX5_weightOf_13 (by decide) ?_
  obtain e1 := am_ret1 h
  exact hret _ _ _ dX5_weightOf_14 rfl e1
theorem hdX5_copyWeights : yX5_copyWeights.cls ≠ "java/lang/invoke/MethodHandle" ∧ yX5_copyWeights.cls ≠ "java/lang/invoke/VarHandle" ∧ (parseMethodDescriptor yX5_copyWeights.desc).map (fun d => d.parameters.length) = some 1 := by decide +kernel
abbrev rmX5_copyWeights : Room := { frames := 0, cells := 0, slots := 0, locals := 0 }
set_option maxHeartbeats 20000000 in
set_option maxRecDepth 100000 in
theorem c_X5_copyWeights (l : Launch) (D : va_G) (cI cJ : ClassId) (self : Nat) (a : Nat) (wself : Nat) (wa : Nat) (many : Int32) (f : Nat → Int32) (wmany : Int32) (wf : Nat → Int32)  (zmany : Int32) (zf : Nat → Int32) (hF : F_X5_copyWeights many f wmany wf = some (zmany, zf)) (sz : Nat) : Met l yX5_copyWeights (wz yX5_copyWeights cX5_copyWeights 3 none) rmX5_copyWeights (kPw D cI cJ [(self, .inr (5, [.ref a, .int many])), (a, .inl (cI, 12, .inl f)), (wself, .inr (5, [.ref wa, .int wmany])), (wa, .inl (cI, 12, .inl wf))] sz [.ref self, .ref wself]) (kQv D [(self, .inr (5, [.ref a, .int zmany])), (a, .inl (cI, 12, .inl zf)), (wself, .inr (5, [.ref wa, .int wmany])), (wa, .inl (cI, 12, .inl wf))] (va_A [(self, .inr (5, [.ref a, .int many])), (a, .inl (cI, 12, .inl f)), (wself, .inr (5, [.ref wa, .int wmany])), (wa, .inl (cI, 12, .inl wf))] sz)) 0 0 (va_A [(self, .inr (5, [.ref a, .int many])), (a, .inl (cI, 12, .inl f)), (wself, .inr (5, [.ref wa, .int wmany])), (wa, .inl (cI, 12, .inl wf))] sz) := by
  refine kM_wv cX5_copyWeights 3 (by decide +kernel) rfl rfl (Nat.le_of_ble_eq_true rfl) ⟨rfl, rfl⟩ ?_
  intro p e s m args below meth c Q A ls hx hb hml hown hts hP hK hD hA hS hl hret
  have hk80 := hts _ (List.mem_cons_of_mem _ wl80)
  have hk81 := hts _ (List.mem_cons_of_mem _ wl81)
  have hnX5 : ∀ w ∈ u_ws RX5 TX5 2, w ∈ wz yX5_copyWeights cX5_copyWeights 3 none := fun w h => List.mem_cons_of_mem _ (inlX5 w h)
  replace hl : lv_has ls 3 [(0, .ref self), (1, .ref wself)] := hl
  have h := hF
  unfold F_X5_copyWeights at h
  refine lv_aload_n (pc := 0) hx hb dX5_copyWeights_0 rfl (lv_at hl 0 rfl) ?_
  refine lv_aload_n (pc := 1) hx hb dX5_copyWeights_1 rfl (lv_at hl 1 rfl) ?_
  refine va_get (pc := 2) (D := D) (ci := 5) (v := .int wmany) (C := RX5) (T := TX5) (N := 2) hx hb hts hnX5 hown hK.1 hP 2 rfl rfl 1 (Nat.le_of_ble_eq_true rfl) hk81 (fun _ h9 => h9) rfl dX5_copyWeights_2 ?_
  refine va_put (pc := 5) (D := D) (ci := 5) (v := .int wmany) (ty := .int) (C := RX5) (T := TX5) (N := 2) hx hb hts hnX5 tyX5 tyX5_ok nmX5 hown hK.1 hP hD hS 0 rfl rfl 1 (Nat.le_of_ble_eq_true rfl) hk81 (fun _ h9 => h9) rfl (by decide +kernel) rfl rfl (Nat.le_of_ble_eq_true rfl) dX5_copyWeights_5 (fun H locs hP hD hS => ?_)
  replace hP : va_P D vwCl [(self, .inr (5, [.ref a, .int wmany])), (a, .inl (cI, 12, .inl f)), (wself, .inr (5, [.ref wa, .int wmany])), (wa, .inl (cI, 12, .inl wf))] H := hP
  replace hD : va_D A [(self, .inr (5, [.ref a, .int wmany])), (a, .inl (cI, 12, .inl f)), (wself, .inr (5, [.ref wa, .int wmany])), (wa, .inl (cI, 12, .inl wf))] := hD
  refine lv_iconst (v := 0) (pc := 8) hx hb dX5_copyWeights_8 (by decide) ?_
  refine lv_istore_n (lv' := [(2, .int (0 : Int32)), (0, .ref self), (1, .ref wself)]) (pc := 9) hx hb dX5_copyWeights_9 rfl hl (by decide) rfl (fun ls hl => ?_)
  refine am_join1_s (fun (f1 : Nat → Int32) => ∀ (ls : Array Slot), lv_has ls 3 [] → ∀ (H : Heap) (locs : List Loc), va_P D vwCl [(self, .inr (5, [.ref a, .int wmany])), (a, .inl (cI, 12, .inl f1)), (wself, .inr (5, [.ref wa, .int wmany])), (wa, .inl (cI, 12, .inl wf))] H → va_D A [(self, .inr (5, [.ref a, .int wmany])), (a, .inl (cI, 12, .inl f1)), (wself, .inr (5, [.ref wa, .int wmany])), (wa, .inl (cI, 12, .inl wf))] → va_S A s.heap H locs → W p l e rmX5_copyWeights s m args below meth c H locs 0 0 Q (F0 m 46 ls [])) h (fun f1 h ls hl H locs hP hD hS => ?_) (fun K2 hK2 h => ?_)
  · obtain ⟨e1, e2⟩ := am_ret2 h
    exact hret _ _ _ _ dX5_copyWeights_46 (by rw [← e1, ← e2]; exact hP) hS
  refine am_loop2_s (fun (x3 : Int32) (f4 : Nat → Int32) => ∀ (ls : Array Slot), lv_has ls 3 [(0, .ref self), (1, .ref wself), (2, .int x3)] → ∀ (H : Heap) (locs : List Loc), va_P D vwCl [(self, .inr (5, [.ref a, .int wmany])), (a, .inl (cI, 12, .inl f4)), (wself, .inr (5, [.ref wa, .int wmany])), (wa, .inl (cI, 12, .inl wf))] H → va_D A [(self, .inr (5, [.ref a, .int wmany])), (a, .inl (cI, 12, .inl f4)), (wself, .inr (5, [.ref wa, .int wmany])), (wa, .inl (cI, 12, .inl wf))] → va_S A s.heap H locs → W p l e rmX5_copyWeights s m args below meth c H locs 0 0 Q (F0 m 10 ls [])) (fun rec5 ihrec5 x3 f4 h ls hl H locs hP hD hS => ?_) _ _ _ h ls (lv_sub hl [1, 2, 0] rfl) H locs hP hD hS
  unfold F_X5_copyWeights_B10 at h
  refine lv_iload_n (pc := 10) hx hb dX5_copyWeights_10 rfl (lv_at hl 2 rfl) ?_
  refine lv_aload_n (pc := 11) hx hb dX5_copyWeights_11 rfl (lv_at hl 0 rfl) ?_
  refine va_get (pc := 12) (D := D) (ci := 5) (v := .ref a) (C := RX5) (T := TX5) (N := 2) hx hb hts hnX5 hown hK.1 hP 0 rfl rfl 0 (Nat.le_of_ble_eq_true rfl) hk80 (fun _ h9 => h9) rfl dX5_copyWeights_12 ?_
  refine va_alen (pc := 15) (v := (12 : Int32)) hx hb hK.1 hP 1 0 rfl rfl rfl dX5_copyWeights_15 ?_
  refine lv_icmp_ge (pc := 16) (tgt := 46) hx hb dX5_copyWeights_16 (by decide) (fun cc => ?_) (fun cc => ?_)
  · replace h := am_t cc h
    exact hK2 _ h ls (lv_sub hl [] rfl) H locs hP hD hS
  replace h := am_f cc h
  refine lv_iload_n (pc := 19) hx hb dX5_copyWeights_19 rfl (lv_at hl 2 rfl) ?_
  refine lv_aload_n (pc := 20) hx hb dX5_copyWeights_20 rfl (lv_at hl 1 rfl) ?_
  refine va_get (pc := 21) (D := D) (ci := 5) (v := .ref wa) (C := RX5) (T := TX5) (N := 2) hx hb hts hnX5 hown hK.1 hP 2 rfl rfl 0 (Nat.le_of_ble_eq_true rfl) hk80 (fun _ h9 => h9) rfl dX5_copyWeights_21 ?_
  refine va_alen (pc := 24) (v := (12 : Int32)) hx hb hK.1 hP 3 0 rfl rfl rfl dX5_copyWeights_24 ?_
  refine lv_icmp_ge (pc := 25) (tgt := 46) hx hb dX5_copyWeights_25 (by decide) (fun cc => ?_) (fun cc => ?_)
  · replace h := am_t cc h
    exact hK2 _ h ls (lv_sub hl [] rfl) H locs hP hD hS
  replace h := am_f cc h
  refine lv_aload_n (pc := 28) hx hb dX5_copyWeights_28 rfl (lv_at hl 0 rfl) ?_
  refine va_get (pc := 29) (D := D) (ci := 5) (v := .ref a) (C := RX5) (T := TX5) (N := 2) hx hb hts hnX5 hown hK.1 hP 0 rfl rfl 0 (Nat.le_of_ble_eq_true rfl) hk80 (fun _ h9 => h9) rfl dX5_copyWeights_29 ?_
  refine lv_iload_n (pc := 32) hx hb dX5_copyWeights_32 rfl (lv_at hl 2 rfl) ?_
  refine lv_aload_n (pc := 33) hx hb dX5_copyWeights_33 rfl (lv_at hl 1 rfl) ?_
  refine va_get (pc := 34) (D := D) (ci := 5) (v := .ref wa) (C := RX5) (T := TX5) (N := 2) hx hb hts hnX5 hown hK.1 hP 2 rfl rfl 0 (Nat.le_of_ble_eq_true rfl) hk80 (fun _ h9 => h9) rfl dX5_copyWeights_34 ?_
  refine lv_iload_n (pc := 37) hx hb dX5_copyWeights_37 rfl (lv_at hl 2 rfl) ?_
  obtain ⟨hi, h⟩ := am_in_s h
  refine va_iald (pc := 38) hx hb hK.1 hP 3 0 rfl rfl hi dX5_copyWeights_38 ?_
  obtain ⟨hi, h⟩ := am_in_s h
  obtain ⟨f6, ef6⟩ : ∃ y : Nat → Int32, y = (upd f4 x3.toNatClampNeg (wf x3.toNatClampNeg)) := ⟨_, rfl⟩
  replace h := am_let_s ef6 h
  refine va_iast (pc := 39) hx hb hK.1 hP hD hS 1 0 rfl rfl hi dX5_copyWeights_39 (fun H locs hP hD hS => ?_)
  rw [← ef6] at hP hD
  replace hP : va_P D vwCl [(self, .inr (5, [.ref a, .int wmany])), (a, .inl (cI, 12, .inl f6)), (wself, .inr (5, [.ref wa, .int wmany])), (wa, .inl (cI, 12, .inl wf))] H := hP
  replace hD : va_D A [(self, .inr (5, [.ref a, .int wmany])), (a, .inl (cI, 12, .inl f6)), (wself, .inr (5, [.ref wa, .int wmany])), (wa, .inl (cI, 12, .inl wf))] := hD
  obtain ⟨x7, ex7⟩ : ∃ y : Int32, y = (x3 + (1 : Int32)) := ⟨_, rfl⟩
  replace h := am_let_s ex7 h
  refine lv_iinc (pc := 40) (v := x7) (lv' := [(2, .int x7), (0, .ref self), (1, .ref wself)]) hx hb dX5_copyWeights_40 hl (k := 2) rfl (by rw [ex7]; rfl) (by decide) rfl (fun ls hl => ?_)
  refine lv_goto (pc := 43) (tgt := 10) hx hb dX5_copyWeights_43 (by decide) ?_
  exact ihrec5 _ _ h ls (lv_sub hl [1, 2, 0] rfl) H locs hP hD hS
theorem hdX5_makeEqual : yX5_makeEqual.cls ≠ "java/lang/invoke/MethodHandle" ∧ yX5_makeEqual.cls ≠ "java/lang/invoke/VarHandle" ∧ (parseMethodDescriptor yX5_makeEqual.desc).map (fun d => d.parameters.length) = some 1 := by decide +kernel
abbrev rmX5_makeEqual : Room := { frames := 1, cells := 0, slots := 0, locals := 15 }
set_option maxHeartbeats 20000000 in
set_option maxRecDepth 100000 in
theorem c_X5_makeEqual (l : Launch) (D : va_G) (cI cJ : ClassId) (self : Nat) (a : Nat) (many : Int32) (f : Nat → Int32) (p0 : Int32) (zmany : Int32) (zf : Nat → Int32) (hF : F_X5_makeEqual many f p0 = some (zmany, zf)) (sz : Nat) : Met l yX5_makeEqual (wz yX5_makeEqual cX5_makeEqual 3 none) rmX5_makeEqual (kPw D cI cJ [(self, .inr (5, [.ref a, .int many])), (a, .inl (cI, 12, .inl f))] sz [.ref self, .int p0]) (kQv D [(self, .inr (5, [.ref a, .int zmany])), (a, .inl (cI, 12, .inl zf))] (va_A [(self, .inr (5, [.ref a, .int many])), (a, .inl (cI, 12, .inl f))] sz)) 0 0 (va_A [(self, .inr (5, [.ref a, .int many])), (a, .inl (cI, 12, .inl f))] sz) := by
  refine kM_wv cX5_makeEqual 3 (by decide +kernel) rfl rfl (Nat.le_of_ble_eq_true rfl) ⟨rfl, rfl⟩ ?_
  intro p e s m args below meth c Q A ls hx hb hml hown hts hP hK hD hA hS hl hret
  have hk102 := hts _ (List.mem_cons_of_mem _ wl102)
  have hk103 := hts _ (List.mem_cons_of_mem _ wl103)
  have hk109 := hts _ (List.mem_cons_of_mem _ wl109)
  have hk110 := hts _ (List.mem_cons_of_mem _ wl110)
  have hk72 := hts _ (List.mem_cons_of_mem _ wl72)
  have hk73 := hts _ (List.mem_cons_of_mem _ wl73)
  have hk74 := hts _ (List.mem_cons_of_mem _ wl74)
  have hk80 := hts _ (List.mem_cons_of_mem _ wl80)
  have hk81 := hts _ (List.mem_cons_of_mem _ wl81)
  have hnX5 : ∀ w ∈ u_ws RX5 TX5 2, w ∈ wz yX5_makeEqual cX5_makeEqual 3 none := fun w h => List.mem_cons_of_mem _ (inlX5 w h)
  replace hl : lv_has ls 3 [(0, .ref self), (1, .int p0)] := hl
  have h := hF
  unfold F_X5_makeEqual at h
  refine lv_aload_n (pc := 0) hx hb dX5_makeEqual_0 rfl (lv_at hl 0 rfl) ?_
  refine lv_iconst (v := 0) (pc := 1) hx hb dX5_makeEqual_1 (by decide) ?_
  refine lv_iload_n (pc := 2) hx hb dX5_makeEqual_2 rfl (lv_at hl 1 rfl) ?_
  refine lv_aload_n (pc := 3) hx hb dX5_makeEqual_3 rfl (lv_at hl 0 rfl) ?_
  refine va_get (pc := 4) (D := D) (ci := 5) (v := .ref a) (C := RX5) (T := TX5) (N := 2) hx hb hts hnX5 hown hK.1 hP 0 rfl rfl 0 (Nat.le_of_ble_eq_true rfl) hk80 (fun _ h9 => h9) rfl dX5_makeEqual_4 ?_
  refine va_alen (pc := 7) (v := (12 : Int32)) hx hb hK.1 hP 1 0 rfl rfl rfl dX5_makeEqual_7 ?_
  refine va_mmin hx hb (hml.trans hl.1.symm) (pc := 8) hown hk109 hk102 hk73 hk103 (Nat.le_of_ble_eq_true rfl) (Nat.le_of_ble_eq_true rfl) (Nat.zero_le _) (Nat.zero_le _) dX5_makeEqual_8 ?_
  refine lv_topi (fun x1 ex1 => ?_)
  replace h := am_let_s ex1 h
  refine va_mmax hx hb (hml.trans hl.1.symm) (pc := 11) hown hk110 hk72 hk73 hk74 (Nat.le_of_ble_eq_true rfl) (Nat.le_of_ble_eq_true rfl) (Nat.zero_le _) (Nat.zero_le _) dX5_makeEqual_11 ?_
  refine lv_topi (fun x2 ex2 => ?_)
  replace h := am_let_s ex2 h
  refine va_put (pc := 14) (D := D) (ci := 5) (v := .int x2) (ty := .int) (C := RX5) (T := TX5) (N := 2) hx hb hts hnX5 tyX5 tyX5_ok nmX5 hown hK.1 hP hD hS 0 rfl rfl 1 (Nat.le_of_ble_eq_true rfl) hk81 (fun _ h9 => h9) rfl (by decide +kernel) rfl rfl (Nat.le_of_ble_eq_true rfl) dX5_makeEqual_14 (fun H locs hP hD hS => ?_)
  replace hP : va_P D vwCl [(self, .inr (5, [.ref a, .int x2])), (a, .inl (cI, 12, .inl f))] H := hP
  replace hD : va_D A [(self, .inr (5, [.ref a, .int x2])), (a, .inl (cI, 12, .inl f))] := hD
  refine lv_iconst (v := 0) (pc := 17) hx hb dX5_makeEqual_17 (by decide) ?_
  refine lv_istore_n (lv' := [(2, .int (0 : Int32)), (0, .ref self), (1, .int p0)]) (pc := 18) hx hb dX5_makeEqual_18 rfl hl (by decide) rfl (fun ls hl => ?_)
  refine am_join1_s (fun (f3 : Nat → Int32) => ∀ (ls : Array Slot), lv_has ls 3 [] → ∀ (H : Heap) (locs : List Loc), va_P D vwCl [(self, .inr (5, [.ref a, .int x2])), (a, .inl (cI, 12, .inl f3))] H → va_D A [(self, .inr (5, [.ref a, .int x2])), (a, .inl (cI, 12, .inl f3))] → va_S A s.heap H locs → W p l e rmX5_makeEqual s m args below meth c H locs 0 0 Q (F0 m 49 ls [])) h (fun f3 h ls hl H locs hP hD hS => ?_) (fun K4 hK4 h => ?_)
  · obtain ⟨e1, e2⟩ := am_ret2 h
    exact hret _ _ _ _ dX5_makeEqual_49 (by rw [← e1, ← e2]; exact hP) hS
  refine am_loop2_s (fun (x5 : Int32) (f6 : Nat → Int32) => ∀ (ls : Array Slot), lv_has ls 3 [(0, .ref self), (2, .int x5)] → ∀ (H : Heap) (locs : List Loc), va_P D vwCl [(self, .inr (5, [.ref a, .int x2])), (a, .inl (cI, 12, .inl f6))] H → va_D A [(self, .inr (5, [.ref a, .int x2])), (a, .inl (cI, 12, .inl f6))] → va_S A s.heap H locs → W p l e rmX5_makeEqual s m args below meth c H locs 0 0 Q (F0 m 19 ls [])) (fun rec7 ihrec7 x5 f6 h ls hl H locs hP hD hS => ?_) _ _ _ h ls (lv_sub hl [1, 0] rfl) H locs hP hD hS
  unfold F_X5_makeEqual_B19 at h
  refine lv_iload_n (pc := 19) hx hb dX5_makeEqual_19 rfl (lv_at hl 1 rfl) ?_
  refine lv_aload_n (pc := 20) hx hb dX5_makeEqual_20 rfl (lv_at hl 0 rfl) ?_
  refine va_get (pc := 21) (D := D) (ci := 5) (v := .int x2) (C := RX5) (T := TX5) (N := 2) hx hb hts hnX5 hown hK.1 hP 0 rfl rfl 1 (Nat.le_of_ble_eq_true rfl) hk81 (fun _ h9 => h9) rfl dX5_makeEqual_21 ?_
  refine lv_icmp_ge (pc := 24) (tgt := 49) hx hb dX5_makeEqual_24 (by decide) (fun cc => ?_) (fun cc => ?_)
  · replace h := am_t cc h
    exact hK4 _ h ls (lv_sub hl [] rfl) H locs hP hD hS
  replace h := am_f cc h
  refine lv_iload_n (pc := 27) hx hb dX5_makeEqual_27 rfl (lv_at hl 1 rfl) ?_
  refine lv_aload_n (pc := 28) hx hb dX5_makeEqual_28 rfl (lv_at hl 0 rfl) ?_
  refine va_get (pc := 29) (D := D) (ci := 5) (v := .ref a) (C := RX5) (T := TX5) (N := 2) hx hb hts hnX5 hown hK.1 hP 0 rfl rfl 0 (Nat.le_of_ble_eq_true rfl) hk80 (fun _ h9 => h9) rfl dX5_makeEqual_29 ?_
  refine va_alen (pc := 32) (v := (12 : Int32)) hx hb hK.1 hP 1 0 rfl rfl rfl dX5_makeEqual_32 ?_
  refine lv_icmp_ge (pc := 33) (tgt := 49) hx hb dX5_makeEqual_33 (by decide) (fun cc => ?_) (fun cc => ?_)
  · replace h := am_t cc h
    exact hK4 _ h ls (lv_sub hl [] rfl) H locs hP hD hS
  replace h := am_f cc h
  refine lv_aload_n (pc := 36) hx hb dX5_makeEqual_36 rfl (lv_at hl 0 rfl) ?_
  refine va_get (pc := 37) (D := D) (ci := 5) (v := .ref a) (C := RX5) (T := TX5) (N := 2) hx hb hts hnX5 hown hK.1 hP 0 rfl rfl 0 (Nat.le_of_ble_eq_true rfl) hk80 (fun _ h9 => h9) rfl dX5_makeEqual_37 ?_
  refine lv_iload_n (pc := 40) hx hb dX5_makeEqual_40 rfl (lv_at hl 1 rfl) ?_
  refine lv_iconst (v := 1) (pc := 41) hx hb dX5_makeEqual_41 (by decide) ?_
  obtain ⟨hi, h⟩ := am_in_s h
  obtain ⟨f8, ef8⟩ : ∃ y : Nat → Int32, y = (upd f6 x5.toNatClampNeg (1 : Int32)) := ⟨_, rfl⟩
  replace h := am_let_s ef8 h
  refine va_iast (pc := 42) hx hb hK.1 hP hD hS 1 0 rfl rfl hi dX5_makeEqual_42 (fun H locs hP hD hS => ?_)
  rw [← ef8] at hP hD
  replace hP : va_P D vwCl [(self, .inr (5, [.ref a, .int x2])), (a, .inl (cI, 12, .inl f8))] H := hP
  replace hD : va_D A [(self, .inr (5, [.ref a, .int x2])), (a, .inl (cI, 12, .inl f8))] := hD
  obtain ⟨x9, ex9⟩ : ∃ y : Int32, y = (x5 + (1 : Int32)) := ⟨_, rfl⟩
  replace h := am_let_s ex9 h
  refine lv_iinc (pc := 43) (v := x9) (lv' := [(2, .int x9), (0, .ref self)]) hx hb dX5_makeEqual_43 hl (k := 1) rfl (by rw [ex9]; rfl) (by decide) rfl (fun ls hl => ?_)
  refine lv_goto (pc := 46) (tgt := 19) hx hb dX5_makeEqual_46 (by decide) ?_
  exact ihrec7 _ _ h ls (lv_sub hl [1, 0] rfl) H locs hP hD hS
theorem hdX5_putWeight : yX5_putWeight.cls ≠ "java/lang/invoke/MethodHandle" ∧ yX5_putWeight.cls ≠ "java/lang/invoke/VarHandle" ∧ (parseMethodDescriptor yX5_putWeight.desc).map (fun d => d.parameters.length) = some 2 := by decide +kernel
abbrev rmX5_putWeight : Room := { frames := 0, cells := 0, slots := 0, locals := 0 }
set_option maxHeartbeats 20000000 in
set_option maxRecDepth 100000 in
theorem c_X5_putWeight (l : Launch) (D : va_G) (cI cJ : ClassId) (self : Nat) (a : Nat) (many : Int32) (f : Nat → Int32) (p0 : Int32) (p1 : Int32) (zf : Nat → Int32) (hF : F_X5_putWeight f p0 p1 = some zf) (sz : Nat) : Met l yX5_putWeight (wz yX5_putWeight cX5_putWeight 3 none) rmX5_putWeight (kPw D cI cJ [(self, .inr (5, [.ref a, .int many])), (a, .inl (cI, 12, .inl f))] sz [.ref self, .int p0, .int p1]) (kQv D [(self, .inr (5, [.ref a, .int many])), (a, .inl (cI, 12, .inl zf))] (va_A [(self, .inr (5, [.ref a, .int many])), (a, .inl (cI, 12, .inl f))] sz)) 0 0 (va_A [(self, .inr (5, [.ref a, .int many])), (a, .inl (cI, 12, .inl f))] sz) := by
  refine kM_wv cX5_putWeight 3 (by decide +kernel) rfl rfl (Nat.le_of_ble_eq_true rfl) ⟨rfl, rfl⟩ ?_
  intro p e s m args below meth c Q A ls hx hb hml hown hts hP hK hD hA hS hl hret
  have hk80 := hts _ (List.mem_cons_of_mem _ wl80)
  have hnX5 : ∀ w ∈ u_ws RX5 TX5 2, w ∈ wz yX5_putWeight cX5_putWeight 3 none := fun w h => List.mem_cons_of_mem _ (inlX5 w h)
  replace hl : lv_has ls 3 [(0, .ref self), (1, .int p0), (2, .int p1)] := hl
  have h := hF
  unfold F_X5_putWeight at h
  refine lv_iload_n (pc := 0) hx hb dX5_putWeight_0 rfl (lv_at hl 1 rfl) ?_
  refine lv_if_lt (pc := 1) (tgt := 20) hx hb dX5_putWeight_1 (by decide) (fun cc => ?_) (fun cc => ?_)
  · replace h := am_t cc h
    obtain e1 := am_ret1 h
    exact hret _ _ _ _ dX5_putWeight_20 (by rw [← e1]; exact hP) hS
  replace h := am_f cc h
  refine lv_iload_n (pc := 4) hx hb dX5_putWeight_4 rfl (lv_at hl 1 rfl) ?_
  refine lv_aload_n (pc := 5) hx hb dX5_putWeight_5 rfl (lv_at hl 0 rfl) ?_
  refine va_get (pc := 6) (D := D) (ci := 5) (v := .ref a) (C := RX5) (T := TX5) (N := 2) hx hb hts hnX5 hown hK.1 hP 0 rfl rfl 0 (Nat.le_of_ble_eq_true rfl) hk80 (fun _ h9 => h9) rfl dX5_putWeight_6 ?_
  refine va_alen (pc := 9) (v := (12 : Int32)) hx hb hK.1 hP 1 0 rfl rfl rfl dX5_putWeight_9 ?_
  refine lv_icmp_ge (pc := 10) (tgt := 20) hx hb dX5_putWeight_10 (by decide) (fun cc => ?_) (fun cc => ?_)
  · replace h := am_t cc h
    obtain e1 := am_ret1 h
    exact hret _ _ _ _ dX5_putWeight_20 (by rw [← e1]; exact hP) hS
  replace h := am_f cc h
  refine lv_aload_n (pc := 13) hx hb dX5_putWeight_13 rfl (lv_at hl 0 rfl) ?_
  refine va_get (pc := 14) (D := D) (ci := 5) (v := .ref a) (C := RX5) (T := TX5) (N := 2) hx hb hts hnX5 hown hK.1 hP 0 rfl rfl 0 (Nat.le_of_ble_eq_true rfl) hk80 (fun _ h9 => h9) rfl dX5_putWeight_14 ?_
  refine lv_iload_n (pc := 17) hx hb dX5_putWeight_17 rfl (lv_at hl 1 rfl) ?_
  refine lv_iload_n (pc := 18) hx hb dX5_putWeight_18 rfl (lv_at hl 2 rfl) ?_
  obtain ⟨hi, h⟩ := am_in_s h
  obtain ⟨f1, ef1⟩ : ∃ y : Nat → Int32, y = (upd f p0.toNatClampNeg p1) := ⟨_, rfl⟩
  replace h := am_let_s ef1 h
  refine va_iast (pc := 19) hx hb hK.1 hP hD hS 1 0 rfl rfl hi dX5_putWeight_19 (fun H locs hP hD hS => ?_)
  rw [← ef1] at hP hD
  replace hP : va_P D vwCl [(self, .inr (5, [.ref a, .int many])), (a, .inl (cI, 12, .inl f1))] H := hP
  replace hD : va_D A [(self, .inr (5, [.ref a, .int many])), (a, .inl (cI, 12, .inl f1))] := hD
  obtain e1 := am_ret1 h
  exact hret _ _ _ _ dX5_putWeight_20 (by rw [← e1]; exact hP) hS
theorem hdX5_reduce : yX5_reduce.cls ≠ "java/lang/invoke/MethodHandle" ∧ yX5_reduce.cls ≠ "java/lang/invoke/VarHandle" ∧ (parseMethodDescriptor yX5_reduce.desc).map (fun d => d.parameters.length) = some 0 := by decide +kernel
abbrev rmX5_reduce : Room := { frames := 1, cells := 0, slots := 0, locals := 30 }
set_option maxHeartbeats 20000000 in
set_option maxRecDepth 100000 in
theorem c_X5_reduce (l : Launch) (D : va_G) (cI cJ : ClassId) (self : Nat) (a : Nat) (many : Int32) (f : Nat → Int32)  (r0 : Int32) (zf : Nat → Int32) (hF : F_X5_reduce many f = some (r0, zf)) (sz : Nat) : Met l yX5_reduce (wz yX5_reduce cX5_reduce 4 (some .boolean)) rmX5_reduce (kPw D cI cJ [(self, .inr (5, [.ref a, .int many])), (a, .inl (cI, 12, .inl f))] sz [.ref self]) (kQi D r0 [(self, .inr (5, [.ref a, .int many])), (a, .inl (cI, 12, .inl zf))] (va_A [(self, .inr (5, [.ref a, .int many])), (a, .inl (cI, 12, .inl f))] sz)) 0 0 (va_A [(self, .inr (5, [.ref a, .int many])), (a, .inl (cI, 12, .inl f))] sz) := by
  refine kM_wi cX5_reduce 4 .boolean (by decide +kernel) rfl rfl (Nat.le_of_ble_eq_true rfl) ⟨rfl, rfl⟩ ?_
  intro p e s m args below meth c Q A ls hx hb hml hown hts hP hK hD hA hS hl hret
  have hk191 := hts _ (List.mem_cons_of_mem _ wl191)
  have hk2 := hts _ (List.mem_cons_of_mem _ wl2)
  have hk80 := hts _ (List.mem_cons_of_mem _ wl80)
  have hk81 := hts _ (List.mem_cons_of_mem _ wl81)
  have hnX5 : ∀ w ∈ u_ws RX5 TX5 2, w ∈ wz yX5_reduce cX5_reduce 4 (some .boolean) := fun w h => List.mem_cons_of_mem _ (inlX5 w h)
  replace hl : lv_has ls 4 [(0, .ref self)] := hl
  have h := hF
  unfold F_X5_reduce at h
  refine lv_lconst (v := 0) (pc := 0) hx hb dX5_reduce_0 rfl ?_
  refine lv_lstore_n (lv' := [(1, .long (0 : Int64)), (0, .ref self)]) (pc := 1) hx hb dX5_reduce_1 rfl hl (by decide) rfl (fun ls hl => ?_)
  refine lv_iconst (v := 0) (pc := 2) hx hb dX5_reduce_2 (by decide) ?_
  refine lv_istore_n (lv' := [(3, .int (0 : Int32)), (1, .long (0 : Int64)), (0, .ref self)]) (pc := 3) hx hb dX5_reduce_3 rfl hl (by decide) rfl (fun ls hl => ?_)
  refine am_join1_s (fun (x1 : Int64) => ∀ (ls : Array Slot), lv_has ls 4 [(0, .ref self), (1, .long x1)] → W p l e rmX5_reduce s m args below meth c s.heap [] 0 0 Q (F0 m 39 ls [])) h (fun x1 h ls hl => ?_) (fun K2 hK2 h => ?_)
  · refine lv_lload_n (pc := 39) hx hb dX5_reduce_39 rfl (lv_at hl 1 rfl) ?_
    refine lv_lconst (v := 0) (pc := 40) hx hb dX5_reduce_40 rfl ?_
    refine W.lcmp (pc := 41) hx hb dX5_reduce_41 ?_
    refine lv_if_gt (pc := 42) (tgt := 47) hx hb dX5_reduce_42 (by decide) (fun cc => ?_) (fun cc => ?_)
    · replace h := am_t cc h
      refine lv_iconst (v := 0) (pc := 47) hx hb dX5_reduce_47 (by decide) ?_
      refine lv_istore_n (lv' := [(3, .int (0 : Int32)), (0, .ref self), (1, .long x1)]) (pc := 48) hx hb dX5_reduce_48 rfl hl (by decide) rfl (fun ls hl => ?_)
      refine am_join1_s (fun (f3 : Nat → Int32) => ∀ (ls : Array Slot), lv_has ls 4 [] → ∀ (H : Heap) (locs : List Loc), va_P D vwCl [(self, .inr (5, [.ref a, .int many])), (a, .inl (cI, 12, .inl f3))] H → va_D A [(self, .inr (5, [.ref a, .int many])), (a, .inl (cI, 12, .inl f3))] → va_S A s.heap H locs → W p l e rmX5_reduce s m args below meth c H locs 0 0 Q (F0 m 88 ls [])) h (fun f3 h ls hl H locs hP hD hS => ?_) (fun K4 hK4 h => ?_)
      · refine lv_iconst (v := 1) (pc := 88) hx hb dX5_reduce_88 (by decide) ?_
        obtain ⟨e1, e2⟩ := am_ret2 h
        exact hret _ _ _ _ _ dX5_reduce_89 rfl e1 (by rw [← e2]; exact hP) hS
      refine am_loop2_s (fun (x5 : Int32) (f6 : Nat → Int32) => ∀ (ls : Array Slot), lv_has ls 4 [(0, .ref self), (1, .long x1), (3, .int x5)] → ∀ (H : Heap) (locs : List Loc), va_P D vwCl [(self, .inr (5, [.ref a, .int many])), (a, .inl (cI, 12, .inl f6))] H → va_D A [(self, .inr (5, [.ref a, .int many])), (a, .inl (cI, 12, .inl f6))] → va_S A s.heap H locs → W p l e rmX5_reduce s m args below meth c H locs 0 0 Q (F0 m 49 ls [])) (fun rec7 ihrec7 x5 f6 h ls hl H locs hP hD hS => ?_) _ _ _ h ls (lv_sub hl [1, 2, 0] rfl) s.heap [] hP hD hS
      unfold F_X5_reduce_B49 at h
      refine lv_iload_n (pc := 49) hx hb dX5_reduce_49 rfl (lv_at hl 2 rfl) ?_
      refine lv_aload_n (pc := 50) hx hb dX5_reduce_50 rfl (lv_at hl 0 rfl) ?_
      refine va_get (pc := 51) (D := D) (ci := 5) (v := .int many) (C := RX5) (T := TX5) (N := 2) hx hb hts hnX5 hown hK.1 hP 0 rfl rfl 1 (Nat.le_of_ble_eq_true rfl) hk81 (fun _ h9 => h9) rfl dX5_reduce_51 ?_
      refine lv_icmp_ge (pc := 54) (tgt := 88) hx hb dX5_reduce_54 (by decide) (fun cc => ?_) (fun cc => ?_)
      · replace h := am_t cc h
        exact hK4 _ h ls (lv_sub hl [] rfl) H locs hP hD hS
      replace h := am_f cc h
      refine lv_iload_n (pc := 57) hx hb dX5_reduce_57 rfl (lv_at hl 2 rfl) ?_
      refine lv_aload_n (pc := 58) hx hb dX5_reduce_58 rfl (lv_at hl 0 rfl) ?_
      refine va_get (pc := 59) (D := D) (ci := 5) (v := .ref a) (C := RX5) (T := TX5) (N := 2) hx hb hts hnX5 hown hK.1 hP 0 rfl rfl 0 (Nat.le_of_ble_eq_true rfl) hk80 (fun _ h9 => h9) rfl dX5_reduce_59 ?_
      refine va_alen (pc := 62) (v := (12 : Int32)) hx hb hK.1 hP 1 0 rfl rfl rfl dX5_reduce_62 ?_
      refine lv_icmp_ge (pc := 63) (tgt := 88) hx hb dX5_reduce_63 (by decide) (fun cc => ?_) (fun cc => ?_)
      · replace h := am_t cc h
        exact hK4 _ h ls (lv_sub hl [] rfl) H locs hP hD hS
      replace h := am_f cc h
      refine lv_aload_n (pc := 66) hx hb dX5_reduce_66 rfl (lv_at hl 0 rfl) ?_
      refine va_get (pc := 67) (D := D) (ci := 5) (v := .ref a) (C := RX5) (T := TX5) (N := 2) hx hb hts hnX5 hown hK.1 hP 0 rfl rfl 0 (Nat.le_of_ble_eq_true rfl) hk80 (fun _ h9 => h9) rfl dX5_reduce_67 ?_
      refine lv_iload_n (pc := 70) hx hb dX5_reduce_70 rfl (lv_at hl 2 rfl) ?_
      refine lv_aload_n (pc := 71) hx hb dX5_reduce_71 rfl (lv_at hl 0 rfl) ?_
      refine va_get (pc := 72) (D := D) (ci := 5) (v := .ref a) (C := RX5) (T := TX5) (N := 2) hx hb hts hnX5 hown hK.1 hP 0 rfl rfl 0 (Nat.le_of_ble_eq_true rfl) hk80 (fun _ h9 => h9) rfl dX5_reduce_72 ?_
      refine lv_iload_n (pc := 75) hx hb dX5_reduce_75 rfl (lv_at hl 2 rfl) ?_
      obtain ⟨hi, h⟩ := am_in_s h
      refine va_iald (pc := 76) hx hb hK.1 hP 1 0 rfl rfl hi dX5_reduce_76 ?_
      refine lv_i2l (pc := 77) hx hb dX5_reduce_77 rfl ?_
      refine lv_lload_n (pc := 78) hx hb dX5_reduce_78 rfl (lv_at hl 1 rfl) ?_
      obtain ⟨hz, h⟩ := am_nzl_s h
      refine lv_ldiv (pc := 79) hx hb dX5_reduce_79 hz ?_
      refine lv_l2i (pc := 80) hx hb dX5_reduce_80 rfl ?_
      obtain ⟨hi, h⟩ := am_in_s h
      obtain ⟨f8, ef8⟩ : ∃ y : Nat → Int32, y = (upd f6 x5.toNatClampNeg ((f6 x5.toNatClampNeg).toInt64 / x1).toInt32) := ⟨_, rfl⟩
      replace h := am_let_s ef8 h
      refine va_iast (pc := 81) hx hb hK.1 hP hD hS 1 0 rfl rfl hi dX5_reduce_81 (fun H locs hP hD hS => ?_)
      rw [← ef8] at hP hD
      replace hP : va_P D vwCl [(self, .inr (5, [.ref a, .int many])), (a, .inl (cI, 12, .inl f8))] H := hP
      replace hD : va_D A [(self, .inr (5, [.ref a, .int many])), (a, .inl (cI, 12, .inl f8))] := hD
      obtain ⟨x9, ex9⟩ : ∃ y : Int32, y = (x5 + (1 : Int32)) := ⟨_, rfl⟩
      replace h := am_let_s ex9 h
      refine lv_iinc (pc := 82) (v := x9) (lv' := [(3, .int x9), (0, .ref self), (1, .long x1)]) hx hb dX5_reduce_82 hl (k := 2) rfl (by rw [ex9]; rfl) (by decide) rfl (fun ls hl => ?_)
      refine lv_goto (pc := 85) (tgt := 49) hx hb dX5_reduce_85 (by decide) ?_
      exact ihrec7 _ _ h ls (lv_sub hl [1, 2, 0] rfl) H locs hP hD hS
    replace h := am_f cc h
    refine lv_iconst (v := 0) (pc := 45) hx hb dX5_reduce_45 (by decide) ?_
    obtain ⟨e1, e2⟩ := am_ret2 h
    exact hret _ _ _ _ _ dX5_reduce_46 rfl e1 (by rw [← e2]; exact hP) hS
  refine am_loop2_s (fun (x10 : Int64) (x11 : Int32) => ∀ (ls : Array Slot), lv_has ls 4 [(0, .ref self), (1, .long x10), (3, .int x11)] → W p l e rmX5_reduce s m args below meth c s.heap [] 0 0 Q (F0 m 4 ls [])) (fun rec12 ihrec12 x10 x11 h ls hl => ?_) _ _ _ h ls (lv_sub hl [2, 1, 0] rfl)
  unfold F_X5_reduce_B4 at h
  refine lv_iload_n (pc := 4) hx hb dX5_reduce_4 rfl (lv_at hl 2 rfl) ?_
  refine lv_aload_n (pc := 5) hx hb dX5_reduce_5 rfl (lv_at hl 0 rfl) ?_
  refine va_get (pc := 6) (D := D) (ci := 5) (v := .int many) (C := RX5) (T := TX5) (N := 2) hx hb hts hnX5 hown hK.1 hP 0 rfl rfl 1 (Nat.le_of_ble_eq_true rfl) hk81 (fun _ h9 => h9) rfl dX5_reduce_6 ?_
  refine lv_icmp_ge (pc := 9) (tgt := 39) hx hb dX5_reduce_9 (by decide) (fun cc => ?_) (fun cc => ?_)
  · replace h := am_t cc h
    exact hK2 _ h ls (lv_sub hl [0, 1] rfl)
  replace h := am_f cc h
  refine lv_iload_n (pc := 12) hx hb dX5_reduce_12 rfl (lv_at hl 2 rfl) ?_
  refine lv_aload_n (pc := 13) hx hb dX5_reduce_13 rfl (lv_at hl 0 rfl) ?_
  refine va_get (pc := 14) (D := D) (ci := 5) (v := .ref a) (C := RX5) (T := TX5) (N := 2) hx hb hts hnX5 hown hK.1 hP 0 rfl rfl 0 (Nat.le_of_ble_eq_true rfl) hk80 (fun _ h9 => h9) rfl dX5_reduce_14 ?_
  refine va_alen (pc := 17) (v := (12 : Int32)) hx hb hK.1 hP 1 0 rfl rfl rfl dX5_reduce_17 ?_
  refine lv_icmp_ge (pc := 18) (tgt := 39) hx hb dX5_reduce_18 (by decide) (fun cc => ?_) (fun cc => ?_)
  · replace h := am_t cc h
    exact hK2 _ h ls (lv_sub hl [0, 1] rfl)
  replace h := am_f cc h
  refine lv_lload_n (pc := 21) hx hb dX5_reduce_21 rfl (lv_at hl 1 rfl) ?_
  refine lv_aload_n (pc := 22) hx hb dX5_reduce_22 rfl (lv_at hl 0 rfl) ?_
  refine va_get (pc := 23) (D := D) (ci := 5) (v := .ref a) (C := RX5) (T := TX5) (N := 2) hx hb hts hnX5 hown hK.1 hP 0 rfl rfl 0 (Nat.le_of_ble_eq_true rfl) hk80 (fun _ h9 => h9) rfl dX5_reduce_23 ?_
  refine lv_iload_n (pc := 26) hx hb dX5_reduce_26 rfl (lv_at hl 2 rfl) ?_
  obtain ⟨hi, h⟩ := am_in_s h
  refine va_iald (pc := 27) hx hb hK.1 hP 1 0 rfl rfl hi dX5_reduce_27 ?_
  refine lv_i2l (pc := 28) hx hb dX5_reduce_28 rfl ?_
  obtain ⟨r13, hc13, h⟩ := am_bind_s h
  refine kc_Nl (pc := 29) ⟨hx, hb, hml, hown, hts⟩ hP hK [.long x10, .long (f x11.toNatClampNeg).toInt64] (c_X6_commonDivisor l D cI cJ x10 (f x11.toNatClampNeg).toInt64 r13 hc13) [] rfl ⟨va_cnB 2 hts (gzN wl192) rfl rfl rfl hK.2.2.2.1 hk2 hdX6_commonDivisor ⟨Nat.le_of_ble_eq_true rfl, Nat.le_of_ble_eq_true rfl⟩, hk191, trivial⟩ [] rfl hl.1 rfl (Nat.le_of_ble_eq_true rfl) dX5_reduce_29 ⟨Nat.zero_le _, Nat.zero_le _⟩ ?_
  refine lv_lstore_n (lv' := [(1, .long r13), (0, .ref self), (3, .int x11)]) (pc := 32) hx hb dX5_reduce_32 rfl hl (by decide) rfl (fun ls hl => ?_)
  obtain ⟨x14, ex14⟩ : ∃ y : Int32, y = (x11 + (1 : Int32)) := ⟨_, rfl⟩
  replace h := am_let_s ex14 h
  refine lv_iinc (pc := 33) (v := x14) (lv' := [(3, .int x14), (1, .long r13), (0, .ref self)]) hx hb dX5_reduce_33 hl (k := 2) rfl (by rw [ex14]; rfl) (by decide) rfl (fun ls hl => ?_)
  refine lv_goto (pc := 36) (tgt := 4) hx hb dX5_reduce_36 (by decide) ?_
  exact ihrec12 _ _ h ls (lv_sub hl [2, 1, 0] rfl)
theorem hdX5_effectiveCount : yX5_effectiveCount.cls ≠ "java/lang/invoke/MethodHandle" ∧ yX5_effectiveCount.cls ≠ "java/lang/invoke/VarHandle" ∧ (parseMethodDescriptor yX5_effectiveCount.desc).map (fun d => d.parameters.length) = some 0 := by decide +kernel
abbrev rmX5_effectiveCount : Room := { frames := 0, cells := 0, slots := 0, locals := 0 }
set_option maxHeartbeats 20000000 in
set_option maxRecDepth 100000 in
theorem c_X5_effectiveCount (l : Launch) (D : va_G) (cI cJ : ClassId) (self : Nat) (a : Nat) (many : Int32) (f : Nat → Int32)  (r0 : Int32) (hF : F_X5_effectiveCount many f = some r0) : Met l yX5_effectiveCount (wz yX5_effectiveCount cX5_effectiveCount 8 (some .int)) rmX5_effectiveCount (kPc D cI cJ [(self, .inr (5, [.ref a, .int many])), (a, .inl (cI, 12, .inl f))] [.ref self]) (vp_Si (fun r => r = r0)) 0 0 (fun _ => False) := by
  refine kM_ri cX5_effectiveCount 8 .int (by decide +kernel) rfl rfl (Nat.le_of_ble_eq_true rfl) ⟨rfl, rfl⟩ ?_
  intro p e s m args below meth c Q ls hx hb hml hown hts hP hK hl hret
  have hk80 := hts _ (List.mem_cons_of_mem _ wl80)
  have hk81 := hts _ (List.mem_cons_of_mem _ wl81)
  have hnX5 : ∀ w ∈ u_ws RX5 TX5 2, w ∈ wz yX5_effectiveCount cX5_effectiveCount 8 (some .int) := fun w h => List.mem_cons_of_mem _ (inlX5 w h)
  replace hl : lv_has ls 8 [(0, .ref self)] := hl
  have h := hF
  unfold F_X5_effectiveCount at h
  refine lv_lconst (v := 0) (pc := 0) hx hb dX5_effectiveCount_0 rfl ?_
  refine lv_lstore_n (lv' := [(1, .long (0 : Int64)), (0, .ref self)]) (pc := 1) hx hb dX5_effectiveCount_1 rfl hl (by decide) rfl (fun ls hl => ?_)
  refine lv_lconst (v := 0) (pc := 2) hx hb dX5_effectiveCount_2 rfl ?_
  refine lv_lstore_n (lv' := [(3, .long (0 : Int64)), (1, .long (0 : Int64)), (0, .ref self)]) (pc := 3) hx hb dX5_effectiveCount_3 rfl hl (by decide) rfl (fun ls hl => ?_)
  refine lv_iconst (v := 0) (pc := 4) hx hb dX5_effectiveCount_4 (by decide) ?_
  refine lv_istore (lv' := [(5, .int (0 : Int32)), (3, .long (0 : Int64)), (1, .long (0 : Int64)), (0, .ref self)]) (pc := 5) hx hb dX5_effectiveCount_5 hl (by decide) rfl (fun ls hl => ?_)
  refine am_join2_s (fun (x1 : Int64) (x2 : Int64) => ∀ (ls : Array Slot), lv_has ls 8 [(1, .long x1), (3, .long x2)] → W p l e rmX5_effectiveCount s m args below meth c s.heap [] 0 0 Q (F0 m 55 ls [])) h (fun x1 x2 h ls hl => ?_) (fun K3 hK3 h => ?_)
  · refine lv_lload_n (pc := 55) hx hb dX5_effectiveCount_55 rfl (lv_at hl 1 rfl) ?_
    refine lv_lconst (v := 0) (pc := 56) hx hb dX5_effectiveCount_56 rfl ?_
    refine W.lcmp (pc := 57) hx hb dX5_effectiveCount_57 ?_
    refine lv_if_gt (pc := 58) (tgt := 63) hx hb dX5_effectiveCount_58 (by decide) (fun cc => ?_) (fun cc => ?_)
    · replace h := am_t cc h
      refine lv_lload_n (pc := 63) hx hb dX5_effectiveCount_63 rfl (lv_at hl 0 rfl) ?_
      refine lv_lload_n (pc := 64) hx hb dX5_effectiveCount_64 rfl (lv_at hl 0 rfl) ?_
      refine lv_lmul (pc := 65) hx hb dX5_effectiveCount_65 ?_
      refine lv_lload_n (pc := 66) hx hb dX5_effectiveCount_66 rfl (lv_at hl 1 rfl) ?_
      obtain ⟨hz, h⟩ := am_nzl_s h
      refine lv_ldiv (pc := 67) hx hb dX5_effectiveCount_67 hz ?_
      refine lv_l2i (pc := 68) hx hb dX5_effectiveCount_68 rfl ?_
      obtain e1 := am_ret1 h
      exact hret _ _ _ dX5_effectiveCount_69 rfl e1
    replace h := am_f cc h
    refine lv_iconst (v := 0) (pc := 61) hx hb dX5_effectiveCount_61 (by decide) ?_
    obtain e1 := am_ret1 h
    exact hret _ _ _ dX5_effectiveCount_62 rfl e1
  refine am_loop3_s (fun (x4 : Int64) (x5 : Int64) (x6 : Int32) => ∀ (ls : Array Slot), lv_has ls 8 [(0, .ref self), (1, .long x4), (3, .long x5), (5, .int x6)] → W p l e rmX5_effectiveCount s m args below meth c s.heap [] 0 0 Q (F0 m 7 ls [])) (fun rec7 ihrec7 x4 x5 x6 h ls hl => ?_) _ _ _ _ h ls (lv_sub hl [3, 2, 1, 0] rfl)
  unfold F_X5_effectiveCount_B7 at h
  refine lv_iload (pc := 7) hx hb dX5_effectiveCount_7 (lv_at hl 3 rfl) ?_
  refine lv_aload_n (pc := 9) hx hb dX5_effectiveCount_9 rfl (lv_at hl 0 rfl) ?_
  refine va_get (pc := 10) (D := D) (ci := 5) (v := .int many) (C := RX5) (T := TX5) (N := 2) hx hb hts hnX5 hown hK.1 hP 0 rfl rfl 1 (Nat.le_of_ble_eq_true rfl) hk81 (fun _ h9 => h9) rfl dX5_effectiveCount_10 ?_
  refine lv_icmp_ge (pc := 13) (tgt := 55) hx hb dX5_effectiveCount_13 (by decide) (fun cc => ?_) (fun cc => ?_)
  · replace h := am_t cc h
    exact hK3 _ _ h ls (lv_sub hl [1, 2] rfl)
  replace h := am_f cc h
  refine lv_iload (pc := 16) hx hb dX5_effectiveCount_16 (lv_at hl 3 rfl) ?_
  refine lv_aload_n (pc := 18) hx hb dX5_effectiveCount_18 rfl (lv_at hl 0 rfl) ?_
  refine va_get (pc := 19) (D := D) (ci := 5) (v := .ref a) (C := RX5) (T := TX5) (N := 2) hx hb hts hnX5 hown hK.1 hP 0 rfl rfl 0 (Nat.le_of_ble_eq_true rfl) hk80 (fun _ h9 => h9) rfl dX5_effectiveCount_19 ?_
  refine va_alen (pc := 22) (v := (12 : Int32)) hx hb hK.1 hP 1 0 rfl rfl rfl dX5_effectiveCount_22 ?_
  refine lv_icmp_ge (pc := 23) (tgt := 55) hx hb dX5_effectiveCount_23 (by decide) (fun cc => ?_) (fun cc => ?_)
  · replace h := am_t cc h
    exact hK3 _ _ h ls (lv_sub hl [1, 2] rfl)
  replace h := am_f cc h
  refine lv_aload_n (pc := 26) hx hb dX5_effectiveCount_26 rfl (lv_at hl 0 rfl) ?_
  refine va_get (pc := 27) (D := D) (ci := 5) (v := .ref a) (C := RX5) (T := TX5) (N := 2) hx hb hts hnX5 hown hK.1 hP 0 rfl rfl 0 (Nat.le_of_ble_eq_true rfl) hk80 (fun _ h9 => h9) rfl dX5_effectiveCount_27 ?_
  refine lv_iload (pc := 30) hx hb dX5_effectiveCount_30 (lv_at hl 3 rfl) ?_
  obtain ⟨hi, h⟩ := am_in_s h
  refine va_iald (pc := 32) hx hb hK.1 hP 1 0 rfl rfl hi dX5_effectiveCount_32 ?_
  refine lv_i2l (pc := 33) hx hb dX5_effectiveCount_33 rfl ?_
  refine lv_topl (fun x8 ex8 => ?_)
  replace h := am_let_s ex8 h
  refine lv_lstore (lv' := [(6, .long x8), (0, .ref self), (1, .long x4), (3, .long x5), (5, .int x6)]) (pc := 34) hx hb dX5_effectiveCount_34 hl (by decide) rfl (fun ls hl => ?_)
  refine lv_lload_n (pc := 36) hx hb dX5_effectiveCount_36 rfl (lv_at hl 2 rfl) ?_
  refine lv_lload (pc := 37) hx hb dX5_effectiveCount_37 (lv_at hl 0 rfl) ?_
  refine lv_ladd (pc := 39) hx hb dX5_effectiveCount_39 ?_
  refine lv_topl (fun x9 ex9 => ?_)
  replace h := am_let_s ex9 h
  refine lv_lstore_n (lv' := [(1, .long x9), (6, .long x8), (0, .ref self), (3, .long x5), (5, .int x6)]) (pc := 40) hx hb dX5_effectiveCount_40 rfl hl (by decide) rfl (fun ls hl => ?_)
  refine lv_lload_n (pc := 41) hx hb dX5_effectiveCount_41 rfl (lv_at hl 3 rfl) ?_
  refine lv_lload (pc := 42) hx hb dX5_effectiveCount_42 (lv_at hl 1 rfl) ?_
  refine lv_lload (pc := 44) hx hb dX5_effectiveCount_44 (lv_at hl 1 rfl) ?_
  refine lv_lmul (pc := 46) hx hb dX5_effectiveCount_46 ?_
  refine lv_ladd (pc := 47) hx hb dX5_effectiveCount_47 ?_
  refine lv_topl (fun x10 ex10 => ?_)
  replace h := am_let_s ex10 h
  refine lv_lstore_n (lv' := [(3, .long x10), (1, .long x9), (6, .long x8), (0, .ref self), (5, .int x6)]) (pc := 48) hx hb dX5_effectiveCount_48 rfl hl (by decide) rfl (fun ls hl => ?_)
  obtain ⟨x11, ex11⟩ : ∃ y : Int32, y = (x6 + (1 : Int32)) := ⟨_, rfl⟩
  replace h := am_let_s ex11 h
  refine lv_iinc (pc := 49) (v := x11) (lv' := [(5, .int x11), (3, .long x10), (1, .long x9), (6, .long x8), (0, .ref self)]) hx hb dX5_effectiveCount_49 hl (k := 4) rfl (by rw [ex11]; rfl) (by decide) rfl (fun ls hl => ?_)
  refine lv_goto (pc := 52) (tgt := 7) hx hb dX5_effectiveCount_52 (by decide) ?_
  exact ihrec7 _ _ _ h ls (lv_sub hl [4, 2, 1, 0] rfl)
theorem hdX5_greatest : yX5_greatest.cls ≠ "java/lang/invoke/MethodHandle" ∧ yX5_greatest.cls ≠ "java/lang/invoke/VarHandle" ∧ (parseMethodDescriptor yX5_greatest.desc).map (fun d => d.parameters.length) = some 0 := by decide +kernel
abbrev rmX5_greatest : Room := { frames := 1, cells := 0, slots := 0, locals := 13 }
set_option maxHeartbeats 20000000 in
set_option maxRecDepth 100000 in
theorem c_X5_greatest (l : Launch) (D : va_G) (cI cJ : ClassId) (self : Nat) (a : Nat) (many : Int32) (f : Nat → Int32)  (r0 : Int32) (hF : F_X5_greatest many f = some r0) : Met l yX5_greatest (wz yX5_greatest cX5_greatest 3 (some .int)) rmX5_greatest (kPc D cI cJ [(self, .inr (5, [.ref a, .int many])), (a, .inl (cI, 12, .inl f))] [.ref self]) (vp_Si (fun r => r = r0)) 0 0 (fun _ => False) := by
  refine kM_ri cX5_greatest 3 .int (by decide +kernel) rfl rfl (Nat.le_of_ble_eq_true rfl) ⟨rfl, rfl⟩ ?_
  intro p e s m args below meth c Q ls hx hb hml hown hts hP hK hl hret
  have hk110 := hts _ (List.mem_cons_of_mem _ wl110)
  have hk72 := hts _ (List.mem_cons_of_mem _ wl72)
  have hk73 := hts _ (List.mem_cons_of_mem _ wl73)
  have hk74 := hts _ (List.mem_cons_of_mem _ wl74)
  have hk80 := hts _ (List.mem_cons_of_mem _ wl80)
  have hk81 := hts _ (List.mem_cons_of_mem _ wl81)
  have hnX5 : ∀ w ∈ u_ws RX5 TX5 2, w ∈ wz yX5_greatest cX5_greatest 3 (some .int) := fun w h => List.mem_cons_of_mem _ (inlX5 w h)
  replace hl : lv_has ls 3 [(0, .ref self)] := hl
  have h := hF
  unfold F_X5_greatest at h
  refine lv_iconst (v := 0) (pc := 0) hx hb dX5_greatest_0 (by decide) ?_
  refine lv_istore_n (lv' := [(1, .int (0 : Int32)), (0, .ref self)]) (pc := 1) hx hb dX5_greatest_1 rfl hl (by decide) rfl (fun ls hl => ?_)
  refine lv_iconst (v := 0) (pc := 2) hx hb dX5_greatest_2 (by decide) ?_
  refine lv_istore_n (lv' := [(2, .int (0 : Int32)), (1, .int (0 : Int32)), (0, .ref self)]) (pc := 3) hx hb dX5_greatest_3 rfl hl (by decide) rfl (fun ls hl => ?_)
  refine am_join1_s (fun (x1 : Int32) => ∀ (ls : Array Slot), lv_has ls 3 [(1, .int x1)] → W p l e rmX5_greatest s m args below meth c s.heap [] 0 0 Q (F0 m 38 ls [])) h (fun x1 h ls hl => ?_) (fun K2 hK2 h => ?_)
  · refine lv_iload_n (pc := 38) hx hb dX5_greatest_38 rfl (lv_at hl 0 rfl) ?_
    obtain e1 := am_ret1 h
    exact hret _ _ _ dX5_greatest_39 rfl e1
  refine am_loop2_s (fun (x3 : Int32) (x4 : Int32) => ∀ (ls : Array Slot), lv_has ls 3 [(0, .ref self), (1, .int x3), (2, .int x4)] → W p l e rmX5_greatest s m args below meth c s.heap [] 0 0 Q (F0 m 4 ls [])) (fun rec5 ihrec5 x3 x4 h ls hl => ?_) _ _ _ h ls (lv_sub hl [2, 1, 0] rfl)
  unfold F_X5_greatest_B4 at h
  refine lv_iload_n (pc := 4) hx hb dX5_greatest_4 rfl (lv_at hl 2 rfl) ?_
  refine lv_aload_n (pc := 5) hx hb dX5_greatest_5 rfl (lv_at hl 0 rfl) ?_
  refine va_get (pc := 6) (D := D) (ci := 5) (v := .int many) (C := RX5) (T := TX5) (N := 2) hx hb hts hnX5 hown hK.1 hP 0 rfl rfl 1 (Nat.le_of_ble_eq_true rfl) hk81 (fun _ h9 => h9) rfl dX5_greatest_6 ?_
  refine lv_icmp_ge (pc := 9) (tgt := 38) hx hb dX5_greatest_9 (by decide) (fun cc => ?_) (fun cc => ?_)
  · replace h := am_t cc h
    exact hK2 _ h ls (lv_sub hl [1] rfl)
  replace h := am_f cc h
  refine lv_iload_n (pc := 12) hx hb dX5_greatest_12 rfl (lv_at hl 2 rfl) ?_
  refine lv_aload_n (pc := 13) hx hb dX5_greatest_13 rfl (lv_at hl 0 rfl) ?_
  refine va_get (pc := 14) (D := D) (ci := 5) (v := .ref a) (C := RX5) (T := TX5) (N := 2) hx hb hts hnX5 hown hK.1 hP 0 rfl rfl 0 (Nat.le_of_ble_eq_true rfl) hk80 (fun _ h9 => h9) rfl dX5_greatest_14 ?_
  refine va_alen (pc := 17) (v := (12 : Int32)) hx hb hK.1 hP 1 0 rfl rfl rfl dX5_greatest_17 ?_
  refine lv_icmp_ge (pc := 18) (tgt := 38) hx hb dX5_greatest_18 (by decide) (fun cc => ?_) (fun cc => ?_)
  · replace h := am_t cc h
    exact hK2 _ h ls (lv_sub hl [1] rfl)
  replace h := am_f cc h
  refine lv_iload_n (pc := 21) hx hb dX5_greatest_21 rfl (lv_at hl 1 rfl) ?_
  refine lv_aload_n (pc := 22) hx hb dX5_greatest_22 rfl (lv_at hl 0 rfl) ?_
  refine va_get (pc := 23) (D := D) (ci := 5) (v := .ref a) (C := RX5) (T := TX5) (N := 2) hx hb hts hnX5 hown hK.1 hP 0 rfl rfl 0 (Nat.le_of_ble_eq_true rfl) hk80 (fun _ h9 => h9) rfl dX5_greatest_23 ?_
  refine lv_iload_n (pc := 26) hx hb dX5_greatest_26 rfl (lv_at hl 2 rfl) ?_
  obtain ⟨hi, h⟩ := am_in_s h
  refine va_iald (pc := 27) hx hb hK.1 hP 1 0 rfl rfl hi dX5_greatest_27 ?_
  refine va_mmax hx hb (hml.trans hl.1.symm) (pc := 28) hown hk110 hk72 hk73 hk74 (Nat.le_of_ble_eq_true rfl) (Nat.le_of_ble_eq_true rfl) (Nat.zero_le _) (Nat.zero_le _) dX5_greatest_28 ?_
  refine lv_topi (fun x6 ex6 => ?_)
  replace h := am_let_s ex6 h
  refine lv_istore_n (lv' := [(1, .int x6), (0, .ref self), (2, .int x4)]) (pc := 31) hx hb dX5_greatest_31 rfl hl (by decide) rfl (fun ls hl => ?_)
  obtain ⟨x7, ex7⟩ : ∃ y : Int32, y = (x4 + (1 : Int32)) := ⟨_, rfl⟩
  replace h := am_let_s ex7 h
  refine lv_iinc (pc := 32) (v := x7) (lv' := [(2, .int x7), (1, .int x6), (0, .ref self)]) hx hb dX5_greatest_32 hl (k := 2) rfl (by rw [ex7]; rfl) (by decide) rfl (fun ls hl => ?_)
  refine lv_goto (pc := 35) (tgt := 4) hx hb dX5_greatest_35 (by decide) ?_
  exact ihrec5 _ _ h ls (lv_sub hl [2, 1, 0] rfl)
theorem hdX5_howManyAheadOf : yX5_howManyAheadOf.cls ≠ "java/lang/invoke/MethodHandle" ∧ yX5_howManyAheadOf.cls ≠ "java/lang/invoke/VarHandle" ∧ (parseMethodDescriptor yX5_howManyAheadOf.desc).map (fun d => d.parameters.length) = some 1 := by decide +kernel
abbrev rmX5_howManyAheadOf : Room := { frames := 1, cells := 0, slots := 0, locals := 21 }
set_option maxHeartbeats 20000000 in
set_option maxRecDepth 100000 in
theorem c_X5_howManyAheadOf (l : Launch) (D : va_G) (cI cJ : ClassId) (self : Nat) (a : Nat) (many : Int32) (f : Nat → Int32) (p0 : Int32) (r0 : Int32) (hF : F_X5_howManyAheadOf many f p0 = some r0) : Met l yX5_howManyAheadOf (wz yX5_howManyAheadOf cX5_howManyAheadOf 5 (some .int)) rmX5_howManyAheadOf (kPc D cI cJ [(self, .inr (5, [.ref a, .int many])), (a, .inl (cI, 12, .inl f))] [.ref self, .int p0]) (vp_Si (fun r => r = r0)) 0 0 (fun _ => False) := by
  refine kM_ri cX5_howManyAheadOf 5 .int (by decide +kernel) rfl rfl (Nat.le_of_ble_eq_true rfl) ⟨rfl, rfl⟩ ?_
  intro p e s m args below meth c Q ls hx hb hml hown hts hP hK hl hret
  have hk80 := hts _ (List.mem_cons_of_mem _ wl80)
  have hk81 := hts _ (List.mem_cons_of_mem _ wl81)
  have hnX5 : ∀ w ∈ u_ws RX5 TX5 2, w ∈ wz yX5_howManyAheadOf cX5_howManyAheadOf 5 (some .int) := fun w h => List.mem_cons_of_mem _ (inlX5 w h)
  replace hl : lv_has ls 5 [(0, .ref self), (1, .int p0)] := hl
  have h := hF
  unfold F_X5_howManyAheadOf at h
  refine lv_aload_n (pc := 0) hx hb dX5_howManyAheadOf_0 rfl (lv_at hl 0 rfl) ?_
  refine lv_iload_n (pc := 1) hx hb dX5_howManyAheadOf_1 rfl (lv_at hl 1 rfl) ?_
  obtain ⟨r1, hc1, h⟩ := am_bind_s h
  refine kc_Vi (pc := 2) (ci := 5) ⟨hx, hb, hml, hown, hts⟩ hP hK [.int p0] (c_X5_weightOf l D cI cJ self a many f p0 r1 hc1) [0, 1] rfl (cwV 1 hts (gzV wl197 wl172 wl173 wl47 wl174) rfl rfl rfl ⟨rfl, hdX5_weightOf⟩ ⟨Nat.le_of_ble_eq_true rfl, Nat.le_of_ble_eq_true rfl⟩) rfl rfl [] rfl hl.1 rfl (Nat.le_of_ble_eq_true rfl) dX5_howManyAheadOf_2 ⟨Nat.zero_le _, Nat.zero_le _⟩ ?_
  refine lv_istore_n (lv' := [(2, .int r1), (0, .ref self), (1, .int p0)]) (pc := 5) hx hb dX5_howManyAheadOf_5 rfl hl (by decide) rfl (fun ls hl => ?_)
  refine lv_iconst (v := 0) (pc := 6) hx hb dX5_howManyAheadOf_6 (by decide) ?_
  refine lv_istore_n (lv' := [(3, .int (0 : Int32)), (2, .int r1), (0, .ref self), (1, .int p0)]) (pc := 7) hx hb dX5_howManyAheadOf_7 rfl hl (by decide) rfl (fun ls hl => ?_)
  refine lv_iconst (v := 0) (pc := 8) hx hb dX5_howManyAheadOf_8 (by decide) ?_
  refine lv_istore (lv' := [(4, .int (0 : Int32)), (3, .int (0 : Int32)), (2, .int r1), (0, .ref self), (1, .int p0)]) (pc := 9) hx hb dX5_howManyAheadOf_9 hl (by decide) rfl (fun ls hl => ?_)
  refine am_join1_s (fun (x2 : Int32) => ∀ (ls : Array Slot), lv_has ls 5 [(3, .int x2)] → W p l e rmX5_howManyAheadOf s m args below meth c s.heap [] 0 0 Q (F0 m 67 ls [])) h (fun x2 h ls hl => ?_) (fun K3 hK3 h => ?_)
  · refine lv_iload_n (pc := 67) hx hb dX5_howManyAheadOf_67 rfl (lv_at hl 0 rfl) ?_
    obtain e1 := am_ret1 h
    exact hret _ _ _ dX5_howManyAheadOf_68 rfl e1
  refine am_loop2_s (fun (x4 : Int32) (x5 : Int32) => ∀ (ls : Array Slot), lv_has ls 5 [(0, .ref self), (1, .int p0), (2, .int r1), (3, .int x4), (4, .int x5)] → W p l e rmX5_howManyAheadOf s m args below meth c s.heap [] 0 0 Q (F0 m 11 ls [])) (fun rec6 ihrec6 x4 x5 h ls hl => ?_) _ _ _ h ls (lv_sub hl [3, 4, 2, 1, 0] rfl)
  unfold F_X5_howManyAheadOf_B11 at h
  refine lv_iload (pc := 11) hx hb dX5_howManyAheadOf_11 (lv_at hl 4 rfl) ?_
  refine lv_aload_n (pc := 13) hx hb dX5_howManyAheadOf_13 rfl (lv_at hl 0 rfl) ?_
  refine va_get (pc := 14) (D := D) (ci := 5) (v := .int many) (C := RX5) (T := TX5) (N := 2) hx hb hts hnX5 hown hK.1 hP 0 rfl rfl 1 (Nat.le_of_ble_eq_true rfl) hk81 (fun _ h9 => h9) rfl dX5_howManyAheadOf_14 ?_
  refine lv_icmp_ge (pc := 17) (tgt := 67) hx hb dX5_howManyAheadOf_17 (by decide) (fun cc => ?_) (fun cc => ?_)
  · replace h := am_t cc h
    exact hK3 _ h ls (lv_sub hl [3] rfl)
  replace h := am_f cc h
  refine lv_iload (pc := 20) hx hb dX5_howManyAheadOf_20 (lv_at hl 4 rfl) ?_
  refine lv_aload_n (pc := 22) hx hb dX5_howManyAheadOf_22 rfl (lv_at hl 0 rfl) ?_
  refine va_get (pc := 23) (D := D) (ci := 5) (v := .ref a) (C := RX5) (T := TX5) (N := 2) hx hb hts hnX5 hown hK.1 hP 0 rfl rfl 0 (Nat.le_of_ble_eq_true rfl) hk80 (fun _ h9 => h9) rfl dX5_howManyAheadOf_23 ?_
  refine va_alen (pc := 26) (v := (12 : Int32)) hx hb hK.1 hP 1 0 rfl rfl rfl dX5_howManyAheadOf_26 ?_
  refine lv_icmp_ge (pc := 27) (tgt := 67) hx hb dX5_howManyAheadOf_27 (by decide) (fun cc => ?_) (fun cc => ?_)
  · replace h := am_t cc h
    exact hK3 _ h ls (lv_sub hl [3] rfl)
  replace h := am_f cc h
  refine lv_aload_n (pc := 30) hx hb dX5_howManyAheadOf_30 rfl (lv_at hl 0 rfl) ?_
  refine va_get (pc := 31) (D := D) (ci := 5) (v := .ref a) (C := RX5) (T := TX5) (N := 2) hx hb hts hnX5 hown hK.1 hP 0 rfl rfl 0 (Nat.le_of_ble_eq_true rfl) hk80 (fun _ h9 => h9) rfl dX5_howManyAheadOf_31 ?_
  refine lv_iload (pc := 34) hx hb dX5_howManyAheadOf_34 (lv_at hl 4 rfl) ?_
  obtain ⟨hi, h⟩ := am_in_s h
  refine va_iald (pc := 36) hx hb hK.1 hP 1 0 rfl rfl hi dX5_howManyAheadOf_36 ?_
  refine lv_iload_n (pc := 37) hx hb dX5_howManyAheadOf_37 rfl (lv_at hl 2 rfl) ?_
  refine lv_icmp_gt (pc := 38) (tgt := 58) hx hb dX5_howManyAheadOf_38 (by decide) (fun cc => ?_) (fun cc => ?_)
  · replace h := am_t cc h
    obtain ⟨x7, ex7⟩ : ∃ y : Int32, y = (x4 + (1 : Int32)) := ⟨_, rfl⟩
    replace h := am_let_s ex7 h
    refine lv_iinc (pc := 58) (v := x7) (lv' := [(3, .int x7), (0, .ref self), (1, .int p0), (2, .int r1), (4, .int x5)]) hx hb dX5_howManyAheadOf_58 hl (k := 3) rfl (by rw [ex7]; rfl) (by decide) rfl (fun ls hl => ?_)
    obtain ⟨x8, ex8⟩ : ∃ y : Int32, y = (x5 + (1 : Int32)) := ⟨_, rfl⟩
    replace h := am_let_s ex8 h
    refine lv_iinc (pc := 61) (v := x8) (lv' := [(4, .int x8), (3, .int x7), (0, .ref self), (1, .int p0), (2, .int r1)]) hx hb dX5_howManyAheadOf_61 hl (k := 4) rfl (by rw [ex8]; rfl) (by decide) rfl (fun ls hl => ?_)
    refine lv_goto (pc := 64) (tgt := 11) hx hb dX5_howManyAheadOf_64 (by decide) ?_
    exact ihrec6 _ _ h ls (lv_sub hl [2, 3, 4, 1, 0] rfl)
  replace h := am_f cc h
  refine lv_aload_n (pc := 41) hx hb dX5_howManyAheadOf_41 rfl (lv_at hl 0 rfl) ?_
  refine va_get (pc := 42) (D := D) (ci := 5) (v := .ref a) (C := RX5) (T := TX5) (N := 2) hx hb hts hnX5 hown hK.1 hP 0 rfl rfl 0 (Nat.le_of_ble_eq_true rfl) hk80 (fun _ h9 => h9) rfl dX5_howManyAheadOf_42 ?_
  refine lv_iload (pc := 45) hx hb dX5_howManyAheadOf_45 (lv_at hl 4 rfl) ?_
  obtain ⟨hi, h⟩ := am_in_s h
  refine va_iald (pc := 47) hx hb hK.1 hP 1 0 rfl rfl hi dX5_howManyAheadOf_47 ?_
  refine lv_iload_n (pc := 48) hx hb dX5_howManyAheadOf_48 rfl (lv_at hl 2 rfl) ?_
  refine lv_icmp_ne (pc := 49) (tgt := 61) hx hb dX5_howManyAheadOf_49 (by decide) (fun cc => ?_) (fun cc => ?_)
  · replace h := am_f cc h
    obtain ⟨x9, ex9⟩ : ∃ y : Int32, y = (x5 + (1 : Int32)) := ⟨_, rfl⟩
    replace h := am_let_s ex9 h
    refine lv_iinc (pc := 61) (v := x9) (lv' := [(4, .int x9), (0, .ref self), (1, .int p0), (2, .int r1), (3, .int x4)]) hx hb dX5_howManyAheadOf_61 hl (k := 4) rfl (by rw [ex9]; rfl) (by decide) rfl (fun ls hl => ?_)
    refine lv_goto (pc := 64) (tgt := 11) hx hb dX5_howManyAheadOf_64 (by decide) ?_
    exact ihrec6 _ _ h ls (lv_sub hl [1, 2, 3, 4, 0] rfl)
  replace h := am_t cc h
  refine lv_iload (pc := 52) hx hb dX5_howManyAheadOf_52 (lv_at hl 4 rfl) ?_
  refine lv_iload_n (pc := 54) hx hb dX5_howManyAheadOf_54 rfl (lv_at hl 1 rfl) ?_
  refine lv_icmp_ge (pc := 55) (tgt := 61) hx hb dX5_howManyAheadOf_55 (by decide) (fun cc => ?_) (fun cc => ?_)
  · replace h := am_t cc h
    obtain ⟨x10, ex10⟩ : ∃ y : Int32, y = (x5 + (1 : Int32)) := ⟨_, rfl⟩
    replace h := am_let_s ex10 h
    refine lv_iinc (pc := 61) (v := x10) (lv' := [(4, .int x10), (0, .ref self), (1, .int p0), (2, .int r1), (3, .int x4)]) hx hb dX5_howManyAheadOf_61 hl (k := 4) rfl (by rw [ex10]; rfl) (by decide) rfl (fun ls hl => ?_)
    refine lv_goto (pc := 64) (tgt := 11) hx hb dX5_howManyAheadOf_64 (by decide) ?_
    exact ihrec6 _ _ h ls (lv_sub hl [1, 2, 3, 4, 0] rfl)
  replace h := am_f cc h
  obtain ⟨x11, ex11⟩ : ∃ y : Int32, y = (x4 + (1 : Int32)) := ⟨_, rfl⟩
  replace h := am_let_s ex11 h
  refine lv_iinc (pc := 58) (v := x11) (lv' := [(3, .int x11), (0, .ref self), (1, .int p0), (2, .int r1), (4, .int x5)]) hx hb dX5_howManyAheadOf_58 hl (k := 3) rfl (by rw [ex11]; rfl) (by decide) rfl (fun ls hl => ?_)
  obtain ⟨x12, ex12⟩ : ∃ y : Int32, y = (x5 + (1 : Int32)) := ⟨_, rfl⟩
  replace h := am_let_s ex12 h
  refine lv_iinc (pc := 61) (v := x12) (lv' := [(4, .int x12), (3, .int x11), (0, .ref self), (1, .int p0), (2, .int r1)]) hx hb dX5_howManyAheadOf_61 hl (k := 4) rfl (by rw [ex12]; rfl) (by decide) rfl (fun ls hl => ?_)
  refine lv_goto (pc := 64) (tgt := 11) hx hb dX5_howManyAheadOf_64 (by decide) ?_
  exact ihrec6 _ _ h ls (lv_sub hl [2, 3, 4, 1, 0] rfl)
theorem hdX5_howManyAreZero : yX5_howManyAreZero.cls ≠ "java/lang/invoke/MethodHandle" ∧ yX5_howManyAreZero.cls ≠ "java/lang/invoke/VarHandle" ∧ (parseMethodDescriptor yX5_howManyAreZero.desc).map (fun d => d.parameters.length) = some 0 := by decide +kernel
abbrev rmX5_howManyAreZero : Room := { frames := 0, cells := 0, slots := 0, locals := 0 }
set_option maxHeartbeats 20000000 in
set_option maxRecDepth 100000 in
theorem c_X5_howManyAreZero (l : Launch) (D : va_G) (cI cJ : ClassId) (self : Nat) (a : Nat) (many : Int32) (f : Nat → Int32)  (r0 : Int32) (hF : F_X5_howManyAreZero many f = some r0) : Met l yX5_howManyAreZero (wz yX5_howManyAreZero cX5_howManyAreZero 3 (some .int)) rmX5_howManyAreZero (kPc D cI cJ [(self, .inr (5, [.ref a, .int many])), (a, .inl (cI, 12, .inl f))] [.ref self]) (vp_Si (fun r => r = r0)) 0 0 (fun _ => False) := by
  refine kM_ri cX5_howManyAreZero 3 .int (by decide +kernel) rfl rfl (Nat.le_of_ble_eq_true rfl) ⟨rfl, rfl⟩ ?_
  intro p e s m args below meth c Q ls hx hb hml hown hts hP hK hl hret
  have hk80 := hts _ (List.mem_cons_of_mem _ wl80)
  have hk81 := hts _ (List.mem_cons_of_mem _ wl81)
  have hnX5 : ∀ w ∈ u_ws RX5 TX5 2, w ∈ wz yX5_howManyAreZero cX5_howManyAreZero 3 (some .int) := fun w h => List.mem_cons_of_mem _ (inlX5 w h)
  replace hl : lv_has ls 3 [(0, .ref self)] := hl
  have h := hF
  unfold F_X5_howManyAreZero at h
  refine lv_iconst (v := 0) (pc := 0) hx hb dX5_howManyAreZero_0 (by decide) ?_
  refine lv_istore_n (lv' := [(1, .int (0 : Int32)), (0, .ref self)]) (pc := 1) hx hb dX5_howManyAreZero_1 rfl hl (by decide) rfl (fun ls hl => ?_)
  refine lv_iconst (v := 0) (pc := 2) hx hb dX5_howManyAreZero_2 (by decide) ?_
  refine lv_istore_n (lv' := [(2, .int (0 : Int32)), (1, .int (0 : Int32)), (0, .ref self)]) (pc := 3) hx hb dX5_howManyAreZero_3 rfl hl (by decide) rfl (fun ls hl => ?_)
  refine am_join1_s (fun (x1 : Int32) => ∀ (ls : Array Slot), lv_has ls 3 [(1, .int x1)] → W p l e rmX5_howManyAreZero s m args below meth c s.heap [] 0 0 Q (F0 m 39 ls [])) h (fun x1 h ls hl => ?_) (fun K2 hK2 h => ?_)
  · refine lv_iload_n (pc := 39) hx hb dX5_howManyAreZero_39 rfl (lv_at hl 0 rfl) ?_
    obtain e1 := am_ret1 h
    exact hret _ _ _ dX5_howManyAreZero_40 rfl e1
  refine am_loop2_s (fun (x3 : Int32) (x4 : Int32) => ∀ (ls : Array Slot), lv_has ls 3 [(0, .ref self), (1, .int x3), (2, .int x4)] → W p l e rmX5_howManyAreZero s m args below meth c s.heap [] 0 0 Q (F0 m 4 ls [])) (fun rec5 ihrec5 x3 x4 h ls hl => ?_) _ _ _ h ls (lv_sub hl [2, 1, 0] rfl)
  unfold F_X5_howManyAreZero_B4 at h
  refine lv_iload_n (pc := 4) hx hb dX5_howManyAreZero_4 rfl (lv_at hl 2 rfl) ?_
  refine lv_aload_n (pc := 5) hx hb dX5_howManyAreZero_5 rfl (lv_at hl 0 rfl) ?_
  refine va_get (pc := 6) (D := D) (ci := 5) (v := .int many) (C := RX5) (T := TX5) (N := 2) hx hb hts hnX5 hown hK.1 hP 0 rfl rfl 1 (Nat.le_of_ble_eq_true rfl) hk81 (fun _ h9 => h9) rfl dX5_howManyAreZero_6 ?_
  refine lv_icmp_ge (pc := 9) (tgt := 39) hx hb dX5_howManyAreZero_9 (by decide) (fun cc => ?_) (fun cc => ?_)
  · replace h := am_t cc h
    exact hK2 _ h ls (lv_sub hl [1] rfl)
  replace h := am_f cc h
  refine lv_iload_n (pc := 12) hx hb dX5_howManyAreZero_12 rfl (lv_at hl 2 rfl) ?_
  refine lv_aload_n (pc := 13) hx hb dX5_howManyAreZero_13 rfl (lv_at hl 0 rfl) ?_
  refine va_get (pc := 14) (D := D) (ci := 5) (v := .ref a) (C := RX5) (T := TX5) (N := 2) hx hb hts hnX5 hown hK.1 hP 0 rfl rfl 0 (Nat.le_of_ble_eq_true rfl) hk80 (fun _ h9 => h9) rfl dX5_howManyAreZero_14 ?_
  refine va_alen (pc := 17) (v := (12 : Int32)) hx hb hK.1 hP 1 0 rfl rfl rfl dX5_howManyAreZero_17 ?_
  refine lv_icmp_ge (pc := 18) (tgt := 39) hx hb dX5_howManyAreZero_18 (by decide) (fun cc => ?_) (fun cc => ?_)
  · replace h := am_t cc h
    exact hK2 _ h ls (lv_sub hl [1] rfl)
  replace h := am_f cc h
  refine lv_aload_n (pc := 21) hx hb dX5_howManyAreZero_21 rfl (lv_at hl 0 rfl) ?_
  refine va_get (pc := 22) (D := D) (ci := 5) (v := .ref a) (C := RX5) (T := TX5) (N := 2) hx hb hts hnX5 hown hK.1 hP 0 rfl rfl 0 (Nat.le_of_ble_eq_true rfl) hk80 (fun _ h9 => h9) rfl dX5_howManyAreZero_22 ?_
  refine lv_iload_n (pc := 25) hx hb dX5_howManyAreZero_25 rfl (lv_at hl 2 rfl) ?_
  obtain ⟨hi, h⟩ := am_in_s h
  refine va_iald (pc := 26) hx hb hK.1 hP 1 0 rfl rfl hi dX5_howManyAreZero_26 ?_
  refine lv_if_ne (pc := 27) (tgt := 33) hx hb dX5_howManyAreZero_27 (by decide) (fun cc => ?_) (fun cc => ?_)
  · replace h := am_f cc h
    obtain ⟨x6, ex6⟩ : ∃ y : Int32, y = (x4 + (1 : Int32)) := ⟨_, rfl⟩
    replace h := am_let_s ex6 h
    refine lv_iinc (pc := 33) (v := x6) (lv' := [(2, .int x6), (0, .ref self), (1, .int x3)]) hx hb dX5_howManyAreZero_33 hl (k := 2) rfl (by rw [ex6]; rfl) (by decide) rfl (fun ls hl => ?_)
    refine lv_goto (pc := 36) (tgt := 4) hx hb dX5_howManyAreZero_36 (by decide) ?_
    exact ihrec5 _ _ h ls (lv_sub hl [1, 2, 0] rfl)
  replace h := am_t cc h
  obtain ⟨x7, ex7⟩ : ∃ y : Int32, y = (x3 + (1 : Int32)) := ⟨_, rfl⟩
  replace h := am_let_s ex7 h
  refine lv_iinc (pc := 30) (v := x7) (lv' := [(1, .int x7), (0, .ref self), (2, .int x4)]) hx hb dX5_howManyAreZero_30 hl (k := 1) rfl (by rw [ex7]; rfl) (by decide) rfl (fun ls hl => ?_)
  obtain ⟨x8, ex8⟩ : ∃ y : Int32, y = (x4 + (1 : Int32)) := ⟨_, rfl⟩
  replace h := am_let_s ex8 h
  refine lv_iinc (pc := 33) (v := x8) (lv' := [(2, .int x8), (1, .int x7), (0, .ref self)]) hx hb dX5_howManyAreZero_33 hl (k := 2) rfl (by rw [ex8]; rfl) (by decide) rfl (fun ls hl => ?_)
  refine lv_goto (pc := 36) (tgt := 4) hx hb dX5_howManyAreZero_36 (by decide) ?_
  exact ihrec5 _ _ h ls (lv_sub hl [2, 1, 0] rfl)
