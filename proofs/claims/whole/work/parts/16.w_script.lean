-- contracts, printed by wip/whole/gen.py
theorem hdX3_length : yX3_length.cls ≠ "java/lang/invoke/MethodHandle" ∧ yX3_length.cls ≠ "java/lang/invoke/VarHandle" ∧ (parseMethodDescriptor yX3_length.desc).map (fun d => d.parameters.length) = some 0 := by decide +kernel
abbrev rmX3_length : Room := { frames := 0, cells := 0, slots := 0, locals := 0 }
set_option maxHeartbeats 20000000 in
set_option maxRecDepth 100000 in
theorem c_X3_length (l : Launch) (D : va_G) (cI cJ : ClassId) (self : Nat) (a : Nat) (len : Int32) (sta : Int32) (pos : Int32) (kin : Int32) (fst : Int32) (snd : Int32) (don : Int32) (rea : Int32) (cau : Int32) (ch : Nat → Int32)  (r0 : Int32) (hF : F_X3_length len = some r0) : Met l yX3_length (wz yX3_length cX3_length 1 (some .int)) rmX3_length (kPc D cI cJ [(self, .inr (3, [.ref a, .int len, .int sta, .int pos, .int kin, .int fst, .int snd, .int don, .int rea, .int cau])), (a, .inl (cI, 60, .inl ch))] [.ref self]) (vp_Si (fun r => r = r0)) 0 0 (fun _ => False) := by
  refine kM_ri cX3_length 1 .int (by decide +kernel) rfl rfl (Nat.le_of_ble_eq_true rfl) ⟨rfl, rfl⟩ ?_
  intro p e s m args below meth c Q ls hx hb hml hown hts hP hK hl hret
  have hk622 := hts _ (List.mem_cons_of_mem _ wl622)
  have hnX3 : ∀ w ∈ u_ws RX3 TX3 10, w ∈ wz yX3_length cX3_length 1 (some .int) := fun w h => List.mem_cons_of_mem _ (inlX3 w h)
  replace hl : lv_has ls 1 [(0, .ref self)] := hl
  have h := hF
  unfold F_X3_length at h
  refine lv_aload_n (pc := 0) hx hb dX3_length_0 rfl (lv_at hl 0 rfl) ?_
  refine va_get (pc := 1) (D := D) (ci := 3) (v := .int len) (C := RX3) (T := TX3) (N := 10) hx hb hts hnX3 hown hK.1 hP 0 rfl rfl 1 (Nat.le_of_ble_eq_true rfl) hk622 (fun _ h9 => h9) rfl dX3_length_1 ?_
  obtain e1 := am_ret1 h
  exact hret _ _ _ dX3_length_4 rfl e1
theorem hdX3_append : yX3_append.cls ≠ "java/lang/invoke/MethodHandle" ∧ yX3_append.cls ≠ "java/lang/invoke/VarHandle" ∧ (parseMethodDescriptor yX3_append.desc).map (fun d => d.parameters.length) = some 1 := by decide +kernel
abbrev rmX3_append : Room := { frames := 0, cells := 0, slots := 0, locals := 0 }
set_option maxHeartbeats 20000000 in
set_option maxRecDepth 100000 in
theorem c_X3_append (l : Launch) (D : va_G) (cI cJ : ClassId) (self : Nat) (a : Nat) (len : Int32) (sta : Int32) (pos : Int32) (kin : Int32) (fst : Int32) (snd : Int32) (don : Int32) (rea : Int32) (cau : Int32) (ch : Nat → Int32) (p0 : Int32) (r0 : Int32) (zlen : Int32) (zch : Nat → Int32) (hF : F_X3_append len ch p0 = some (r0, zlen, zch)) (sz : Nat) : Met l yX3_append (wz yX3_append cX3_append 2 (some .int)) rmX3_append (kPw D cI cJ [(self, .inr (3, [.ref a, .int len, .int sta, .int pos, .int kin, .int fst, .int snd, .int don, .int rea, .int cau])), (a, .inl (cI, 60, .inl ch))] sz [.ref self, .int p0]) (kQi D r0 [(self, .inr (3, [.ref a, .int zlen, .int sta, .int pos, .int kin, .int fst, .int snd, .int don, .int rea, .int cau])), (a, .inl (cI, 60, .inl zch))] (va_A [(self, .inr (3, [.ref a, .int len, .int sta, .int pos, .int kin, .int fst, .int snd, .int don, .int rea, .int cau])), (a, .inl (cI, 60, .inl ch))] sz)) 0 0 (va_A [(self, .inr (3, [.ref a, .int len, .int sta, .int pos, .int kin, .int fst, .int snd, .int don, .int rea, .int cau])), (a, .inl (cI, 60, .inl ch))] sz) := by
  refine kM_wi cX3_append 2 .int (by decide +kernel) rfl rfl (Nat.le_of_ble_eq_true rfl) ⟨rfl, rfl⟩ ?_
  intro p e s m args below meth c Q A ls hx hb hml hown hts hP hK hD hA hS hl hret
  have hk116 := hts _ (List.mem_cons_of_mem _ wl116)
  have hk622 := hts _ (List.mem_cons_of_mem _ wl622)
  have hk657 := hts _ (List.mem_cons_of_mem _ wl657)
  have hnX3 : ∀ w ∈ u_ws RX3 TX3 10, w ∈ wz yX3_append cX3_append 2 (some .int) := fun w h => List.mem_cons_of_mem _ (inlX3 w h)
  replace hl : lv_has ls 2 [(0, .ref self), (1, .int p0)] := hl
  have h := hF
  unfold F_X3_append at h
  refine lv_aload_n (pc := 0) hx hb dX3_append_0 rfl (lv_at hl 0 rfl) ?_
  refine va_get (pc := 1) (D := D) (ci := 3) (v := .int len) (C := RX3) (T := TX3) (N := 10) hx hb hts hnX3 hown hK.1 hP 0 rfl rfl 1 (Nat.le_of_ble_eq_true rfl) hk622 (fun _ h9 => h9) rfl dX3_append_1 ?_
  refine lv_if_lt (pc := 4) (tgt := 19) hx hb dX3_append_4 (by decide) (fun cc => ?_) (fun cc => ?_)
  · replace h := am_t cc h
    refine lv_ldc (pc := 19) hx hb hown hk657 dX3_append_19 ?_
    obtain ⟨e1, e2, e3⟩ := am_ret3 h
    exact hret _ _ _ _ _ dX3_append_21 rfl e1 (by rw [← e2, ← e3]; exact hP) hS
  replace h := am_f cc h
  refine lv_aload_n (pc := 7) hx hb dX3_append_7 rfl (lv_at hl 0 rfl) ?_
  refine va_get (pc := 8) (D := D) (ci := 3) (v := .int len) (C := RX3) (T := TX3) (N := 10) hx hb hts hnX3 hown hK.1 hP 0 rfl rfl 1 (Nat.le_of_ble_eq_true rfl) hk622 (fun _ h9 => h9) rfl dX3_append_8 ?_
  refine lv_aload_n (pc := 11) hx hb dX3_append_11 rfl (lv_at hl 0 rfl) ?_
  refine va_get (pc := 12) (D := D) (ci := 3) (v := .ref a) (C := RX3) (T := TX3) (N := 10) hx hb hts hnX3 hown hK.1 hP 0 rfl rfl 0 (Nat.le_of_ble_eq_true rfl) hk116 (fun _ h9 => h9) rfl dX3_append_12 ?_
  refine va_alen (pc := 15) (v := (60 : Int32)) hx hb hK.1 hP 1 0 rfl rfl rfl dX3_append_15 ?_
  refine lv_icmp_lt (pc := 16) (tgt := 22) hx hb dX3_append_16 (by decide) (fun cc => ?_) (fun cc => ?_)
  · replace h := am_t cc h
    refine lv_aload_n (pc := 22) hx hb dX3_append_22 rfl (lv_at hl 0 rfl) ?_
    refine va_get (pc := 23) (D := D) (ci := 3) (v := .ref a) (C := RX3) (T := TX3) (N := 10) hx hb hts hnX3 hown hK.1 hP 0 rfl rfl 0 (Nat.le_of_ble_eq_true rfl) hk116 (fun _ h9 => h9) rfl dX3_append_23 ?_
    refine lv_aload_n (pc := 26) hx hb dX3_append_26 rfl (lv_at hl 0 rfl) ?_
    refine va_get (pc := 27) (D := D) (ci := 3) (v := .int len) (C := RX3) (T := TX3) (N := 10) hx hb hts hnX3 hown hK.1 hP 0 rfl rfl 1 (Nat.le_of_ble_eq_true rfl) hk622 (fun _ h9 => h9) rfl dX3_append_27 ?_
    refine lv_iload_n (pc := 30) hx hb dX3_append_30 rfl (lv_at hl 1 rfl) ?_
    obtain ⟨hi, h⟩ := am_in_s h
    obtain ⟨f1, ef1⟩ : ∃ y : Nat → Int32, y = (upd ch len.toNatClampNeg p0) := ⟨_, rfl⟩
    replace h := am_let_s ef1 h
    refine va_iast (pc := 31) hx hb hK.1 hP hD hS 1 0 rfl rfl hi dX3_append_31 (fun H locs hP hD hS => ?_)
    rw [← ef1] at hP hD
    replace hP : va_P D vwCl [(self, .inr (3, [.ref a, .int len, .int sta, .int pos, .int kin, .int fst, .int snd, .int don, .int rea, .int cau])), (a, .inl (cI, 60, .inl f1))] H := hP
    replace hD : va_D A [(self, .inr (3, [.ref a, .int len, .int sta, .int pos, .int kin, .int fst, .int snd, .int don, .int rea, .int cau])), (a, .inl (cI, 60, .inl f1))] := hD
    refine lv_aload_n (pc := 32) hx hb dX3_append_32 rfl (lv_at hl 0 rfl) ?_
    refine lv_dup (pc := 33) hx hb dX3_append_33 rfl ?_
    refine va_get (pc := 34) (D := D) (ci := 3) (v := .int len) (C := RX3) (T := TX3) (N := 10) hx hb hts hnX3 hown hK.1 hP 0 rfl rfl 1 (Nat.le_of_ble_eq_true rfl) hk622 (fun _ h9 => h9) rfl dX3_append_34 ?_
    refine lv_iconst (v := 1) (pc := 37) hx hb dX3_append_37 (by decide) ?_
    refine lv_iadd (pc := 38) hx hb dX3_append_38 ?_
    refine lv_topi (fun x2 ex2 => ?_)
    replace h := am_let_s ex2 h
    refine va_put (pc := 39) (D := D) (ci := 3) (v := .int x2) (ty := .int) (C := RX3) (T := TX3) (N := 10) hx hb hts hnX3 tyX3 tyX3_ok nmX3 hown hK.1 hP hD hS 0 rfl rfl 1 (Nat.le_of_ble_eq_true rfl) hk622 (fun _ h9 => h9) rfl (by decide +kernel) rfl rfl (Nat.le_of_ble_eq_true rfl) dX3_append_39 (fun H locs hP hD hS => ?_)
    replace hP : va_P D vwCl [(self, .inr (3, [.ref a, .int x2, .int sta, .int pos, .int kin, .int fst, .int snd, .int don, .int rea, .int cau])), (a, .inl (cI, 60, .inl f1))] H := hP
    replace hD : va_D A [(self, .inr (3, [.ref a, .int x2, .int sta, .int pos, .int kin, .int fst, .int snd, .int don, .int rea, .int cau])), (a, .inl (cI, 60, .inl f1))] := hD
    refine lv_aload_n (pc := 42) hx hb dX3_append_42 rfl (lv_at hl 0 rfl) ?_
    refine va_get (pc := 43) (D := D) (ci := 3) (v := .int x2) (C := RX3) (T := TX3) (N := 10) hx hb hts hnX3 hown hK.1 hP 0 rfl rfl 1 (Nat.le_of_ble_eq_true rfl) hk622 (fun _ h9 => h9) rfl dX3_append_43 ?_
    obtain ⟨e1, e2, e3⟩ := am_ret3 h
    exact hret _ _ _ _ _ dX3_append_46 rfl e1 (by rw [← e2, ← e3]; exact hP) hS
  replace h := am_f cc h
  refine lv_ldc (pc := 19) hx hb hown hk657 dX3_append_19 ?_
  obtain ⟨e1, e2, e3⟩ := am_ret3 h
  exact hret _ _ _ _ _ dX3_append_21 rfl e1 (by rw [← e2, ← e3]; exact hP) hS
theorem hdX3_empty : yX3_empty.cls ≠ "java/lang/invoke/MethodHandle" ∧ yX3_empty.cls ≠ "java/lang/invoke/VarHandle" ∧ (parseMethodDescriptor yX3_empty.desc).map (fun d => d.parameters.length) = some 0 := by decide +kernel
abbrev rmX3_empty : Room := { frames := 0, cells := 0, slots := 0, locals := 0 }
set_option maxHeartbeats 20000000 in
set_option maxRecDepth 100000 in
theorem c_X3_empty (l : Launch) (D : va_G) (cI cJ : ClassId) (self : Nat) (a : Nat) (len : Int32) (sta : Int32) (pos : Int32) (kin : Int32) (fst : Int32) (snd : Int32) (don : Int32) (rea : Int32) (cau : Int32) (ch : Nat → Int32)  (r0 : Int32) (zlen : Int32) (hF : F_X3_empty len = some (r0, zlen)) (sz : Nat) : Met l yX3_empty (wz yX3_empty cX3_empty 2 (some .int)) rmX3_empty (kPw D cI cJ [(self, .inr (3, [.ref a, .int len, .int sta, .int pos, .int kin, .int fst, .int snd, .int don, .int rea, .int cau])), (a, .inl (cI, 60, .inl ch))] sz [.ref self]) (kQi D r0 [(self, .inr (3, [.ref a, .int zlen, .int sta, .int pos, .int kin, .int fst, .int snd, .int don, .int rea, .int cau])), (a, .inl (cI, 60, .inl ch))] (va_A [(self, .inr (3, [.ref a, .int len, .int sta, .int pos, .int kin, .int fst, .int snd, .int don, .int rea, .int cau])), (a, .inl (cI, 60, .inl ch))] sz)) 0 0 (va_A [(self, .inr (3, [.ref a, .int len, .int sta, .int pos, .int kin, .int fst, .int snd, .int don, .int rea, .int cau])), (a, .inl (cI, 60, .inl ch))] sz) := by
  refine kM_wi cX3_empty 2 .int (by decide +kernel) rfl rfl (Nat.le_of_ble_eq_true rfl) ⟨rfl, rfl⟩ ?_
  intro p e s m args below meth c Q A ls hx hb hml hown hts hP hK hD hA hS hl hret
  have hk622 := hts _ (List.mem_cons_of_mem _ wl622)
  have hnX3 : ∀ w ∈ u_ws RX3 TX3 10, w ∈ wz yX3_empty cX3_empty 2 (some .int) := fun w h => List.mem_cons_of_mem _ (inlX3 w h)
  replace hl : lv_has ls 2 [(0, .ref self)] := hl
  have h := hF
  unfold F_X3_empty at h
  refine lv_aload_n (pc := 0) hx hb dX3_empty_0 rfl (lv_at hl 0 rfl) ?_
  refine va_get (pc := 1) (D := D) (ci := 3) (v := .int len) (C := RX3) (T := TX3) (N := 10) hx hb hts hnX3 hown hK.1 hP 0 rfl rfl 1 (Nat.le_of_ble_eq_true rfl) hk622 (fun _ h9 => h9) rfl dX3_empty_1 ?_
  refine lv_istore_n (lv' := [(1, .int len), (0, .ref self)]) (pc := 4) hx hb dX3_empty_4 rfl hl (by decide) rfl (fun ls hl => ?_)
  refine lv_aload_n (pc := 5) hx hb dX3_empty_5 rfl (lv_at hl 1 rfl) ?_
  refine lv_iconst (v := 0) (pc := 6) hx hb dX3_empty_6 (by decide) ?_
  refine va_put (pc := 7) (D := D) (ci := 3) (v := .int (0 : Int32)) (ty := .int) (C := RX3) (T := TX3) (N := 10) hx hb hts hnX3 tyX3 tyX3_ok nmX3 hown hK.1 hP hD hS 0 rfl rfl 1 (Nat.le_of_ble_eq_true rfl) hk622 (fun _ h9 => h9) rfl (by decide +kernel) rfl rfl (Nat.le_of_ble_eq_true rfl) dX3_empty_7 (fun H locs hP hD hS => ?_)
  replace hP : va_P D vwCl [(self, .inr (3, [.ref a, .int (0 : Int32), .int sta, .int pos, .int kin, .int fst, .int snd, .int don, .int rea, .int cau])), (a, .inl (cI, 60, .inl ch))] H := hP
  replace hD : va_D A [(self, .inr (3, [.ref a, .int (0 : Int32), .int sta, .int pos, .int kin, .int fst, .int snd, .int don, .int rea, .int cau])), (a, .inl (cI, 60, .inl ch))] := hD
  refine lv_iload_n (pc := 10) hx hb dX3_empty_10 rfl (lv_at hl 0 rfl) ?_
  obtain ⟨e1, e2⟩ := am_ret2 h
  exact hret _ _ _ _ _ dX3_empty_11 rfl e1 (by rw [← e2]; exact hP) hS
theorem hdX3_ordersDone : yX3_ordersDone.cls ≠ "java/lang/invoke/MethodHandle" ∧ yX3_ordersDone.cls ≠ "java/lang/invoke/VarHandle" ∧ (parseMethodDescriptor yX3_ordersDone.desc).map (fun d => d.parameters.length) = some 0 := by decide +kernel
abbrev rmX3_ordersDone : Room := { frames := 0, cells := 0, slots := 0, locals := 0 }
set_option maxHeartbeats 20000000 in
set_option maxRecDepth 100000 in
theorem c_X3_ordersDone (l : Launch) (D : va_G) (cI cJ : ClassId) (self : Nat) (a : Nat) (len : Int32) (sta : Int32) (pos : Int32) (kin : Int32) (fst : Int32) (snd : Int32) (don : Int32) (rea : Int32) (cau : Int32) (ch : Nat → Int32)  (r0 : Int32) (hF : F_X3_ordersDone don = some r0) : Met l yX3_ordersDone (wz yX3_ordersDone cX3_ordersDone 1 (some .int)) rmX3_ordersDone (kPc D cI cJ [(self, .inr (3, [.ref a, .int len, .int sta, .int pos, .int kin, .int fst, .int snd, .int don, .int rea, .int cau])), (a, .inl (cI, 60, .inl ch))] [.ref self]) (vp_Si (fun r => r = r0)) 0 0 (fun _ => False) := by
  refine kM_ri cX3_ordersDone 1 .int (by decide +kernel) rfl rfl (Nat.le_of_ble_eq_true rfl) ⟨rfl, rfl⟩ ?_
  intro p e s m args below meth c Q ls hx hb hml hown hts hP hK hl hret
  have hk684 := hts _ (List.mem_cons_of_mem _ wl684)
  have hnX3 : ∀ w ∈ u_ws RX3 TX3 10, w ∈ wz yX3_ordersDone cX3_ordersDone 1 (some .int) := fun w h => List.mem_cons_of_mem _ (inlX3 w h)
  replace hl : lv_has ls 1 [(0, .ref self)] := hl
  have h := hF
  unfold F_X3_ordersDone at h
  refine lv_aload_n (pc := 0) hx hb dX3_ordersDone_0 rfl (lv_at hl 0 rfl) ?_
  refine va_get (pc := 1) (D := D) (ci := 3) (v := .int don) (C := RX3) (T := TX3) (N := 10) hx hb hts hnX3 hown hK.1 hP 0 rfl rfl 7 (Nat.le_of_ble_eq_true rfl) hk684 (fun _ h9 => h9) rfl dX3_ordersDone_1 ?_
  obtain e1 := am_ret1 h
  exact hret _ _ _ dX3_ordersDone_4 rfl e1
theorem hdX3_tellOfFault : yX3_tellOfFault.cls ≠ "java/lang/invoke/MethodHandle" ∧ yX3_tellOfFault.cls ≠ "java/lang/invoke/VarHandle" ∧ (parseMethodDescriptor yX3_tellOfFault.desc).map (fun d => d.parameters.length) = some 1 := by decide +kernel
abbrev rmX3_tellOfFault : Room := { frames := 0, cells := 0, slots := 0, locals := 0 }
set_option maxHeartbeats 20000000 in
set_option maxRecDepth 100000 in
theorem c_X3_tellOfFault (l : Launch) (D : va_G) (cI cJ : ClassId) (self : Nat) (a : Nat) (len : Int32) (sta : Int32) (pos : Int32) (kin : Int32) (fst : Int32) (snd : Int32) (don : Int32) (rea : Int32) (cau : Int32) (ch : Nat → Int32) (p0 : Int32) (r0 : Int32) (hF : F_X3_tellOfFault sta rea cau p0 = some r0) : Met l yX3_tellOfFault (wz yX3_tellOfFault cX3_tellOfFault 2 (some .int)) rmX3_tellOfFault (kPc D cI cJ [(self, .inr (3, [.ref a, .int len, .int sta, .int pos, .int kin, .int fst, .int snd, .int don, .int rea, .int cau])), (a, .inl (cI, 60, .inl ch))] [.ref self, .int p0]) (vp_Si (fun r => r = r0)) 0 0 (fun _ => False) := by
  refine kM_ri cX3_tellOfFault 2 .int (by decide +kernel) rfl rfl (Nat.le_of_ble_eq_true rfl) ⟨rfl, rfl⟩ ?_
  intro p e s m args below meth c Q ls hx hb hml hown hts hP hK hl hret
  have hk685 := hts _ (List.mem_cons_of_mem _ wl685)
  have hk686 := hts _ (List.mem_cons_of_mem _ wl686)
  have hk687 := hts _ (List.mem_cons_of_mem _ wl687)
  have hnX3 : ∀ w ∈ u_ws RX3 TX3 10, w ∈ wz yX3_tellOfFault cX3_tellOfFault 2 (some .int) := fun w h => List.mem_cons_of_mem _ (inlX3 w h)
  replace hl : lv_has ls 2 [(0, .ref self), (1, .int p0)] := hl
  have h := hF
  unfold F_X3_tellOfFault at h
  refine lv_iload_n (pc := 0) hx hb dX3_tellOfFault_0 rfl (lv_at hl 1 rfl) ?_
  by_cases cc : p0 = (0 : Int32)
  · replace h := am_t cc h
    refine lv_lookup (pc := 1) (tgt := 28) hx hb dX3_tellOfFault_1 rfl (by rw [cc] <;> rfl) (by decide) ?_
    refine lv_aload_n (pc := 28) hx hb dX3_tellOfFault_28 rfl (lv_at hl 0 rfl) ?_
    refine va_get (pc := 29) (D := D) (ci := 3) (v := .int sta) (C := RX3) (T := TX3) (N := 10) hx hb hts hnX3 hown hK.1 hP 0 rfl rfl 2 (Nat.le_of_ble_eq_true rfl) hk685 (fun _ h9 => h9) rfl dX3_tellOfFault_29 ?_
    obtain e1 := am_ret1 h
    exact hret _ _ _ dX3_tellOfFault_32 rfl e1
  replace h := am_f cc h
  have n0 := cc
  by_cases cc : p0 = (1 : Int32)
  · replace h := am_t cc h
    refine lv_lookup (pc := 1) (tgt := 33) hx hb dX3_tellOfFault_1 rfl (by rw [cc] <;> rfl) (by decide) ?_
    refine lv_aload_n (pc := 33) hx hb dX3_tellOfFault_33 rfl (lv_at hl 0 rfl) ?_
    refine va_get (pc := 34) (D := D) (ci := 3) (v := .int rea) (C := RX3) (T := TX3) (N := 10) hx hb hts hnX3 hown hK.1 hP 0 rfl rfl 8 (Nat.le_of_ble_eq_true rfl) hk686 (fun _ h9 => h9) rfl dX3_tellOfFault_34 ?_
    obtain e1 := am_ret1 h
    exact hret _ _ _ dX3_tellOfFault_37 rfl e1
  replace h := am_f cc h
  have n1 := cc
  refine lv_lookup (pc := 1) (tgt := 38) hx hb dX3_tellOfFault_1 rfl (am_look_X3_tellOfFault_1 n0 n1) (by decide) ?_
  refine lv_aload_n (pc := 38) hx hb dX3_tellOfFault_38 rfl (lv_at hl 0 rfl) ?_
  refine va_get (pc := 39) (D := D) (ci := 3) (v := .int cau) (C := RX3) (T := TX3) (N := 10) hx hb hts hnX3 hown hK.1 hP 0 rfl rfl 9 (Nat.le_of_ble_eq_true rfl) hk687 (fun _ h9 => h9) rfl dX3_tellOfFault_39 ?_
  obtain e1 := am_ret1 h
  exact hret _ _ _ dX3_tellOfFault_42 rfl e1
theorem hdX3_here : yX3_here.cls ≠ "java/lang/invoke/MethodHandle" ∧ yX3_here.cls ≠ "java/lang/invoke/VarHandle" ∧ (parseMethodDescriptor yX3_here.desc).map (fun d => d.parameters.length) = some 0 := by decide +kernel
abbrev rmX3_here : Room := { frames := 0, cells := 0, slots := 0, locals := 0 }
set_option maxHeartbeats 20000000 in
set_option maxRecDepth 100000 in
theorem c_X3_here (l : Launch) (D : va_G) (cI cJ : ClassId) (self : Nat) (a : Nat) (len : Int32) (sta : Int32) (pos : Int32) (kin : Int32) (fst : Int32) (snd : Int32) (don : Int32) (rea : Int32) (cau : Int32) (ch : Nat → Int32)  (r0 : Int32) (hF : F_X3_here len pos ch = some r0) : Met l yX3_here (wz yX3_here cX3_here 1 (some .int)) rmX3_here (kPc D cI cJ [(self, .inr (3, [.ref a, .int len, .int sta, .int pos, .int kin, .int fst, .int snd, .int don, .int rea, .int cau])), (a, .inl (cI, 60, .inl ch))] [.ref self]) (vp_Si (fun r => r = r0)) 0 0 (fun _ => False) := by
  refine kM_ri cX3_here 1 .int (by decide +kernel) rfl rfl (Nat.le_of_ble_eq_true rfl) ⟨rfl, rfl⟩ ?_
  intro p e s m args below meth c Q ls hx hb hml hown hts hP hK hl hret
  have hk116 := hts _ (List.mem_cons_of_mem _ wl116)
  have hk622 := hts _ (List.mem_cons_of_mem _ wl622)
  have hk683 := hts _ (List.mem_cons_of_mem _ wl683)
  have hnX3 : ∀ w ∈ u_ws RX3 TX3 10, w ∈ wz yX3_here cX3_here 1 (some .int) := fun w h => List.mem_cons_of_mem _ (inlX3 w h)
  replace hl : lv_has ls 1 [(0, .ref self)] := hl
  have h := hF
  unfold F_X3_here at h
  refine lv_aload_n (pc := 0) hx hb dX3_here_0 rfl (lv_at hl 0 rfl) ?_
  refine va_get (pc := 1) (D := D) (ci := 3) (v := .int pos) (C := RX3) (T := TX3) (N := 10) hx hb hts hnX3 hown hK.1 hP 0 rfl rfl 3 (Nat.le_of_ble_eq_true rfl) hk683 (fun _ h9 => h9) rfl dX3_here_1 ?_
  refine lv_if_lt (pc := 4) (tgt := 30) hx hb dX3_here_4 (by decide) (fun cc => ?_) (fun cc => ?_)
  · replace h := am_t cc h
    refine lv_iconst (v := 0) (pc := 30) hx hb dX3_here_30 (by decide) ?_
    obtain e1 := am_ret1 h
    exact hret _ _ _ dX3_here_31 rfl e1
  replace h := am_f cc h
  refine lv_aload_n (pc := 7) hx hb dX3_here_7 rfl (lv_at hl 0 rfl) ?_
  refine va_get (pc := 8) (D := D) (ci := 3) (v := .int pos) (C := RX3) (T := TX3) (N := 10) hx hb hts hnX3 hown hK.1 hP 0 rfl rfl 3 (Nat.le_of_ble_eq_true rfl) hk683 (fun _ h9 => h9) rfl dX3_here_8 ?_
  refine lv_aload_n (pc := 11) hx hb dX3_here_11 rfl (lv_at hl 0 rfl) ?_
  refine va_get (pc := 12) (D := D) (ci := 3) (v := .int len) (C := RX3) (T := TX3) (N := 10) hx hb hts hnX3 hown hK.1 hP 0 rfl rfl 1 (Nat.le_of_ble_eq_true rfl) hk622 (fun _ h9 => h9) rfl dX3_here_12 ?_
  refine lv_icmp_ge (pc := 15) (tgt := 30) hx hb dX3_here_15 (by decide) (fun cc => ?_) (fun cc => ?_)
  · replace h := am_t cc h
    refine lv_iconst (v := 0) (pc := 30) hx hb dX3_here_30 (by decide) ?_
    obtain e1 := am_ret1 h
    exact hret _ _ _ dX3_here_31 rfl e1
  replace h := am_f cc h
  refine lv_aload_n (pc := 18) hx hb dX3_here_18 rfl (lv_at hl 0 rfl) ?_
  refine va_get (pc := 19) (D := D) (ci := 3) (v := .int pos) (C := RX3) (T := TX3) (N := 10) hx hb hts hnX3 hown hK.1 hP 0 rfl rfl 3 (Nat.le_of_ble_eq_true rfl) hk683 (fun _ h9 => h9) rfl dX3_here_19 ?_
  refine lv_aload_n (pc := 22) hx hb dX3_here_22 rfl (lv_at hl 0 rfl) ?_
  refine va_get (pc := 23) (D := D) (ci := 3) (v := .ref a) (C := RX3) (T := TX3) (N := 10) hx hb hts hnX3 hown hK.1 hP 0 rfl rfl 0 (Nat.le_of_ble_eq_true rfl) hk116 (fun _ h9 => h9) rfl dX3_here_23 ?_
  refine va_alen (pc := 26) (v := (60 : Int32)) hx hb hK.1 hP 1 0 rfl rfl rfl dX3_here_26 ?_
  refine lv_icmp_lt (pc := 27) (tgt := 32) hx hb dX3_here_27 (by decide) (fun cc => ?_) (fun cc => ?_)
  · replace h := am_t cc h
    refine lv_aload_n (pc := 32) hx hb dX3_here_32 rfl (lv_at hl 0 rfl) ?_
    refine va_get (pc := 33) (D := D) (ci := 3) (v := .ref a) (C := RX3) (T := TX3) (N := 10) hx hb hts hnX3 hown hK.1 hP 0 rfl rfl 0 (Nat.le_of_ble_eq_true rfl) hk116 (fun _ h9 => h9) rfl dX3_here_33 ?_
    refine lv_aload_n (pc := 36) hx hb dX3_here_36 rfl (lv_at hl 0 rfl) ?_
    refine va_get (pc := 37) (D := D) (ci := 3) (v := .int pos) (C := RX3) (T := TX3) (N := 10) hx hb hts hnX3 hown hK.1 hP 0 rfl rfl 3 (Nat.le_of_ble_eq_true rfl) hk683 (fun _ h9 => h9) rfl dX3_here_37 ?_
    obtain ⟨hi, h⟩ := am_in_s h
    refine va_iald (pc := 40) hx hb hK.1 hP 1 0 rfl rfl hi dX3_here_40 ?_
    obtain e1 := am_ret1 h
    exact hret _ _ _ dX3_here_41 rfl e1
  replace h := am_f cc h
  refine lv_iconst (v := 0) (pc := 30) hx hb dX3_here_30 (by decide) ?_
  obtain e1 := am_ret1 h
  exact hret _ _ _ dX3_here_31 rfl e1
theorem hdX3_pass : yX3_pass.cls ≠ "java/lang/invoke/MethodHandle" ∧ yX3_pass.cls ≠ "java/lang/invoke/VarHandle" ∧ (parseMethodDescriptor yX3_pass.desc).map (fun d => d.parameters.length) = some 1 := by decide +kernel
abbrev rmX3_pass : Room := { frames := 1, cells := 0, slots := 0, locals := 20 }
set_option maxHeartbeats 20000000 in
set_option maxRecDepth 100000 in
theorem c_X3_pass (l : Launch) (D : va_G) (cI cJ : ClassId) (self : Nat) (a : Nat) (len : Int32) (sta : Int32) (pos : Int32) (kin : Int32) (fst : Int32) (snd : Int32) (don : Int32) (rea : Int32) (cau : Int32) (ch : Nat → Int32) (p0 : Int32) (r0 : Int32) (zpos : Int32) (hF : F_X3_pass len pos ch p0 = some (r0, zpos)) (sz : Nat) : Met l yX3_pass (wz yX3_pass cX3_pass 2 (some .boolean)) rmX3_pass (kPw D cI cJ [(self, .inr (3, [.ref a, .int len, .int sta, .int pos, .int kin, .int fst, .int snd, .int don, .int rea, .int cau])), (a, .inl (cI, 60, .inl ch))] sz [.ref self, .int p0]) (kQi D r0 [(self, .inr (3, [.ref a, .int len, .int sta, .int zpos, .int kin, .int fst, .int snd, .int don, .int rea, .int cau])), (a, .inl (cI, 60, .inl ch))] (va_A [(self, .inr (3, [.ref a, .int len, .int sta, .int pos, .int kin, .int fst, .int snd, .int don, .int rea, .int cau])), (a, .inl (cI, 60, .inl ch))] sz)) 0 0 (va_A [(self, .inr (3, [.ref a, .int len, .int sta, .int pos, .int kin, .int fst, .int snd, .int don, .int rea, .int cau])), (a, .inl (cI, 60, .inl ch))] sz) := by
  refine kM_wi cX3_pass 2 .boolean (by decide +kernel) rfl rfl (Nat.le_of_ble_eq_true rfl) ⟨rfl, rfl⟩ ?_
  intro p e s m args below meth c Q A ls hx hb hml hown hts hP hK hD hA hS hl hret
  have hk683 := hts _ (List.mem_cons_of_mem _ wl683)
  have hnX3 : ∀ w ∈ u_ws RX3 TX3 10, w ∈ wz yX3_pass cX3_pass 2 (some .boolean) := fun w h => List.mem_cons_of_mem _ (inlX3 w h)
  replace hl : lv_has ls 2 [(0, .ref self), (1, .int p0)] := hl
  have h := hF
  unfold F_X3_pass at h
  refine lv_aload_n (pc := 0) hx hb dX3_pass_0 rfl (lv_at hl 0 rfl) ?_
  obtain ⟨r1, hc1, h⟩ := am_bind_s h
  refine kc_Vi (pc := 1) (ci := 3) ⟨hx, hb, hml, hown, hts⟩ hP hK [] (c_X3_here l D cI cJ self a len sta pos kin fst snd don rea cau ch r1 hc1) [0, 1] rfl (cwV 0 hts (gzV wl695 wl696 wl697 wl27 wl698) rfl rfl rfl ⟨rfl, hdX3_here⟩ ⟨Nat.le_of_ble_eq_true rfl, Nat.le_of_ble_eq_true rfl⟩) rfl rfl [] rfl hl.1 rfl (Nat.le_of_ble_eq_true rfl) dX3_pass_1 ⟨Nat.zero_le _, Nat.zero_le _⟩ ?_
  refine lv_iload_n (pc := 4) hx hb dX3_pass_4 rfl (lv_at hl 1 rfl) ?_
  refine lv_icmp_eq (pc := 5) (tgt := 10) hx hb dX3_pass_5 (by decide) (fun cc => ?_) (fun cc => ?_)
  · replace h := am_t cc h
    refine lv_aload_n (pc := 10) hx hb dX3_pass_10 rfl (lv_at hl 0 rfl) ?_
    refine lv_dup (pc := 11) hx hb dX3_pass_11 rfl ?_
    refine va_get (pc := 12) (D := D) (ci := 3) (v := .int pos) (C := RX3) (T := TX3) (N := 10) hx hb hts hnX3 hown hK.1 hP 0 rfl rfl 3 (Nat.le_of_ble_eq_true rfl) hk683 (fun _ h9 => h9) rfl dX3_pass_12 ?_
    refine lv_iconst (v := 1) (pc := 15) hx hb dX3_pass_15 (by decide) ?_
    refine lv_iadd (pc := 16) hx hb dX3_pass_16 ?_
    refine lv_topi (fun x2 ex2 => ?_)
    replace h := am_let_s ex2 h
    refine va_put (pc := 17) (D := D) (ci := 3) (v := .int x2) (ty := .int) (C := RX3) (T := TX3) (N := 10) hx hb hts hnX3 tyX3 tyX3_ok nmX3 hown hK.1 hP hD hS 0 rfl rfl 3 (Nat.le_of_ble_eq_true rfl) hk683 (fun _ h9 => h9) rfl (by decide +kernel) rfl rfl (Nat.le_of_ble_eq_true rfl) dX3_pass_17 (fun H locs hP hD hS => ?_)
    replace hP : va_P D vwCl [(self, .inr (3, [.ref a, .int len, .int sta, .int x2, .int kin, .int fst, .int snd, .int don, .int rea, .int cau])), (a, .inl (cI, 60, .inl ch))] H := hP
    replace hD : va_D A [(self, .inr (3, [.ref a, .int len, .int sta, .int x2, .int kin, .int fst, .int snd, .int don, .int rea, .int cau])), (a, .inl (cI, 60, .inl ch))] := hD
    refine lv_iconst (v := 1) (pc := 20) hx hb dX3_pass_20 (by decide) ?_
    obtain ⟨e1, e2⟩ := am_ret2 h
    exact hret _ _ _ _ _ dX3_pass_21 rfl e1 (by rw [← e2]; exact hP) hS
  replace h := am_f cc h
  refine lv_iconst (v := 0) (pc := 8) hx hb dX3_pass_8 (by decide) ?_
  obtain ⟨e1, e2⟩ := am_ret2 h
  exact hret _ _ _ _ _ dX3_pass_9 rfl e1 (by rw [← e2]; exact hP) hS
theorem hdX3_isDigitHere : yX3_isDigitHere.cls ≠ "java/lang/invoke/MethodHandle" ∧ yX3_isDigitHere.cls ≠ "java/lang/invoke/VarHandle" ∧ (parseMethodDescriptor yX3_isDigitHere.desc).map (fun d => d.parameters.length) = some 0 := by decide +kernel
abbrev rmX3_isDigitHere : Room := { frames := 1, cells := 0, slots := 0, locals := 22 }
set_option maxHeartbeats 20000000 in
set_option maxRecDepth 100000 in
theorem c_X3_isDigitHere (l : Launch) (D : va_G) (cI cJ : ClassId) (self : Nat) (a : Nat) (len : Int32) (sta : Int32) (pos : Int32) (kin : Int32) (fst : Int32) (snd : Int32) (don : Int32) (rea : Int32) (cau : Int32) (ch : Nat → Int32)  (r0 : Int32) (hF : F_X3_isDigitHere len pos ch = some r0) : Met l yX3_isDigitHere (wz yX3_isDigitHere cX3_isDigitHere 1 (some .boolean)) rmX3_isDigitHere (kPc D cI cJ [(self, .inr (3, [.ref a, .int len, .int sta, .int pos, .int kin, .int fst, .int snd, .int don, .int rea, .int cau])), (a, .inl (cI, 60, .inl ch))] [.ref self]) (vp_Si (fun r => r = r0)) 0 0 (fun _ => False) := by
  refine kM_ri cX3_isDigitHere 1 .boolean (by decide +kernel) rfl rfl (Nat.le_of_ble_eq_true rfl) ⟨rfl, rfl⟩ ?_
  intro p e s m args below meth c Q ls hx hb hml hown hts hP hK hl hret
  have hk161 := hts _ (List.mem_cons_of_mem _ wl161)
  have hk2 := hts _ (List.mem_cons_of_mem _ wl2)
  replace hl : lv_has ls 1 [(0, .ref self)] := hl
  have h := hF
  unfold F_X3_isDigitHere at h
  refine lv_aload_n (pc := 0) hx hb dX3_isDigitHere_0 rfl (lv_at hl 0 rfl) ?_
  obtain ⟨r1, hc1, h⟩ := am_bind_s h
  refine kc_Vi (pc := 1) (ci := 3) ⟨hx, hb, hml, hown, hts⟩ hP hK [] (c_X3_here l D cI cJ self a len sta pos kin fst snd don rea cau ch r1 hc1) [0, 1] rfl (cwV 0 hts (gzV wl695 wl696 wl697 wl27 wl698) rfl rfl rfl ⟨rfl, hdX3_here⟩ ⟨Nat.le_of_ble_eq_true rfl, Nat.le_of_ble_eq_true rfl⟩) rfl rfl [] rfl hl.1 rfl (Nat.le_of_ble_eq_true rfl) dX3_isDigitHere_1 ⟨Nat.zero_le _, Nat.zero_le _⟩ ?_
  refine lv_bipush (v := 48) (pc := 4) hx hb dX3_isDigitHere_4 (by decide) ?_
  refine lv_bipush (v := 57) (pc := 6) hx hb dX3_isDigitHere_6 (by decide) ?_
  obtain ⟨r2, hc2, h⟩ := am_bind_s h
  refine kc_Ni (pc := 8) ⟨hx, hb, hml, hown, hts⟩ hP hK [.int r1, .int (48 : Int32), .int (57 : Int32)] (c_X6_isWithin l D cI cJ r1 (48 : Int32) (57 : Int32) r2 hc2) [] rfl ⟨va_cnB 3 hts (gzN wl162) rfl rfl rfl hK.2.2.2.2.2.2.2.2.1 hk2 hdX6_isWithin ⟨Nat.le_of_ble_eq_true rfl, Nat.le_of_ble_eq_true rfl⟩, hk161, trivial⟩ [] rfl hl.1 rfl (Nat.le_of_ble_eq_true rfl) dX3_isDigitHere_8 ⟨Nat.zero_le _, Nat.zero_le _⟩ ?_
  obtain ⟨hbo, h⟩ := am_bool_s h
  obtain e1 := am_ret1 h
  exact hret _ _ _ dX3_isDigitHere_11 (am_bool_n hbo) e1
theorem hdX3_readNumber : yX3_readNumber.cls ≠ "java/lang/invoke/MethodHandle" ∧ yX3_readNumber.cls ≠ "java/lang/invoke/VarHandle" ∧ (parseMethodDescriptor yX3_readNumber.desc).map (fun d => d.parameters.length) = some 0 := by decide +kernel
abbrev rmX3_readNumber : Room := { frames := 2, cells := 0, slots := 0, locals := 42 }
set_option maxHeartbeats 20000000 in
set_option maxRecDepth 100000 in
theorem c_X3_readNumber (l : Launch) (D : va_G) (cI cJ : ClassId) (self : Nat) (a : Nat) (len : Int32) (sta : Int32) (pos : Int32) (kin : Int32) (fst : Int32) (snd : Int32) (don : Int32) (rea : Int32) (cau : Int32) (ch : Nat → Int32)  (r0 : Int32) (zpos : Int32) (hF : F_X3_readNumber len pos ch = some (r0, zpos)) (sz : Nat) : Met l yX3_readNumber (wz yX3_readNumber cX3_readNumber 3 (some .int)) rmX3_readNumber (kPw D cI cJ [(self, .inr (3, [.ref a, .int len, .int sta, .int pos, .int kin, .int fst, .int snd, .int don, .int rea, .int cau])), (a, .inl (cI, 60, .inl ch))] sz [.ref self]) (kQi D r0 [(self, .inr (3, [.ref a, .int len, .int sta, .int zpos, .int kin, .int fst, .int snd, .int don, .int rea, .int cau])), (a, .inl (cI, 60, .inl ch))] (va_A [(self, .inr (3, [.ref a, .int len, .int sta, .int pos, .int kin, .int fst, .int snd, .int don, .int rea, .int cau])), (a, .inl (cI, 60, .inl ch))] sz)) 0 0 (va_A [(self, .inr (3, [.ref a, .int len, .int sta, .int pos, .int kin, .int fst, .int snd, .int don, .int rea, .int cau])), (a, .inl (cI, 60, .inl ch))] sz) := by
  refine kM_wi cX3_readNumber 3 .int (by decide +kernel) rfl rfl (Nat.le_of_ble_eq_true rfl) ⟨rfl, rfl⟩ ?_
  intro p e s m args below meth c Q A ls hx hb hml hown hts hP hK hD hA hS hl hret
  have hk683 := hts _ (List.mem_cons_of_mem _ wl683)
  have hnX3 : ∀ w ∈ u_ws RX3 TX3 10, w ∈ wz yX3_readNumber cX3_readNumber 3 (some .int) := fun w h => List.mem_cons_of_mem _ (inlX3 w h)
  replace hl : lv_has ls 3 [(0, .ref self)] := hl
  have h := hF
  unfold F_X3_readNumber at h
  refine lv_iconst (v := 0) (pc := 0) hx hb dX3_readNumber_0 (by decide) ?_
  refine lv_istore_n (lv' := [(1, .int (0 : Int32)), (0, .ref self)]) (pc := 1) hx hb dX3_readNumber_1 rfl hl (by decide) rfl (fun ls hl => ?_)
  refine lv_iconst (v := 0) (pc := 2) hx hb dX3_readNumber_2 (by decide) ?_
  refine lv_istore_n (lv' := [(2, .int (0 : Int32)), (1, .int (0 : Int32)), (0, .ref self)]) (pc := 3) hx hb dX3_readNumber_3 rfl hl (by decide) rfl (fun ls hl => ?_)
  refine am_join2_s (fun (x1 : Int32) (u2 : Int32) => ∀ (ls : Array Slot), lv_has ls 3 [(1, .int x1)] → ∀ (H : Heap) (locs : List Loc), va_P D vwCl [(self, .inr (3, [.ref a, .int len, .int sta, .int u2, .int kin, .int fst, .int snd, .int don, .int rea, .int cau])), (a, .inl (cI, 60, .inl ch))] H → va_D A [(self, .inr (3, [.ref a, .int len, .int sta, .int u2, .int kin, .int fst, .int snd, .int don, .int rea, .int cau])), (a, .inl (cI, 60, .inl ch))] → va_S A s.heap H locs → W p l e rmX3_readNumber s m args below meth c H locs 0 0 Q (F0 m 45 ls [])) h (fun x1 u2 h ls hl H locs hP hD hS => ?_) (fun K3 hK3 h => ?_)
  · refine lv_iload_n (pc := 45) hx hb dX3_readNumber_45 rfl (lv_at hl 0 rfl) ?_
    obtain ⟨e1, e2⟩ := am_ret2 h
    exact hret _ _ _ _ _ dX3_readNumber_46 rfl e1 (by rw [← e2]; exact hP) hS
  refine am_loop3_s (fun (x4 : Int32) (x5 : Int32) (u6 : Int32) => ∀ (ls : Array Slot), lv_has ls 3 [(0, .ref self), (1, .int x4), (2, .int x5)] → ∀ (H : Heap) (locs : List Loc), va_P D vwCl [(self, .inr (3, [.ref a, .int len, .int sta, .int u6, .int kin, .int fst, .int snd, .int don, .int rea, .int cau])), (a, .inl (cI, 60, .inl ch))] H → va_D A [(self, .inr (3, [.ref a, .int len, .int sta, .int u6, .int kin, .int fst, .int snd, .int don, .int rea, .int cau])), (a, .inl (cI, 60, .inl ch))] → va_S A s.heap H locs → W p l e rmX3_readNumber s m args below meth c H locs 0 0 Q (F0 m 4 ls [])) (fun rec7 ihrec7 x4 x5 u6 h ls hl H locs hP hD hS => ?_) _ _ _ _ h ls (lv_sub hl [2, 1, 0] rfl) s.heap [] hP hD hS
  unfold F_X3_readNumber_B4 at h
  refine lv_iload_n (pc := 4) hx hb dX3_readNumber_4 rfl (lv_at hl 2 rfl) ?_
  refine lv_iconst (v := 2) (pc := 5) hx hb dX3_readNumber_5 (by decide) ?_
  refine lv_icmp_ge (pc := 6) (tgt := 45) hx hb dX3_readNumber_6 (by decide) (fun cc => ?_) (fun cc => ?_)
  · replace h := am_t cc h
    exact hK3 _ _ h ls (lv_sub hl [1] rfl) H locs hP hD hS
  replace h := am_f cc h
  refine lv_aload_n (pc := 9) hx hb dX3_readNumber_9 rfl (lv_at hl 0 rfl) ?_
  obtain ⟨r8, hc8, h⟩ := am_bind_s h
  refine kc_Vi (pc := 10) (ci := 3) ⟨hx, hb, hml, hown, hts⟩ hP hK [] (c_X3_isDigitHere l D cI cJ self a len sta u6 kin fst snd don rea cau ch r8 hc8) [0, 1] rfl (cwV 0 hts (gzV wl707 wl708 wl709 wl27 wl710) rfl rfl rfl ⟨rfl, hdX3_isDigitHere⟩ ⟨Nat.le_of_ble_eq_true rfl, Nat.le_of_ble_eq_true rfl⟩) rfl rfl [] rfl hl.1 rfl (Nat.le_of_ble_eq_true rfl) dX3_readNumber_10 ⟨Nat.zero_le _, Nat.zero_le _⟩ ?_
  refine lv_if_eq (pc := 13) (tgt := 45) hx hb dX3_readNumber_13 (by decide) (fun cc => ?_) (fun cc => ?_)
  · replace h := am_t cc h
    exact hK3 _ _ h ls (lv_sub hl [1] rfl) H locs hP hD hS
  replace h := am_f cc h
  refine lv_iload_n (pc := 16) hx hb dX3_readNumber_16 rfl (lv_at hl 1 rfl) ?_
  refine lv_bipush (v := 10) (pc := 17) hx hb dX3_readNumber_17 (by decide) ?_
  refine lv_imul (pc := 19) hx hb dX3_readNumber_19 ?_
  refine lv_aload_n (pc := 20) hx hb dX3_readNumber_20 rfl (lv_at hl 0 rfl) ?_
  obtain ⟨r9, hc9, h⟩ := am_bind_s h
  refine kc_Vi (pc := 21) (ci := 3) ⟨hx, hb, hml, hown, hts⟩ hP hK [] (c_X3_here l D cI cJ self a len sta u6 kin fst snd don rea cau ch r9 hc9) [0, 1] rfl (cwV 0 hts (gzV wl695 wl696 wl697 wl27 wl698) rfl rfl rfl ⟨rfl, hdX3_here⟩ ⟨Nat.le_of_ble_eq_true rfl, Nat.le_of_ble_eq_true rfl⟩) rfl rfl [.int (x4 * (10 : Int32))] rfl hl.1 rfl (Nat.le_of_ble_eq_true rfl) dX3_readNumber_21 ⟨Nat.zero_le _, Nat.zero_le _⟩ ?_
  refine lv_iadd (pc := 24) hx hb dX3_readNumber_24 ?_
  refine lv_bipush (v := 48) (pc := 25) hx hb dX3_readNumber_25 (by decide) ?_
  refine lv_isub (pc := 27) hx hb dX3_readNumber_27 ?_
  refine lv_topi (fun x10 ex10 => ?_)
  replace h := am_let_s ex10 h
  refine lv_istore_n (lv' := [(1, .int x10), (0, .ref self), (2, .int x5)]) (pc := 28) hx hb dX3_readNumber_28 rfl hl (by decide) rfl (fun ls hl => ?_)
  refine lv_aload_n (pc := 29) hx hb dX3_readNumber_29 rfl (lv_at hl 1 rfl) ?_
  refine lv_dup (pc := 30) hx hb dX3_readNumber_30 rfl ?_
  refine va_get (pc := 31) (D := D) (ci := 3) (v := .int u6) (C := RX3) (T := TX3) (N := 10) hx hb hts hnX3 hown hK.1 hP 0 rfl rfl 3 (Nat.le_of_ble_eq_true rfl) hk683 (fun _ h9 => h9) rfl dX3_readNumber_31 ?_
  refine lv_iconst (v := 1) (pc := 34) hx hb dX3_readNumber_34 (by decide) ?_
  refine lv_iadd (pc := 35) hx hb dX3_readNumber_35 ?_
  refine lv_topi (fun x11 ex11 => ?_)
  replace h := am_let_s ex11 h
  refine va_put (pc := 36) (D := D) (ci := 3) (v := .int x11) (ty := .int) (C := RX3) (T := TX3) (N := 10) hx hb hts hnX3 tyX3 tyX3_ok nmX3 hown hK.1 hP hD hS 0 rfl rfl 3 (Nat.le_of_ble_eq_true rfl) hk683 (fun _ h9 => h9) rfl (by decide +kernel) rfl rfl (Nat.le_of_ble_eq_true rfl) dX3_readNumber_36 (fun H locs hP hD hS => ?_)
  replace hP : va_P D vwCl [(self, .inr (3, [.ref a, .int len, .int sta, .int x11, .int kin, .int fst, .int snd, .int don, .int rea, .int cau])), (a, .inl (cI, 60, .inl ch))] H := hP
  replace hD : va_D A [(self, .inr (3, [.ref a, .int len, .int sta, .int x11, .int kin, .int fst, .int snd, .int don, .int rea, .int cau])), (a, .inl (cI, 60, .inl ch))] := hD
  obtain ⟨x12, ex12⟩ : ∃ y : Int32, y = (x5 + (1 : Int32)) := ⟨_, rfl⟩
  replace h := am_let_s ex12 h
  refine lv_iinc (pc := 39) (v := x12) (lv' := [(2, .int x12), (1, .int x10), (0, .ref self)]) hx hb dX3_readNumber_39 hl (k := 2) rfl (by rw [ex12]; rfl) (by decide) rfl (fun ls hl => ?_)
  refine lv_goto (pc := 42) (tgt := 4) hx hb dX3_readNumber_42 (by decide) ?_
  exact ihrec7 _ _ _ h ls (lv_sub hl [2, 1, 0] rfl) H locs hP hD hS
theorem hdX3_readNumbers : yX3_readNumbers.cls ≠ "java/lang/invoke/MethodHandle" ∧ yX3_readNumbers.cls ≠ "java/lang/invoke/VarHandle" ∧ (parseMethodDescriptor yX3_readNumbers.desc).map (fun d => d.parameters.length) = some 0 := by decide +kernel
abbrev rmX3_readNumbers : Room := { frames := 3, cells := 0, slots := 0, locals := 64 }
set_option maxHeartbeats 20000000 in
set_option maxRecDepth 100000 in
theorem c_X3_readNumbers (l : Launch) (D : va_G) (cI cJ : ClassId) (self : Nat) (a : Nat) (len : Int32) (sta : Int32) (pos : Int32) (kin : Int32) (fst : Int32) (snd : Int32) (don : Int32) (rea : Int32) (cau : Int32) (ch : Nat → Int32)  (r0 : Int32) (zpos : Int32) (zfst : Int32) (zsnd : Int32) (hF : F_X3_readNumbers len pos kin fst snd ch = some (r0, zpos, zfst, zsnd)) (sz : Nat) : Met l yX3_readNumbers (wz yX3_readNumbers cX3_readNumbers 3 (some .boolean)) rmX3_readNumbers (kPw D cI cJ [(self, .inr (3, [.ref a, .int len, .int sta, .int pos, .int kin, .int fst, .int snd, .int don, .int rea, .int cau])), (a, .inl (cI, 60, .inl ch))] sz [.ref self]) (kQi D r0 [(self, .inr (3, [.ref a, .int len, .int sta, .int zpos, .int kin, .int zfst, .int zsnd, .int don, .int rea, .int cau])), (a, .inl (cI, 60, .inl ch))] (va_A [(self, .inr (3, [.ref a, .int len, .int sta, .int pos, .int kin, .int fst, .int snd, .int don, .int rea, .int cau])), (a, .inl (cI, 60, .inl ch))] sz)) 0 0 (va_A [(self, .inr (3, [.ref a, .int len, .int sta, .int pos, .int kin, .int fst, .int snd, .int don, .int rea, .int cau])), (a, .inl (cI, 60, .inl ch))] sz) := by
  refine kM_wi cX3_readNumbers 3 .boolean (by decide +kernel) rfl rfl (Nat.le_of_ble_eq_true rfl) ⟨rfl, rfl⟩ ?_
  intro p e s m args below meth c Q A ls hx hb hml hown hts hP hK hD hA hS hl hret
  have hk688 := hts _ (List.mem_cons_of_mem _ wl688)
  have hk689 := hts _ (List.mem_cons_of_mem _ wl689)
  have hk690 := hts _ (List.mem_cons_of_mem _ wl690)
  have hnX3 : ∀ w ∈ u_ws RX3 TX3 10, w ∈ wz yX3_readNumbers cX3_readNumbers 3 (some .boolean) := fun w h => List.mem_cons_of_mem _ (inlX3 w h)
  replace hl : lv_has ls 3 [(0, .ref self)] := hl
  have h := hF
  unfold F_X3_readNumbers at h
  refine lv_aload_n (pc := 0) hx hb dX3_readNumbers_0 rfl (lv_at hl 0 rfl) ?_
  refine va_get (pc := 1) (D := D) (ci := 3) (v := .int kin) (C := RX3) (T := TX3) (N := 10) hx hb hts hnX3 hown hK.1 hP 0 rfl rfl 4 (Nat.le_of_ble_eq_true rfl) hk688 (fun _ h9 => h9) rfl dX3_readNumbers_1 ?_
  refine lv_bipush (v := 109) (pc := 4) hx hb dX3_readNumbers_4 (by decide) ?_
  refine am_join2_s (fun (j1 : Int32) (u2 : Int32) => ∀ (ls : Array Slot), lv_has ls 3 [(0, .ref self)] → ∀ (H : Heap) (locs : List Loc), va_P D vwCl [(self, .inr (3, [.ref a, .int len, .int sta, .int u2, .int kin, .int fst, .int snd, .int don, .int rea, .int cau])), (a, .inl (cI, 60, .inl ch))] H → va_D A [(self, .inr (3, [.ref a, .int len, .int sta, .int u2, .int kin, .int fst, .int snd, .int don, .int rea, .int cau])), (a, .inl (cI, 60, .inl ch))] → va_S A s.heap H locs → W p l e rmX3_readNumbers s m args below meth c H locs 0 0 Q (F0 m 23 ls [.int j1])) h (fun j1 u2 h ls hl H locs hP hD hS => ?_) (fun J3 hJ3 h => ?_)
  · refine lv_istore_n (lv' := [(1, .int j1), (0, .ref self)]) (pc := 23) hx hb dX3_readNumbers_23 rfl hl (by decide) rfl (fun ls hl => ?_)
    refine lv_aload_n (pc := 24) hx hb dX3_readNumbers_24 rfl (lv_at hl 1 rfl) ?_
    obtain ⟨r4, hc4, h⟩ := am_bind_s h
    refine kc_Vi (pc := 25) (ci := 3) ⟨hx, hb, hml, hown, hts⟩ hP hK [] (c_X3_isDigitHere l D cI cJ self a len sta u2 kin fst snd don rea cau ch r4 hc4) [0, 1] rfl (cwV 0 hts (gzV wl707 wl708 wl709 wl27 wl710) rfl rfl rfl ⟨rfl, hdX3_isDigitHere⟩ ⟨Nat.le_of_ble_eq_true rfl, Nat.le_of_ble_eq_true rfl⟩) rfl rfl [] rfl hl.1 rfl (Nat.le_of_ble_eq_true rfl) dX3_readNumbers_25 ⟨Nat.zero_le _, Nat.zero_le _⟩ ?_
    refine lv_if_ne (pc := 28) (tgt := 33) hx hb dX3_readNumbers_28 (by decide) (fun cc => ?_) (fun cc => ?_)
    · replace h := am_f cc h
      refine lv_aload_n (pc := 33) hx hb dX3_readNumbers_33 rfl (lv_at hl 1 rfl) ?_
      obtain ⟨r5, u6, hc6, h⟩ := am_call2_s h
      refine kc_Wi (pc := 34) (ci := 3) ⟨hx, hb, hml, hown, hts⟩ hP hK hD hS hA [] (c_X3_readNumber l D cI cJ self a len sta u2 kin fst snd don rea cau ch r5 u6 hc6 _) [0, 1] rfl rfl rfl (cwV 0 hts (gzV wl711 wl712 wl713 wl27 wl714) rfl rfl rfl ⟨rfl, hdX3_readNumber⟩ ⟨Nat.le_of_ble_eq_true rfl, Nat.le_of_ble_eq_true rfl⟩) rfl rfl [] rfl hl.1 rfl (Nat.le_of_ble_eq_true rfl) dX3_readNumbers_34 ⟨Nat.zero_le _, Nat.zero_le _⟩ (fun H locs hP hD hS => ?_)
      replace hP : va_P D vwCl [(self, .inr (3, [.ref a, .int len, .int sta, .int u6, .int kin, .int fst, .int snd, .int don, .int rea, .int cau])), (a, .inl (cI, 60, .inl ch))] H := hP
      replace hD : va_D A [(self, .inr (3, [.ref a, .int len, .int sta, .int u6, .int kin, .int fst, .int snd, .int don, .int rea, .int cau])), (a, .inl (cI, 60, .inl ch))] := hD
      refine lv_istore_n (lv' := [(2, .int r5), (1, .int j1), (0, .ref self)]) (pc := 37) hx hb dX3_readNumbers_37 rfl hl (by decide) rfl (fun ls hl => ?_)
      refine lv_aload_n (pc := 38) hx hb dX3_readNumbers_38 rfl (lv_at hl 2 rfl) ?_
      refine lv_iload_n (pc := 39) hx hb dX3_readNumbers_39 rfl (lv_at hl 1 rfl) ?_
      refine am_join1_s (fun (j7 : Int32) => ∀ (ls : Array Slot), lv_has ls 3 [(0, .ref self)] → W p l e rmX3_readNumbers s m args below meth c H locs 0 0 Q (F0 m 49 ls [.int j7, .ref self])) h (fun j7 h ls hl => ?_) (fun J8 hJ8 h => ?_)
      · refine va_put (pc := 49) (D := D) (ci := 3) (v := .int j7) (ty := .int) (C := RX3) (T := TX3) (N := 10) hx hb hts hnX3 tyX3 tyX3_ok nmX3 hown hK.1 hP hD hS 0 rfl rfl 5 (Nat.le_of_ble_eq_true rfl) hk689 (fun _ h9 => h9) rfl (by decide +kernel) rfl rfl (Nat.le_of_ble_eq_true rfl) dX3_readNumbers_49 (fun H locs hP hD hS => ?_)
        replace hP : va_P D vwCl [(self, .inr (3, [.ref a, .int len, .int sta, .int u6, .int kin, .int j7, .int snd, .int don, .int rea, .int cau])), (a, .inl (cI, 60, .inl ch))] H := hP
        replace hD : va_D A [(self, .inr (3, [.ref a, .int len, .int sta, .int u6, .int kin, .int j7, .int snd, .int don, .int rea, .int cau])), (a, .inl (cI, 60, .inl ch))] := hD
        refine lv_aload_n (pc := 52) hx hb dX3_readNumbers_52 rfl (lv_at hl 0 rfl) ?_
        refine lv_bipush (v := 44) (pc := 53) hx hb dX3_readNumbers_53 (by decide) ?_
        obtain ⟨r9, u10, hc10, h⟩ := am_call2_s h
        refine kc_Wi (pc := 55) (ci := 3) ⟨hx, hb, hml, hown, hts⟩ hP hK hD hS hA [.int (44 : Int32)] (c_X3_pass l D cI cJ self a len sta u6 kin j7 snd don rea cau ch (44 : Int32) r9 u10 hc10 _) [0, 1] rfl rfl rfl (cwV 1 hts (gzV wl703 wl704 wl705 wl27 wl706) rfl rfl rfl ⟨rfl, hdX3_pass⟩ ⟨Nat.le_of_ble_eq_true rfl, Nat.le_of_ble_eq_true rfl⟩) rfl rfl [] rfl hl.1 rfl (Nat.le_of_ble_eq_true rfl) dX3_readNumbers_55 ⟨Nat.zero_le _, Nat.zero_le _⟩ (fun H locs hP hD hS => ?_)
        replace hP : va_P D vwCl [(self, .inr (3, [.ref a, .int len, .int sta, .int u10, .int kin, .int j7, .int snd, .int don, .int rea, .int cau])), (a, .inl (cI, 60, .inl ch))] H := hP
        replace hD : va_D A [(self, .inr (3, [.ref a, .int len, .int sta, .int u10, .int kin, .int j7, .int snd, .int don, .int rea, .int cau])), (a, .inl (cI, 60, .inl ch))] := hD
        refine lv_if_eq (pc := 58) (tgt := 68) hx hb dX3_readNumbers_58 (by decide) (fun cc => ?_) (fun cc => ?_)
        · replace h := am_t cc h
          refine lv_iconst (v := 0) (pc := 68) hx hb dX3_readNumbers_68 (by decide) ?_
          obtain ⟨e1, e2, e3, e4⟩ := am_ret4 h
          exact hret _ _ _ _ _ dX3_readNumbers_69 rfl e1 (by rw [← e2, ← e3, ← e4]; exact hP) hS
        replace h := am_f cc h
        refine lv_aload_n (pc := 61) hx hb dX3_readNumbers_61 rfl (lv_at hl 0 rfl) ?_
        obtain ⟨r11, hc11, h⟩ := am_bind_s h
        refine kc_Vi (pc := 62) (ci := 3) ⟨hx, hb, hml, hown, hts⟩ hP hK [] (c_X3_isDigitHere l D cI cJ self a len sta u10 kin j7 snd don rea cau ch r11 hc11) [0, 1] rfl (cwV 0 hts (gzV wl707 wl708 wl709 wl27 wl710) rfl rfl rfl ⟨rfl, hdX3_isDigitHere⟩ ⟨Nat.le_of_ble_eq_true rfl, Nat.le_of_ble_eq_true rfl⟩) rfl rfl [] rfl hl.1 rfl (Nat.le_of_ble_eq_true rfl) dX3_readNumbers_62 ⟨Nat.zero_le _, Nat.zero_le _⟩ ?_
        refine lv_if_ne (pc := 65) (tgt := 70) hx hb dX3_readNumbers_65 (by decide) (fun cc => ?_) (fun cc => ?_)
        · replace h := am_f cc h
          refine lv_aload_n (pc := 70) hx hb dX3_readNumbers_70 rfl (lv_at hl 0 rfl) ?_
          refine lv_aload_n (pc := 71) hx hb dX3_readNumbers_71 rfl (lv_at hl 0 rfl) ?_
          obtain ⟨r12, u13, hc13, h⟩ := am_call2_s h
          refine kc_Wi (pc := 72) (ci := 3) ⟨hx, hb, hml, hown, hts⟩ hP hK hD hS hA [] (c_X3_readNumber l D cI cJ self a len sta u10 kin j7 snd don rea cau ch r12 u13 hc13 _) [0, 1] rfl rfl rfl (cwV 0 hts (gzV wl711 wl712 wl713 wl27 wl714) rfl rfl rfl ⟨rfl, hdX3_readNumber⟩ ⟨Nat.le_of_ble_eq_true rfl, Nat.le_of_ble_eq_true rfl⟩) rfl rfl [.ref self] rfl hl.1 rfl (Nat.le_of_ble_eq_true rfl) dX3_readNumbers_72 ⟨Nat.zero_le _, Nat.zero_le _⟩ (fun H locs hP hD hS => ?_)
          replace hP : va_P D vwCl [(self, .inr (3, [.ref a, .int len, .int sta, .int u13, .int kin, .int j7, .int snd, .int don, .int rea, .int cau])), (a, .inl (cI, 60, .inl ch))] H := hP
          replace hD : va_D A [(self, .inr (3, [.ref a, .int len, .int sta, .int u13, .int kin, .int j7, .int snd, .int don, .int rea, .int cau])), (a, .inl (cI, 60, .inl ch))] := hD
          refine va_put (pc := 75) (D := D) (ci := 3) (v := .int r12) (ty := .int) (C := RX3) (T := TX3) (N := 10) hx hb hts hnX3 tyX3 tyX3_ok nmX3 hown hK.1 hP hD hS 0 rfl rfl 6 (Nat.le_of_ble_eq_true rfl) hk690 (fun _ h9 => h9) rfl (by decide +kernel) rfl rfl (Nat.le_of_ble_eq_true rfl) dX3_readNumbers_75 (fun H locs hP hD hS => ?_)
          replace hP : va_P D vwCl [(self, .inr (3, [.ref a, .int len, .int sta, .int u13, .int kin, .int j7, .int r12, .int don, .int rea, .int cau])), (a, .inl (cI, 60, .inl ch))] H := hP
          replace hD : va_D A [(self, .inr (3, [.ref a, .int len, .int sta, .int u13, .int kin, .int j7, .int r12, .int don, .int rea, .int cau])), (a, .inl (cI, 60, .inl ch))] := hD
          refine lv_iconst (v := 1) (pc := 78) hx hb dX3_readNumbers_78 (by decide) ?_
          obtain ⟨e1, e2, e3, e4⟩ := am_ret4 h
          exact hret _ _ _ _ _ dX3_readNumbers_79 rfl e1 (by rw [← e2, ← e3, ← e4]; exact hP) hS
        replace h := am_t cc h
        refine lv_iconst (v := 0) (pc := 68) hx hb dX3_readNumbers_68 (by decide) ?_
        obtain ⟨e1, e2, e3, e4⟩ := am_ret4 h
        exact hret _ _ _ _ _ dX3_readNumbers_69 rfl e1 (by rw [← e2, ← e3, ← e4]; exact hP) hS
      refine lv_if_eq (pc := 40) (tgt := 48) hx hb dX3_readNumbers_40 (by decide) (fun cc => ?_) (fun cc => ?_)
      · replace h := am_t cc h
        refine lv_iload_n (pc := 48) hx hb dX3_readNumbers_48 rfl (lv_at hl 0 rfl) ?_
        exact hJ8 _ h ls (lv_sub hl [2] rfl)
      replace h := am_f cc h
      refine lv_iload_n (pc := 43) hx hb dX3_readNumbers_43 rfl (lv_at hl 0 rfl) ?_
      refine lv_ineg (pc := 44) hx hb dX3_readNumbers_44 ?_
      refine lv_goto (pc := 45) (tgt := 49) hx hb dX3_readNumbers_45 (by decide) ?_
      exact hJ8 _ h ls (lv_sub hl [2] rfl)
    replace h := am_t cc h
    refine lv_iconst (v := 0) (pc := 31) hx hb dX3_readNumbers_31 (by decide) ?_
    obtain ⟨e1, e2, e3, e4⟩ := am_ret4 h
    exact hret _ _ _ _ _ dX3_readNumbers_32 rfl e1 (by rw [← e2, ← e3, ← e4]; exact hP) hS
  refine am_join1_s (fun (u14 : Int32) => ∀ (ls : Array Slot), lv_has ls 3 [(0, .ref self)] → ∀ (H : Heap) (locs : List Loc), va_P D vwCl [(self, .inr (3, [.ref a, .int len, .int sta, .int u14, .int kin, .int fst, .int snd, .int don, .int rea, .int cau])), (a, .inl (cI, 60, .inl ch))] H → va_D A [(self, .inr (3, [.ref a, .int len, .int sta, .int u14, .int kin, .int fst, .int snd, .int don, .int rea, .int cau])), (a, .inl (cI, 60, .inl ch))] → va_S A s.heap H locs → W p l e rmX3_readNumbers s m args below meth c H locs 0 0 Q (F0 m 22 ls [])) h (fun u14 h ls hl H locs hP hD hS => ?_) (fun J15 hJ15 h => ?_)
  · refine lv_iconst (v := 0) (pc := 22) hx hb dX3_readNumbers_22 (by decide) ?_
    exact hJ3 _ _ h ls (lv_sub hl [0] rfl) H locs hP hD hS
  refine lv_icmp_ne (pc := 6) (tgt := 22) hx hb dX3_readNumbers_6 (by decide) (fun cc => ?_) (fun cc => ?_)
  · replace h := am_f cc h
    exact hJ15 _ h ls (lv_sub hl [0] rfl) s.heap [] hP hD hS
  replace h := am_t cc h
  refine lv_aload_n (pc := 9) hx hb dX3_readNumbers_9 rfl (lv_at hl 0 rfl) ?_
  refine lv_bipush (v := 45) (pc := 10) hx hb dX3_readNumbers_10 (by decide) ?_
  obtain ⟨r16, u17, hc17, h⟩ := am_call2_s h
  refine kc_Wi (pc := 12) (ci := 3) ⟨hx, hb, hml, hown, hts⟩ hP hK hD hS hA [.int (45 : Int32)] (c_X3_pass l D cI cJ self a len sta pos kin fst snd don rea cau ch (45 : Int32) r16 u17 hc17 _) [0, 1] rfl rfl rfl (cwV 1 hts (gzV wl703 wl704 wl705 wl27 wl706) rfl rfl rfl ⟨rfl, hdX3_pass⟩ ⟨Nat.le_of_ble_eq_true rfl, Nat.le_of_ble_eq_true rfl⟩) rfl rfl [] rfl hl.1 rfl (Nat.le_of_ble_eq_true rfl) dX3_readNumbers_12 ⟨Nat.zero_le _, Nat.zero_le _⟩ (fun H locs hP hD hS => ?_)
  replace hP : va_P D vwCl [(self, .inr (3, [.ref a, .int len, .int sta, .int u17, .int kin, .int fst, .int snd, .int don, .int rea, .int cau])), (a, .inl (cI, 60, .inl ch))] H := hP
  replace hD : va_D A [(self, .inr (3, [.ref a, .int len, .int sta, .int u17, .int kin, .int fst, .int snd, .int don, .int rea, .int cau])), (a, .inl (cI, 60, .inl ch))] := hD
  refine lv_if_eq (pc := 15) (tgt := 22) hx hb dX3_readNumbers_15 (by decide) (fun cc => ?_) (fun cc => ?_)
  · replace h := am_t cc h
    exact hJ15 _ h ls (lv_sub hl [0] rfl) H locs hP hD hS
  replace h := am_f cc h
  refine lv_iconst (v := 1) (pc := 18) hx hb dX3_readNumbers_18 (by decide) ?_
  refine lv_goto (pc := 19) (tgt := 23) hx hb dX3_readNumbers_19 (by decide) ?_
  exact hJ3 _ _ h ls (lv_sub hl [0] rfl) H locs hP hD hS
theorem hdX3_readOrder : yX3_readOrder.cls ≠ "java/lang/invoke/MethodHandle" ∧ yX3_readOrder.cls ≠ "java/lang/invoke/VarHandle" ∧ (parseMethodDescriptor yX3_readOrder.desc).map (fun d => d.parameters.length) = some 0 := by decide +kernel
abbrev rmX3_readOrder : Room := { frames := 4, cells := 0, slots := 0, locals := 86 }
set_option maxHeartbeats 20000000 in
set_option maxRecDepth 100000 in
theorem c_X3_readOrder (l : Launch) (D : va_G) (cI cJ : ClassId) (self : Nat) (a : Nat) (len : Int32) (sta : Int32) (pos : Int32) (kin : Int32) (fst : Int32) (snd : Int32) (don : Int32) (rea : Int32) (cau : Int32) (ch : Nat → Int32)  (r0 : Int32) (zpos : Int32) (zkin : Int32) (zfst : Int32) (zsnd : Int32) (hF : F_X3_readOrder len pos kin fst snd ch = some (r0, zpos, zkin, zfst, zsnd)) (sz : Nat) : Met l yX3_readOrder (wz yX3_readOrder cX3_readOrder 1 (some .boolean)) rmX3_readOrder (kPw D cI cJ [(self, .inr (3, [.ref a, .int len, .int sta, .int pos, .int kin, .int fst, .int snd, .int don, .int rea, .int cau])), (a, .inl (cI, 60, .inl ch))] sz [.ref self]) (kQi D r0 [(self, .inr (3, [.ref a, .int len, .int sta, .int zpos, .int zkin, .int zfst, .int zsnd, .int don, .int rea, .int cau])), (a, .inl (cI, 60, .inl ch))] (va_A [(self, .inr (3, [.ref a, .int len, .int sta, .int pos, .int kin, .int fst, .int snd, .int don, .int rea, .int cau])), (a, .inl (cI, 60, .inl ch))] sz)) 0 0 (va_A [(self, .inr (3, [.ref a, .int len, .int sta, .int pos, .int kin, .int fst, .int snd, .int don, .int rea, .int cau])), (a, .inl (cI, 60, .inl ch))] sz) := by
  refine kM_wi cX3_readOrder 1 .boolean (by decide +kernel) rfl rfl (Nat.le_of_ble_eq_true rfl) ⟨rfl, rfl⟩ ?_
  intro p e s m args below meth c Q A ls hx hb hml hown hts hP hK hD hA hS hl hret
  have hk683 := hts _ (List.mem_cons_of_mem _ wl683)
  have hk688 := hts _ (List.mem_cons_of_mem _ wl688)
  have hnX3 : ∀ w ∈ u_ws RX3 TX3 10, w ∈ wz yX3_readOrder cX3_readOrder 1 (some .boolean) := fun w h => List.mem_cons_of_mem _ (inlX3 w h)
  replace hl : lv_has ls 1 [(0, .ref self)] := hl
  have h := hF
  unfold F_X3_readOrder at h
  refine lv_aload_n (pc := 0) hx hb dX3_readOrder_0 rfl (lv_at hl 0 rfl) ?_
  refine lv_aload_n (pc := 1) hx hb dX3_readOrder_1 rfl (lv_at hl 0 rfl) ?_
  obtain ⟨r1, hc1, h⟩ := am_bind_s h
  refine kc_Vi (pc := 2) (ci := 3) ⟨hx, hb, hml, hown, hts⟩ hP hK [] (c_X3_here l D cI cJ self a len sta pos kin fst snd don rea cau ch r1 hc1) [0, 1] rfl (cwV 0 hts (gzV wl695 wl696 wl697 wl27 wl698) rfl rfl rfl ⟨rfl, hdX3_here⟩ ⟨Nat.le_of_ble_eq_true rfl, Nat.le_of_ble_eq_true rfl⟩) rfl rfl [.ref self] rfl hl.1 rfl (Nat.le_of_ble_eq_true rfl) dX3_readOrder_2 ⟨Nat.zero_le _, Nat.zero_le _⟩ ?_
  refine va_put (pc := 5) (D := D) (ci := 3) (v := .int r1) (ty := .int) (C := RX3) (T := TX3) (N := 10) hx hb hts hnX3 tyX3 tyX3_ok nmX3 hown hK.1 hP hD hS 0 rfl rfl 4 (Nat.le_of_ble_eq_true rfl) hk688 (fun _ h9 => h9) rfl (by decide +kernel) rfl rfl (Nat.le_of_ble_eq_true rfl) dX3_readOrder_5 (fun H locs hP hD hS => ?_)
  replace hP : va_P D vwCl [(self, .inr (3, [.ref a, .int len, .int sta, .int pos, .int r1, .int fst, .int snd, .int don, .int rea, .int cau])), (a, .inl (cI, 60, .inl ch))] H := hP
  replace hD : va_D A [(self, .inr (3, [.ref a, .int len, .int sta, .int pos, .int r1, .int fst, .int snd, .int don, .int rea, .int cau])), (a, .inl (cI, 60, .inl ch))] := hD
  refine lv_aload_n (pc := 8) hx hb dX3_readOrder_8 rfl (lv_at hl 0 rfl) ?_
  refine va_get (pc := 9) (D := D) (ci := 3) (v := .int r1) (C := RX3) (T := TX3) (N := 10) hx hb hts hnX3 hown hK.1 hP 0 rfl rfl 4 (Nat.le_of_ble_eq_true rfl) hk688 (fun _ h9 => h9) rfl dX3_readOrder_9 ?_
  refine lv_bipush (v := 109) (pc := 12) hx hb dX3_readOrder_12 (by decide) ?_
  refine am_join0_s (∀ (ls : Array Slot), lv_has ls 1 [(0, .ref self)] → W p l e rmX3_readOrder s m args below meth c H locs 0 0 Q (F0 m 37 ls [])) h (fun h ls hl => ?_) (fun J2 hJ2 h => ?_)
  · refine lv_aload_n (pc := 37) hx hb dX3_readOrder_37 rfl (lv_at hl 0 rfl) ?_
    refine lv_dup (pc := 38) hx hb dX3_readOrder_38 rfl ?_
    refine va_get (pc := 39) (D := D) (ci := 3) (v := .int pos) (C := RX3) (T := TX3) (N := 10) hx hb hts hnX3 hown hK.1 hP 0 rfl rfl 3 (Nat.le_of_ble_eq_true rfl) hk683 (fun _ h9 => h9) rfl dX3_readOrder_39 ?_
    refine lv_iconst (v := 1) (pc := 42) hx hb dX3_readOrder_42 (by decide) ?_
    refine lv_iadd (pc := 43) hx hb dX3_readOrder_43 ?_
    refine lv_topi (fun x3 ex3 => ?_)
    replace h := am_let_s ex3 h
    refine va_put (pc := 44) (D := D) (ci := 3) (v := .int x3) (ty := .int) (C := RX3) (T := TX3) (N := 10) hx hb hts hnX3 tyX3 tyX3_ok nmX3 hown hK.1 hP hD hS 0 rfl rfl 3 (Nat.le_of_ble_eq_true rfl) hk683 (fun _ h9 => h9) rfl (by decide +kernel) rfl rfl (Nat.le_of_ble_eq_true rfl) dX3_readOrder_44 (fun H locs hP hD hS => ?_)
    replace hP : va_P D vwCl [(self, .inr (3, [.ref a, .int len, .int sta, .int x3, .int r1, .int fst, .int snd, .int don, .int rea, .int cau])), (a, .inl (cI, 60, .inl ch))] H := hP
    replace hD : va_D A [(self, .inr (3, [.ref a, .int len, .int sta, .int x3, .int r1, .int fst, .int snd, .int don, .int rea, .int cau])), (a, .inl (cI, 60, .inl ch))] := hD
    refine lv_aload_n (pc := 47) hx hb dX3_readOrder_47 rfl (lv_at hl 0 rfl) ?_
    refine va_get (pc := 48) (D := D) (ci := 3) (v := .int r1) (C := RX3) (T := TX3) (N := 10) hx hb hts hnX3 hown hK.1 hP 0 rfl rfl 4 (Nat.le_of_ble_eq_true rfl) hk688 (fun _ h9 => h9) rfl dX3_readOrder_48 ?_
    refine lv_bipush (v := 114) (pc := 51) hx hb dX3_readOrder_51 (by decide) ?_
    refine am_join3_s (fun (u4 : Int32) (u5 : Int32) (u6 : Int32) => ∀ (ls : Array Slot), lv_has ls 1 [(0, .ref self)] → ∀ (H : Heap) (locs : List Loc), va_P D vwCl [(self, .inr (3, [.ref a, .int len, .int sta, .int u4, .int r1, .int u5, .int u6, .int don, .int rea, .int cau])), (a, .inl (cI, 60, .inl ch))] H → va_D A [(self, .inr (3, [.ref a, .int len, .int sta, .int u4, .int r1, .int u5, .int u6, .int don, .int rea, .int cau])), (a, .inl (cI, 60, .inl ch))] → va_S A s.heap H locs → W p l e rmX3_readOrder s m args below meth c H locs 0 0 Q (F0 m 63 ls [])) h (fun u4 u5 u6 h ls hl H locs hP hD hS => ?_) (fun J7 hJ7 h => ?_)
    · refine lv_aload_n (pc := 63) hx hb dX3_readOrder_63 rfl (lv_at hl 0 rfl) ?_
      refine lv_bipush (v := 59) (pc := 64) hx hb dX3_readOrder_64 (by decide) ?_
      obtain ⟨r8, u9, hc9, h⟩ := am_call2_s h
      refine kc_Wi (pc := 66) (ci := 3) ⟨hx, hb, hml, hown, hts⟩ hP hK hD hS hA [.int (59 : Int32)] (c_X3_pass l D cI cJ self a len sta u4 r1 u5 u6 don rea cau ch (59 : Int32) r8 u9 hc9 _) [0, 1] rfl rfl rfl (cwV 1 hts (gzV wl703 wl704 wl705 wl27 wl706) rfl rfl rfl ⟨rfl, hdX3_pass⟩ ⟨Nat.le_of_ble_eq_true rfl, Nat.le_of_ble_eq_true rfl⟩) rfl rfl [] rfl hl.1 rfl (Nat.le_of_ble_eq_true rfl) dX3_readOrder_66 ⟨Nat.zero_le _, Nat.zero_le _⟩ (fun H locs hP hD hS => ?_)
      replace hP : va_P D vwCl [(self, .inr (3, [.ref a, .int len, .int sta, .int u9, .int r1, .int u5, .int u6, .int don, .int rea, .int cau])), (a, .inl (cI, 60, .inl ch))] H := hP
      replace hD : va_D A [(self, .inr (3, [.ref a, .int len, .int sta, .int u9, .int r1, .int u5, .int u6, .int don, .int rea, .int cau])), (a, .inl (cI, 60, .inl ch))] := hD
      refine lv_if_eq (pc := 69) (tgt := 76) hx hb dX3_readOrder_69 (by decide) (fun cc => ?_) (fun cc => ?_)
      · replace h := am_t cc h
        refine lv_iconst (v := 0) (pc := 76) hx hb dX3_readOrder_76 (by decide) ?_
        obtain ⟨e1, e2, e3, e4, e5⟩ := am_ret5 h
        exact hret _ _ _ _ _ dX3_readOrder_77 rfl e1 (by rw [← e2, ← e3, ← e4, ← e5]; exact hP) hS
      replace h := am_f cc h
      refine lv_iconst (v := 1) (pc := 72) hx hb dX3_readOrder_72 (by decide) ?_
      refine lv_goto (pc := 73) (tgt := 77) hx hb dX3_readOrder_73 (by decide) ?_
      obtain ⟨e1, e2, e3, e4, e5⟩ := am_ret5 h
      exact hret _ _ _ _ _ dX3_readOrder_77 rfl e1 (by rw [← e2, ← e3, ← e4, ← e5]; exact hP) hS
    refine lv_icmp_eq (pc := 53) (tgt := 63) hx hb dX3_readOrder_53 (by decide) (fun cc => ?_) (fun cc => ?_)
    · replace h := am_t cc h
      exact hJ7 _ _ _ h ls (lv_sub hl [0] rfl) H locs hP hD hS
    replace h := am_f cc h
    refine lv_aload_n (pc := 56) hx hb dX3_readOrder_56 rfl (lv_at hl 0 rfl) ?_
    obtain ⟨r10, u11, u12, u13, hc13, h⟩ := am_call4_s h
    refine kc_Wi (pc := 57) (ci := 3) ⟨hx, hb, hml, hown, hts⟩ hP hK hD hS hA [] (c_X3_readNumbers l D cI cJ self a len sta x3 r1 fst snd don rea cau ch r10 u11 u12 u13 hc13 _) [0, 1] rfl rfl rfl (cwV 0 hts (gzV wl699 wl700 wl701 wl27 wl702) rfl rfl rfl ⟨rfl, hdX3_readNumbers⟩ ⟨Nat.le_of_ble_eq_true rfl, Nat.le_of_ble_eq_true rfl⟩) rfl rfl [] rfl hl.1 rfl (Nat.le_of_ble_eq_true rfl) dX3_readOrder_57 ⟨Nat.zero_le _, Nat.zero_le _⟩ (fun H locs hP hD hS => ?_)
    replace hP : va_P D vwCl [(self, .inr (3, [.ref a, .int len, .int sta, .int u11, .int r1, .int u12, .int u13, .int don, .int rea, .int cau])), (a, .inl (cI, 60, .inl ch))] H := hP
    replace hD : va_D A [(self, .inr (3, [.ref a, .int len, .int sta, .int u11, .int r1, .int u12, .int u13, .int don, .int rea, .int cau])), (a, .inl (cI, 60, .inl ch))] := hD
    refine lv_if_eq (pc := 60) (tgt := 76) hx hb dX3_readOrder_60 (by decide) (fun cc => ?_) (fun cc => ?_)
    · replace h := am_t cc h
      refine lv_iconst (v := 0) (pc := 76) hx hb dX3_readOrder_76 (by decide) ?_
      obtain ⟨e1, e2, e3, e4, e5⟩ := am_ret5 h
      exact hret _ _ _ _ _ dX3_readOrder_77 rfl e1 (by rw [← e2, ← e3, ← e4, ← e5]; exact hP) hS
    replace h := am_f cc h
    exact hJ7 _ _ _ h ls (lv_sub hl [0] rfl) H locs hP hD hS
  refine lv_icmp_eq (pc := 14) (tgt := 37) hx hb dX3_readOrder_14 (by decide) (fun cc => ?_) (fun cc => ?_)
  · replace h := am_t cc h
    exact hJ2 h ls (lv_sub hl [0] rfl)
  replace h := am_f cc h
  refine lv_aload_n (pc := 17) hx hb dX3_readOrder_17 rfl (lv_at hl 0 rfl) ?_
  refine va_get (pc := 18) (D := D) (ci := 3) (v := .int r1) (C := RX3) (T := TX3) (N := 10) hx hb hts hnX3 hown hK.1 hP 0 rfl rfl 4 (Nat.le_of_ble_eq_true rfl) hk688 (fun _ h9 => h9) rfl dX3_readOrder_18 ?_
  refine lv_bipush (v := 111) (pc := 21) hx hb dX3_readOrder_21 (by decide) ?_
  refine lv_icmp_eq (pc := 23) (tgt := 37) hx hb dX3_readOrder_23 (by decide) (fun cc => ?_) (fun cc => ?_)
  · replace h := am_t cc h
    exact hJ2 h ls (lv_sub hl [0] rfl)
  replace h := am_f cc h
  refine lv_aload_n (pc := 26) hx hb dX3_readOrder_26 rfl (lv_at hl 0 rfl) ?_
  refine va_get (pc := 27) (D := D) (ci := 3) (v := .int r1) (C := RX3) (T := TX3) (N := 10) hx hb hts hnX3 hown hK.1 hP 0 rfl rfl 4 (Nat.le_of_ble_eq_true rfl) hk688 (fun _ h9 => h9) rfl dX3_readOrder_27 ?_
  refine lv_bipush (v := 114) (pc := 30) hx hb dX3_readOrder_30 (by decide) ?_
  refine lv_icmp_eq (pc := 32) (tgt := 37) hx hb dX3_readOrder_32 (by decide) (fun cc => ?_) (fun cc => ?_)
  · replace h := am_t cc h
    exact hJ2 h ls (lv_sub hl [0] rfl)
  replace h := am_f cc h
  refine lv_iconst (v := 0) (pc := 35) hx hb dX3_readOrder_35 (by decide) ?_
  obtain ⟨e1, e2, e3, e4, e5⟩ := am_ret5 h
  exact hret _ _ _ _ _ dX3_readOrder_36 rfl e1 (by rw [← e2, ← e3, ← e4, ← e5]; exact hP) hS
theorem hdX3_perform : yX3_perform.cls ≠ "java/lang/invoke/MethodHandle" ∧ yX3_perform.cls ≠ "java/lang/invoke/VarHandle" ∧ (parseMethodDescriptor yX3_perform.desc).map (fun d => d.parameters.length) = some 1 := by decide +kernel
abbrev rmX3_perform : Room := { frames := 5, cells := 0, slots := 0, locals := 131 }
set_option maxHeartbeats 20000000 in
set_option maxRecDepth 100000 in
theorem c_X3_perform (l : Launch) (D : va_G) (cI cJ : ClassId) (self : Nat) (a : Nat) (tself : Nat) (tlself : Nat) (tlplself : Nat) (tlpla : Nat) (tlpaself : Nat) (tlpaa : Nat) (tlogself : Nat) (tloga : Nat) (tldrself : Nat) (tldra : Nat) (tlspself : Nat) (tlspa : Nat) (tlscself : Nat) (tlsca : Nat) (twself : Nat) (twa : Nat) (tsself : Nat) (tsa : Nat) (cself : Nat) (ca : Nat) (cb : Nat) (len : Int32) (sta : Int32) (pos : Int32) (kin : Int32) (fst : Int32) (snd : Int32) (don : Int32) (rea : Int32) (cau : Int32) (ch : Nat → Int32) (tnoi : Int32) (tobs : Int32) (tres : Int32) (tlmany : Int32) (tlgens : Int32) (tlplf : Nat → Int32) (tlpaf : Nat → Int32) (tlogf : Nat → Int32) (tldrf : Nat → Int32) (tlspf : Nat → Int32) (tlscf : Nat → Int32) (twmany : Int32) (twf : Nat → Int32) (tsf : Nat → Int32) (cnoi : Int32) (canc : Nat → Int32) (crst : Nat → Int64)  (r0 : Int32) (zsta : Int32) (zpos : Int32) (zkin : Int32) (zfst : Int32) (zsnd : Int32) (zdon : Int32) (zrea : Int32) (zcau : Int32) (ztnoi : Int32) (ztobs : Int32) (ztres : Int32) (ztlgens : Int32) (ztlplf : Nat → Int32) (ztlpaf : Nat → Int32) (ztlogf : Nat → Int32) (ztldrf : Nat → Int32) (ztlspf : Nat → Int32) (ztlscf : Nat → Int32) (ztwmany : Int32) (ztwf : Nat → Int32) (zcnoi : Int32) (zcanc : Nat → Int32) (zcrst : Nat → Int64) (hF : F_X3_perform len sta pos kin fst snd don rea cau ch tnoi tobs tres tlmany tlgens tlplf tlpaf tlogf tldrf tlspf tlscf twmany twf tsf cnoi canc crst = some (r0, zsta, zpos, zkin, zfst, zsnd, zdon, zrea, zcau, ztnoi, ztobs, ztres, ztlgens, ztlplf, ztlpaf, ztlogf, ztldrf, ztlspf, ztlscf, ztwmany, ztwf, zcnoi, zcanc, zcrst)) (sz : Nat) : Met l yX3_perform (wz yX3_perform cX3_perform 4 (some .boolean)) rmX3_perform (kPw D cI cJ [(self, .inr (3, [.ref a, .int len, .int sta, .int pos, .int kin, .int fst, .int snd, .int don, .int rea, .int cau])), (a, .inl (cI, 60, .inl ch)), (tself, .inr (4, [.ref tlself, .ref twself, .ref tsself, .ref cself, .int tnoi, .int tobs, .int tres])), (tlself, .inr (1, [.ref tlplself, .ref tlpaself, .ref tlogself, .ref tldrself, .ref tlspself, .ref tlscself, .int tlmany, .int tlgens])), (tlplself, .inr (2, [.ref tlpla])), (tlpla, .inl (cI, 240, .inl tlplf)), (tlpaself, .inr (2, [.ref tlpaa])), (tlpaa, .inl (cI, 240, .inl tlpaf)), (tlogself, .inr (2, [.ref tloga])), (tloga, .inl (cI, 20, .inl tlogf)), (tldrself, .inr (2, [.ref tldra])), (tldra, .inl (cI, 20, .inl tldrf)), (tlspself, .inr (2, [.ref tlspa])), (tlspa, .inl (cI, 20, .inl tlspf)), (tlscself, .inr (2, [.ref tlsca])), (tlsca, .inl (cI, 20, .inl tlscf)), (twself, .inr (5, [.ref twa, .int twmany])), (twa, .inl (cI, 12, .inl twf)), (tsself, .inr (2, [.ref tsa])), (tsa, .inl (cI, 3, .inl tsf)), (cself, .inr (0, [.ref ca, .ref cb, .int cnoi])), (ca, .inl (cI, 12, .inl canc)), (cb, .inl (cJ, 12, .inr (.inl crst)))] sz [.ref self, .ref tself]) (kQi D r0 [(self, .inr (3, [.ref a, .int len, .int zsta, .int zpos, .int zkin, .int zfst, .int zsnd, .int zdon, .int zrea, .int zcau])), (a, .inl (cI, 60, .inl ch)), (tself, .inr (4, [.ref tlself, .ref twself, .ref tsself, .ref cself, .int ztnoi, .int ztobs, .int ztres])), (tlself, .inr (1, [.ref tlplself, .ref tlpaself, .ref tlogself, .ref tldrself, .ref tlspself, .ref tlscself, .int tlmany, .int ztlgens])), (tlplself, .inr (2, [.ref tlpla])), (tlpla, .inl (cI, 240, .inl ztlplf)), (tlpaself, .inr (2, [.ref tlpaa])), (tlpaa, .inl (cI, 240, .inl ztlpaf)), (tlogself, .inr (2, [.ref tloga])), (tloga, .inl (cI, 20, .inl ztlogf)), (tldrself, .inr (2, [.ref tldra])), (tldra, .inl (cI, 20, .inl ztldrf)), (tlspself, .inr (2, [.ref tlspa])), (tlspa, .inl (cI, 20, .inl ztlspf)), (tlscself, .inr (2, [.ref tlsca])), (tlsca, .inl (cI, 20, .inl ztlscf)), (twself, .inr (5, [.ref twa, .int ztwmany])), (twa, .inl (cI, 12, .inl ztwf)), (tsself, .inr (2, [.ref tsa])), (tsa, .inl (cI, 3, .inl tsf)), (cself, .inr (0, [.ref ca, .ref cb, .int zcnoi])), (ca, .inl (cI, 12, .inl zcanc)), (cb, .inl (cJ, 12, .inr (.inl zcrst)))] (va_A [(self, .inr (3, [.ref a, .int len, .int sta, .int pos, .int kin, .int fst, .int snd, .int don, .int rea, .int cau])), (a, .inl (cI, 60, .inl ch)), (tself, .inr (4, [.ref tlself, .ref twself, .ref tsself, .ref cself, .int tnoi, .int tobs, .int tres])), (tlself, .inr (1, [.ref tlplself, .ref tlpaself, .ref tlogself, .ref tldrself, .ref tlspself, .ref tlscself, .int tlmany, .int tlgens])), (tlplself, .inr (2, [.ref tlpla])), (tlpla, .inl (cI, 240, .inl tlplf)), (tlpaself, .inr (2, [.ref tlpaa])), (tlpaa, .inl (cI, 240, .inl tlpaf)), (tlogself, .inr (2, [.ref tloga])), (tloga, .inl (cI, 20, .inl tlogf)), (tldrself, .inr (2, [.ref tldra])), (tldra, .inl (cI, 20, .inl tldrf)), (tlspself, .inr (2, [.ref tlspa])), (tlspa, .inl (cI, 20, .inl tlspf)), (tlscself, .inr (2, [.ref tlsca])), (tlsca, .inl (cI, 20, .inl tlscf)), (twself, .inr (5, [.ref twa, .int twmany])), (twa, .inl (cI, 12, .inl twf)), (tsself, .inr (2, [.ref tsa])), (tsa, .inl (cI, 3, .inl tsf)), (cself, .inr (0, [.ref ca, .ref cb, .int cnoi])), (ca, .inl (cI, 12, .inl canc)), (cb, .inl (cJ, 12, .inr (.inl crst)))] sz)) 0 0 (va_A [(self, .inr (3, [.ref a, .int len, .int sta, .int pos, .int kin, .int fst, .int snd, .int don, .int rea, .int cau])), (a, .inl (cI, 60, .inl ch)), (tself, .inr (4, [.ref tlself, .ref twself, .ref tsself, .ref cself, .int tnoi, .int tobs, .int tres])), (tlself, .inr (1, [.ref tlplself, .ref tlpaself, .ref tlogself, .ref tldrself, .ref tlspself, .ref tlscself, .int tlmany, .int tlgens])), (tlplself, .inr (2, [.ref tlpla])), (tlpla, .inl (cI, 240, .inl tlplf)), (tlpaself, .inr (2, [.ref tlpaa])), (tlpaa, .inl (cI, 240, .inl tlpaf)), (tlogself, .inr (2, [.ref tloga])), (tloga, .inl (cI, 20, .inl tlogf)), (tldrself, .inr (2, [.ref tldra])), (tldra, .inl (cI, 20, .inl tldrf)), (tlspself, .inr (2, [.ref tlspa])), (tlspa, .inl (cI, 20, .inl tlspf)), (tlscself, .inr (2, [.ref tlsca])), (tlsca, .inl (cI, 20, .inl tlscf)), (twself, .inr (5, [.ref twa, .int twmany])), (twa, .inl (cI, 12, .inl twf)), (tsself, .inr (2, [.ref tsa])), (tsa, .inl (cI, 3, .inl tsf)), (cself, .inr (0, [.ref ca, .ref cb, .int cnoi])), (ca, .inl (cI, 12, .inl canc)), (cb, .inl (cJ, 12, .inr (.inl crst)))] sz) := by
  refine kM_wi cX3_perform 4 .boolean (by decide +kernel) rfl rfl (Nat.le_of_ble_eq_true rfl) ⟨rfl, rfl⟩ ?_
  intro p e s m args below meth c Q A ls hx hb hml hown hts hP hK hD hA hS hl hret
  have hk622 := hts _ (List.mem_cons_of_mem _ wl622)
  have hk683 := hts _ (List.mem_cons_of_mem _ wl683)
  have hk684 := hts _ (List.mem_cons_of_mem _ wl684)
  have hk685 := hts _ (List.mem_cons_of_mem _ wl685)
  have hk686 := hts _ (List.mem_cons_of_mem _ wl686)
  have hk687 := hts _ (List.mem_cons_of_mem _ wl687)
  have hk688 := hts _ (List.mem_cons_of_mem _ wl688)
  have hk689 := hts _ (List.mem_cons_of_mem _ wl689)
  have hk690 := hts _ (List.mem_cons_of_mem _ wl690)
  have hnX3 : ∀ w ∈ u_ws RX3 TX3 10, w ∈ wz yX3_perform cX3_perform 4 (some .boolean) := fun w h => List.mem_cons_of_mem _ (inlX3 w h)
  replace hl : lv_has ls 4 [(0, .ref self), (1, .ref tself)] := hl
  have h := hF
  unfold F_X3_perform at h
  refine lv_aload_n (pc := 0) hx hb dX3_perform_0 rfl (lv_at hl 0 rfl) ?_
  refine lv_iconst (v := 0) (pc := 1) hx hb dX3_perform_1 (by decide) ?_
  refine va_put (pc := 2) (D := D) (ci := 3) (v := .int (0 : Int32)) (ty := .int) (C := RX3) (T := TX3) (N := 10) hx hb hts hnX3 tyX3 tyX3_ok nmX3 hown hK.1 hP hD hS 0 rfl rfl 3 (Nat.le_of_ble_eq_true rfl) hk683 (fun _ h9 => h9) rfl (by decide +kernel) rfl rfl (Nat.le_of_ble_eq_true rfl) dX3_perform_2 (fun H locs hP hD hS => ?_)
  replace hP : va_P D vwCl [(self, .inr (3, [.ref a, .int len, .int sta, .int (0 : Int32), .int kin, .int fst, .int snd, .int don, .int rea, .int cau])), (a, .inl (cI, 60, .inl ch)), (tself, .inr (4, [.ref tlself, .ref twself, .ref tsself, .ref cself, .int tnoi, .int tobs, .int tres])), (tlself, .inr (1, [.ref tlplself, .ref tlpaself, .ref tlogself, .ref tldrself, .ref tlspself, .ref tlscself, .int tlmany, .int tlgens])), (tlplself, .inr (2, [.ref tlpla])), (tlpla, .inl (cI, 240, .inl tlplf)), (tlpaself, .inr (2, [.ref tlpaa])), (tlpaa, .inl (cI, 240, .inl tlpaf)), (tlogself, .inr (2, [.ref tloga])), (tloga, .inl (cI, 20, .inl tlogf)), (tldrself, .inr (2, [.ref tldra])), (tldra, .inl (cI, 20, .inl tldrf)), (tlspself, .inr (2, [.ref tlspa])), (tlspa, .inl (cI, 20, .inl tlspf)), (tlscself, .inr (2, [.ref tlsca])), (tlsca, .inl (cI, 20, .inl tlscf)), (twself, .inr (5, [.ref twa, .int twmany])), (twa, .inl (cI, 12, .inl twf)), (tsself, .inr (2, [.ref tsa])), (tsa, .inl (cI, 3, .inl tsf)), (cself, .inr (0, [.ref ca, .ref cb, .int cnoi])), (ca, .inl (cI, 12, .inl canc)), (cb, .inl (cJ, 12, .inr (.inl crst)))] H := hP
  replace hD : va_D A [(self, .inr (3, [.ref a, .int len, .int sta, .int (0 : Int32), .int kin, .int fst, .int snd, .int don, .int rea, .int cau])), (a, .inl (cI, 60, .inl ch)), (tself, .inr (4, [.ref tlself, .ref twself, .ref tsself, .ref cself, .int tnoi, .int tobs, .int tres])), (tlself, .inr (1, [.ref tlplself, .ref tlpaself, .ref tlogself, .ref tldrself, .ref tlspself, .ref tlscself, .int tlmany, .int tlgens])), (tlplself, .inr (2, [.ref tlpla])), (tlpla, .inl (cI, 240, .inl tlplf)), (tlpaself, .inr (2, [.ref tlpaa])), (tlpaa, .inl (cI, 240, .inl tlpaf)), (tlogself, .inr (2, [.ref tloga])), (tloga, .inl (cI, 20, .inl tlogf)), (tldrself, .inr (2, [.ref tldra])), (tldra, .inl (cI, 20, .inl tldrf)), (tlspself, .inr (2, [.ref tlspa])), (tlspa, .inl (cI, 20, .inl tlspf)), (tlscself, .inr (2, [.ref tlsca])), (tlsca, .inl (cI, 20, .inl tlscf)), (twself, .inr (5, [.ref twa, .int twmany])), (twa, .inl (cI, 12, .inl twf)), (tsself, .inr (2, [.ref tsa])), (tsa, .inl (cI, 3, .inl tsf)), (cself, .inr (0, [.ref ca, .ref cb, .int cnoi])), (ca, .inl (cI, 12, .inl canc)), (cb, .inl (cJ, 12, .inr (.inl crst)))] := hD
  refine lv_aload_n (pc := 5) hx hb dX3_perform_5 rfl (lv_at hl 0 rfl) ?_
  refine lv_iconst (v := 0) (pc := 6) hx hb dX3_perform_6 (by decide) ?_
  refine va_put (pc := 7) (D := D) (ci := 3) (v := .int (0 : Int32)) (ty := .int) (C := RX3) (T := TX3) (N := 10) hx hb hts hnX3 tyX3 tyX3_ok nmX3 hown hK.1 hP hD hS 0 rfl rfl 7 (Nat.le_of_ble_eq_true rfl) hk684 (fun _ h9 => h9) rfl (by decide +kernel) rfl rfl (Nat.le_of_ble_eq_true rfl) dX3_perform_7 (fun H locs hP hD hS => ?_)
  replace hP : va_P D vwCl [(self, .inr (3, [.ref a, .int len, .int sta, .int (0 : Int32), .int kin, .int fst, .int snd, .int (0 : Int32), .int rea, .int cau])), (a, .inl (cI, 60, .inl ch)), (tself, .inr (4, [.ref tlself, .ref twself, .ref tsself, .ref cself, .int tnoi, .int tobs, .int tres])), (tlself, .inr (1, [.ref tlplself, .ref tlpaself, .ref tlogself, .ref tldrself, .ref tlspself, .ref tlscself, .int tlmany, .int tlgens])), (tlplself, .inr (2, [.ref tlpla])), (tlpla, .inl (cI, 240, .inl tlplf)), (tlpaself, .inr (2, [.ref tlpaa])), (tlpaa, .inl (cI, 240, .inl tlpaf)), (tlogself, .inr (2, [.ref tloga])), (tloga, .inl (cI, 20, .inl tlogf)), (tldrself, .inr (2, [.ref tldra])), (tldra, .inl (cI, 20, .inl tldrf)), (tlspself, .inr (2, [.ref tlspa])), (tlspa, .inl (cI, 20, .inl tlspf)), (tlscself, .inr (2, [.ref tlsca])), (tlsca, .inl (cI, 20, .inl tlscf)), (twself, .inr (5, [.ref twa, .int twmany])), (twa, .inl (cI, 12, .inl twf)), (tsself, .inr (2, [.ref tsa])), (tsa, .inl (cI, 3, .inl tsf)), (cself, .inr (0, [.ref ca, .ref cb, .int cnoi])), (ca, .inl (cI, 12, .inl canc)), (cb, .inl (cJ, 12, .inr (.inl crst)))] H := hP
  replace hD : va_D A [(self, .inr (3, [.ref a, .int len, .int sta, .int (0 : Int32), .int kin, .int fst, .int snd, .int (0 : Int32), .int rea, .int cau])), (a, .inl (cI, 60, .inl ch)), (tself, .inr (4, [.ref tlself, .ref twself, .ref tsself, .ref cself, .int tnoi, .int tobs, .int tres])), (tlself, .inr (1, [.ref tlplself, .ref tlpaself, .ref tlogself, .ref tldrself, .ref tlspself, .ref tlscself, .int tlmany, .int tlgens])), (tlplself, .inr (2, [.ref tlpla])), (tlpla, .inl (cI, 240, .inl tlplf)), (tlpaself, .inr (2, [.ref tlpaa])), (tlpaa, .inl (cI, 240, .inl tlpaf)), (tlogself, .inr (2, [.ref tloga])), (tloga, .inl (cI, 20, .inl tlogf)), (tldrself, .inr (2, [.ref tldra])), (tldra, .inl (cI, 20, .inl tldrf)), (tlspself, .inr (2, [.ref tlspa])), (tlspa, .inl (cI, 20, .inl tlspf)), (tlscself, .inr (2, [.ref tlsca])), (tlsca, .inl (cI, 20, .inl tlscf)), (twself, .inr (5, [.ref twa, .int twmany])), (twa, .inl (cI, 12, .inl twf)), (tsself, .inr (2, [.ref tsa])), (tsa, .inl (cI, 3, .inl tsf)), (cself, .inr (0, [.ref ca, .ref cb, .int cnoi])), (ca, .inl (cI, 12, .inl canc)), (cb, .inl (cJ, 12, .inr (.inl crst)))] := hD
  refine lv_iconst (v := 0) (pc := 10) hx hb dX3_perform_10 (by decide) ?_
  refine lv_istore_n (lv' := [(2, .int (0 : Int32)), (0, .ref self), (1, .ref tself)]) (pc := 11) hx hb dX3_perform_11 rfl hl (by decide) rfl (fun ls hl => ?_)
  refine am_join23_s (fun (u1 : Int32) (u2 : Int32) (u3 : Int32) (u4 : Int32) (u5 : Int32) (u6 : Int32) (u7 : Int32) (u8 : Int32) (u9 : Int32) (u10 : Int32) (u11 : Int32) (u12 : Int32) (f13 : Nat → Int32) (f14 : Nat → Int32) (f15 : Nat → Int32) (f16 : Nat → Int32) (f17 : Nat → Int32) (f18 : Nat → Int32) (u19 : Int32) (f20 : Nat → Int32) (u21 : Int32) (f22 : Nat → Int32) (f23 : Nat → Int64) => ∀ (ls : Array Slot), lv_has ls 4 [] → ∀ (H : Heap) (locs : List Loc), va_P D vwCl [(self, .inr (3, [.ref a, .int len, .int u1, .int u2, .int u3, .int u4, .int u5, .int u6, .int u7, .int u8])), (a, .inl (cI, 60, .inl ch)), (tself, .inr (4, [.ref tlself, .ref twself, .ref tsself, .ref cself, .int u9, .int u10, .int u11])), (tlself, .inr (1, [.ref tlplself, .ref tlpaself, .ref tlogself, .ref tldrself, .ref tlspself, .ref tlscself, .int tlmany, .int u12])), (tlplself, .inr (2, [.ref tlpla])), (tlpla, .inl (cI, 240, .inl f13)), (tlpaself, .inr (2, [.ref tlpaa])), (tlpaa, .inl (cI, 240, .inl f14)), (tlogself, .inr (2, [.ref tloga])), (tloga, .inl (cI, 20, .inl f15)), (tldrself, .inr (2, [.ref tldra])), (tldra, .inl (cI, 20, .inl f16)), (tlspself, .inr (2, [.ref tlspa])), (tlspa, .inl (cI, 20, .inl f17)), (tlscself, .inr (2, [.ref tlsca])), (tlsca, .inl (cI, 20, .inl f18)), (twself, .inr (5, [.ref twa, .int u19])), (twa, .inl (cI, 12, .inl f20)), (tsself, .inr (2, [.ref tsa])), (tsa, .inl (cI, 3, .inl tsf)), (cself, .inr (0, [.ref ca, .ref cb, .int u21])), (ca, .inl (cI, 12, .inl f22)), (cb, .inl (cJ, 12, .inr (.inl f23)))] H → va_D A [(self, .inr (3, [.ref a, .int len, .int u1, .int u2, .int u3, .int u4, .int u5, .int u6, .int u7, .int u8])), (a, .inl (cI, 60, .inl ch)), (tself, .inr (4, [.ref tlself, .ref twself, .ref tsself, .ref cself, .int u9, .int u10, .int u11])), (tlself, .inr (1, [.ref tlplself, .ref tlpaself, .ref tlogself, .ref tldrself, .ref tlspself, .ref tlscself, .int tlmany, .int u12])), (tlplself, .inr (2, [.ref tlpla])), (tlpla, .inl (cI, 240, .inl f13)), (tlpaself, .inr (2, [.ref tlpaa])), (tlpaa, .inl (cI, 240, .inl f14)), (tlogself, .inr (2, [.ref tloga])), (tloga, .inl (cI, 20, .inl f15)), (tldrself, .inr (2, [.ref tldra])), (tldra, .inl (cI, 20, .inl f16)), (tlspself, .inr (2, [.ref tlspa])), (tlspa, .inl (cI, 20, .inl f17)), (tlscself, .inr (2, [.ref tlsca])), (tlsca, .inl (cI, 20, .inl f18)), (twself, .inr (5, [.ref twa, .int u19])), (twa, .inl (cI, 12, .inl f20)), (tsself, .inr (2, [.ref tsa])), (tsa, .inl (cI, 3, .inl tsf)), (cself, .inr (0, [.ref ca, .ref cb, .int u21])), (ca, .inl (cI, 12, .inl f22)), (cb, .inl (cJ, 12, .inr (.inl f23)))] → va_S A s.heap H locs → W p l e rmX3_perform s m args below meth c H locs 0 0 Q (F0 m 149 ls [])) h (fun u1 u2 u3 u4 u5 u6 u7 u8 u9 u10 u11 u12 f13 f14 f15 f16 f17 f18 u19 f20 u21 f22 f23 h ls hl H locs hP hD hS => ?_) (fun K24 hK24 h => ?_)
  · refine lv_iconst (v := 1) (pc := 149) hx hb dX3_perform_149 (by decide) ?_
    obtain ⟨e1, e2, e3, e4, e5, e6, e7, e8, e9, e10, e11, e12, e13, e14, e15, e16, e17, e18, e19, e20, e21, e22, e23, e24⟩ := am_ret24 h
    exact hret _ _ _ _ _ dX3_perform_150 rfl e1 (by rw [← e2, ← e3, ← e4, ← e5, ← e6, ← e7, ← e8, ← e9, ← e10, ← e11, ← e12, ← e13, ← e14, ← e15, ← e16, ← e17, ← e18, ← e19, ← e20, ← e21, ← e22, ← e23, ← e24]; exact hP) hS
  refine am_loop24_s (fun (x25 : Int32) (u26 : Int32) (u27 : Int32) (u28 : Int32) (u29 : Int32) (u30 : Int32) (u31 : Int32) (u32 : Int32) (u33 : Int32) (u34 : Int32) (u35 : Int32) (u36 : Int32) (u37 : Int32) (f38 : Nat → Int32) (f39 : Nat → Int32) (f40 : Nat → Int32) (f41 : Nat → Int32) (f42 : Nat → Int32) (f43 : Nat → Int32) (u44 : Int32) (f45 : Nat → Int32) (u46 : Int32) (f47 : Nat → Int32) (f48 : Nat → Int64) => ∀ (ls : Array Slot), lv_has ls 4 [(0, .ref self), (1, .ref tself), (2, .int x25)] → ∀ (H : Heap) (locs : List Loc), va_P D vwCl [(self, .inr (3, [.ref a, .int len, .int u26, .int u27, .int u28, .int u29, .int u30, .int u31, .int u32, .int u33])), (a, .inl (cI, 60, .inl ch)), (tself, .inr (4, [.ref tlself, .ref twself, .ref tsself, .ref cself, .int u34, .int u35, .int u36])), (tlself, .inr (1, [.ref tlplself, .ref tlpaself, .ref tlogself, .ref tldrself, .ref tlspself, .ref tlscself, .int tlmany, .int u37])), (tlplself, .inr (2, [.ref tlpla])), (tlpla, .inl (cI, 240, .inl f38)), (tlpaself, .inr (2, [.ref tlpaa])), (tlpaa, .inl (cI, 240, .inl f39)), (tlogself, .inr (2, [.ref tloga])), (tloga, .inl (cI, 20, .inl f40)), (tldrself, .inr (2, [.ref tldra])), (tldra, .inl (cI, 20, .inl f41)), (tlspself, .inr (2, [.ref tlspa])), (tlspa, .inl (cI, 20, .inl f42)), (tlscself, .inr (2, [.ref tlsca])), (tlsca, .inl (cI, 20, .inl f43)), (twself, .inr (5, [.ref twa, .int u44])), (twa, .inl (cI, 12, .inl f45)), (tsself, .inr (2, [.ref tsa])), (tsa, .inl (cI, 3, .inl tsf)), (cself, .inr (0, [.ref ca, .ref cb, .int u46])), (ca, .inl (cI, 12, .inl f47)), (cb, .inl (cJ, 12, .inr (.inl f48)))] H → va_D A [(self, .inr (3, [.ref a, .int len, .int u26, .int u27, .int u28, .int u29, .int u30, .int u31, .int u32, .int u33])), (a, .inl (cI, 60, .inl ch)), (tself, .inr (4, [.ref tlself, .ref twself, .ref tsself, .ref cself, .int u34, .int u35, .int u36])), (tlself, .inr (1, [.ref tlplself, .ref tlpaself, .ref tlogself, .ref tldrself, .ref tlspself, .ref tlscself, .int tlmany, .int u37])), (tlplself, .inr (2, [.ref tlpla])), (tlpla, .inl (cI, 240, .inl f38)), (tlpaself, .inr (2, [.ref tlpaa])), (tlpaa, .inl (cI, 240, .inl f39)), (tlogself, .inr (2, [.ref tloga])), (tloga, .inl (cI, 20, .inl f40)), (tldrself, .inr (2, [.ref tldra])), (tldra, .inl (cI, 20, .inl f41)), (tlspself, .inr (2, [.ref tlspa])), (tlspa, .inl (cI, 20, .inl f42)), (tlscself, .inr (2, [.ref tlsca])), (tlsca, .inl (cI, 20, .inl f43)), (twself, .inr (5, [.ref twa, .int u44])), (twa, .inl (cI, 12, .inl f45)), (tsself, .inr (2, [.ref tsa])), (tsa, .inl (cI, 3, .inl tsf)), (cself, .inr (0, [.ref ca, .ref cb, .int u46])), (ca, .inl (cI, 12, .inl f47)), (cb, .inl (cJ, 12, .inr (.inl f48)))] → va_S A s.heap H locs → W p l e rmX3_perform s m args below meth c H locs 0 0 Q (F0 m 12 ls [])) (fun rec49 ihrec49 x25 u26 u27 u28 u29 u30 u31 u32 u33 u34 u35 u36 u37 f38 f39 f40 f41 f42 f43 u44 f45 u46 f47 f48 h ls hl H locs hP hD hS => ?_) _ _ _ _ _ _ _ _ _ _ _ _ _ _ _ _ _ _ _ _ _ _ _ _ _ h ls (lv_sub hl [1, 2, 0] rfl) H locs hP hD hS
  unfold F_X3_perform_B12 at h
  refine lv_iload_n (pc := 12) hx hb dX3_perform_12 rfl (lv_at hl 2 rfl) ?_
  refine lv_bipush (v := 60) (pc := 13) hx hb dX3_perform_13 (by decide) ?_
  refine lv_icmp_ge (pc := 15) (tgt := 149) hx hb dX3_perform_15 (by decide) (fun cc => ?_) (fun cc => ?_)
  · replace h := am_t cc h
    exact hK24 _ _ _ _ _ _ _ _ _ _ _ _ _ _ _ _ _ _ _ _ _ _ _ h ls (lv_sub hl [] rfl) H locs hP hD hS
  replace h := am_f cc h
  refine lv_aload_n (pc := 18) hx hb dX3_perform_18 rfl (lv_at hl 0 rfl) ?_
  refine va_get (pc := 19) (D := D) (ci := 3) (v := .int u27) (C := RX3) (T := TX3) (N := 10) hx hb hts hnX3 hown hK.1 hP 0 rfl rfl 3 (Nat.le_of_ble_eq_true rfl) hk683 (fun _ h9 => h9) rfl dX3_perform_19 ?_
  refine lv_aload_n (pc := 22) hx hb dX3_perform_22 rfl (lv_at hl 0 rfl) ?_
  refine va_get (pc := 23) (D := D) (ci := 3) (v := .int len) (C := RX3) (T := TX3) (N := 10) hx hb hts hnX3 hown hK.1 hP 0 rfl rfl 1 (Nat.le_of_ble_eq_true rfl) hk622 (fun _ h9 => h9) rfl dX3_perform_23 ?_
  refine lv_icmp_ge (pc := 26) (tgt := 149) hx hb dX3_perform_26 (by decide) (fun cc => ?_) (fun cc => ?_)
  · replace h := am_t cc h
    exact hK24 _ _ _ _ _ _ _ _ _ _ _ _ _ _ _ _ _ _ _ _ _ _ _ h ls (lv_sub hl [] rfl) H locs hP hD hS
  replace h := am_f cc h
  refine lv_aload_n (pc := 29) hx hb dX3_perform_29 rfl (lv_at hl 0 rfl) ?_
  refine lv_aload_n (pc := 30) hx hb dX3_perform_30 rfl (lv_at hl 0 rfl) ?_
  refine va_get (pc := 31) (D := D) (ci := 3) (v := .int u27) (C := RX3) (T := TX3) (N := 10) hx hb hts hnX3 hown hK.1 hP 0 rfl rfl 3 (Nat.le_of_ble_eq_true rfl) hk683 (fun _ h9 => h9) rfl dX3_perform_31 ?_
  refine va_put (pc := 34) (D := D) (ci := 3) (v := .int u27) (ty := .int) (C := RX3) (T := TX3) (N := 10) hx hb hts hnX3 tyX3 tyX3_ok nmX3 hown hK.1 hP hD hS 0 rfl rfl 2 (Nat.le_of_ble_eq_true rfl) hk685 (fun _ h9 => h9) rfl (by decide +kernel) rfl rfl (Nat.le_of_ble_eq_true rfl) dX3_perform_34 (fun H locs hP hD hS => ?_)
  replace hP : va_P D vwCl [(self, .inr (3, [.ref a, .int len, .int u27, .int u27, .int u28, .int u29, .int u30, .int u31, .int u32, .int u33])), (a, .inl (cI, 60, .inl ch)), (tself, .inr (4, [.ref tlself, .ref twself, .ref tsself, .ref cself, .int u34, .int u35, .int u36])), (tlself, .inr (1, [.ref tlplself, .ref tlpaself, .ref tlogself, .ref tldrself, .ref tlspself, .ref tlscself, .int tlmany, .int u37])), (tlplself, .inr (2, [.ref tlpla])), (tlpla, .inl (cI, 240, .inl f38)), (tlpaself, .inr (2, [.ref tlpaa])), (tlpaa, .inl (cI, 240, .inl f39)), (tlogself, .inr (2, [.ref tloga])), (tloga, .inl (cI, 20, .inl f40)), (tldrself, .inr (2, [.ref tldra])), (tldra, .inl (cI, 20, .inl f41)), (tlspself, .inr (2, [.ref tlspa])), (tlspa, .inl (cI, 20, .inl f42)), (tlscself, .inr (2, [.ref tlsca])), (tlsca, .inl (cI, 20, .inl f43)), (twself, .inr (5, [.ref twa, .int u44])), (twa, .inl (cI, 12, .inl f45)), (tsself, .inr (2, [.ref tsa])), (tsa, .inl (cI, 3, .inl tsf)), (cself, .inr (0, [.ref ca, .ref cb, .int u46])), (ca, .inl (cI, 12, .inl f47)), (cb, .inl (cJ, 12, .inr (.inl f48)))] H := hP
  replace hD : va_D A [(self, .inr (3, [.ref a, .int len, .int u27, .int u27, .int u28, .int u29, .int u30, .int u31, .int u32, .int u33])), (a, .inl (cI, 60, .inl ch)), (tself, .inr (4, [.ref tlself, .ref twself, .ref tsself, .ref cself, .int u34, .int u35, .int u36])), (tlself, .inr (1, [.ref tlplself, .ref tlpaself, .ref tlogself, .ref tldrself, .ref tlspself, .ref tlscself, .int tlmany, .int u37])), (tlplself, .inr (2, [.ref tlpla])), (tlpla, .inl (cI, 240, .inl f38)), (tlpaself, .inr (2, [.ref tlpaa])), (tlpaa, .inl (cI, 240, .inl f39)), (tlogself, .inr (2, [.ref tloga])), (tloga, .inl (cI, 20, .inl f40)), (tldrself, .inr (2, [.ref tldra])), (tldra, .inl (cI, 20, .inl f41)), (tlspself, .inr (2, [.ref tlspa])), (tlspa, .inl (cI, 20, .inl f42)), (tlscself, .inr (2, [.ref tlsca])), (tlsca, .inl (cI, 20, .inl f43)), (twself, .inr (5, [.ref twa, .int u44])), (twa, .inl (cI, 12, .inl f45)), (tsself, .inr (2, [.ref tsa])), (tsa, .inl (cI, 3, .inl tsf)), (cself, .inr (0, [.ref ca, .ref cb, .int u46])), (ca, .inl (cI, 12, .inl f47)), (cb, .inl (cJ, 12, .inr (.inl f48)))] := hD
  refine lv_aload_n (pc := 37) hx hb dX3_perform_37 rfl (lv_at hl 0 rfl) ?_
  obtain ⟨r50, u51, u52, u53, u54, hc54, h⟩ := am_call5_s h
  refine kc_Wi (pc := 38) (ci := 3) ⟨hx, hb, hml, hown, hts⟩ hP hK hD hS hA [] (c_X3_readOrder l D cI cJ self a len u27 u27 u28 u29 u30 u31 u32 u33 ch r50 u51 u52 u53 u54 hc54 _) [0, 1] rfl rfl rfl (cwV 0 hts (gzV wl691 wl692 wl693 wl27 wl694) rfl rfl rfl ⟨rfl, hdX3_readOrder⟩ ⟨Nat.le_of_ble_eq_true rfl, Nat.le_of_ble_eq_true rfl⟩) rfl rfl [] rfl hl.1 rfl (Nat.le_of_ble_eq_true rfl) dX3_perform_38 ⟨Nat.zero_le _, Nat.zero_le _⟩ (fun H locs hP hD hS => ?_)
  replace hP : va_P D vwCl [(self, .inr (3, [.ref a, .int len, .int u27, .int u51, .int u52, .int u53, .int u54, .int u31, .int u32, .int u33])), (a, .inl (cI, 60, .inl ch)), (tself, .inr (4, [.ref tlself, .ref twself, .ref tsself, .ref cself, .int u34, .int u35, .int u36])), (tlself, .inr (1, [.ref tlplself, .ref tlpaself, .ref tlogself, .ref tldrself, .ref tlspself, .ref tlscself, .int tlmany, .int u37])), (tlplself, .inr (2, [.ref tlpla])), (tlpla, .inl (cI, 240, .inl f38)), (tlpaself, .inr (2, [.ref tlpaa])), (tlpaa, .inl (cI, 240, .inl f39)), (tlogself, .inr (2, [.ref tloga])), (tloga, .inl (cI, 20, .inl f40)), (tldrself, .inr (2, [.ref tldra])), (tldra, .inl (cI, 20, .inl f41)), (tlspself, .inr (2, [.ref tlspa])), (tlspa, .inl (cI, 20, .inl f42)), (tlscself, .inr (2, [.ref tlsca])), (tlsca, .inl (cI, 20, .inl f43)), (twself, .inr (5, [.ref twa, .int u44])), (twa, .inl (cI, 12, .inl f45)), (tsself, .inr (2, [.ref tsa])), (tsa, .inl (cI, 3, .inl tsf)), (cself, .inr (0, [.ref ca, .ref cb, .int u46])), (ca, .inl (cI, 12, .inl f47)), (cb, .inl (cJ, 12, .inr (.inl f48)))] H := hP
  replace hD : va_D A [(self, .inr (3, [.ref a, .int len, .int u27, .int u51, .int u52, .int u53, .int u54, .int u31, .int u32, .int u33])), (a, .inl (cI, 60, .inl ch)), (tself, .inr (4, [.ref tlself, .ref twself, .ref tsself, .ref cself, .int u34, .int u35, .int u36])), (tlself, .inr (1, [.ref tlplself, .ref tlpaself, .ref tlogself, .ref tldrself, .ref tlspself, .ref tlscself, .int tlmany, .int u37])), (tlplself, .inr (2, [.ref tlpla])), (tlpla, .inl (cI, 240, .inl f38)), (tlpaself, .inr (2, [.ref tlpaa])), (tlpaa, .inl (cI, 240, .inl f39)), (tlogself, .inr (2, [.ref tloga])), (tloga, .inl (cI, 20, .inl f40)), (tldrself, .inr (2, [.ref tldra])), (tldra, .inl (cI, 20, .inl f41)), (tlspself, .inr (2, [.ref tlspa])), (tlspa, .inl (cI, 20, .inl f42)), (tlscself, .inr (2, [.ref tlsca])), (tlsca, .inl (cI, 20, .inl f43)), (twself, .inr (5, [.ref twa, .int u44])), (twa, .inl (cI, 12, .inl f45)), (tsself, .inr (2, [.ref tsa])), (tsa, .inl (cI, 3, .inl tsf)), (cself, .inr (0, [.ref ca, .ref cb, .int u46])), (ca, .inl (cI, 12, .inl f47)), (cb, .inl (cJ, 12, .inr (.inl f48)))] := hD
  refine lv_if_ne (pc := 41) (tgt := 64) hx hb dX3_perform_41 (by decide) (fun cc => ?_) (fun cc => ?_)
  · replace h := am_f cc h
    refine lv_aload_n (pc := 64) hx hb dX3_perform_64 rfl (lv_at hl 0 rfl) ?_
    refine va_get (pc := 65) (D := D) (ci := 3) (v := .int u52) (C := RX3) (T := TX3) (N := 10) hx hb hts hnX3 hown hK.1 hP 0 rfl rfl 4 (Nat.le_of_ble_eq_true rfl) hk688 (fun _ h9 => h9) rfl dX3_perform_65 ?_
    refine lv_bipush (v := 109) (pc := 68) hx hb dX3_perform_68 (by decide) ?_
    refine am_join16_s (fun (j55 : Int32) (u56 : Int32) (u57 : Int32) (u58 : Int32) (u59 : Int32) (f60 : Nat → Int32) (f61 : Nat → Int32) (f62 : Nat → Int32) (f63 : Nat → Int32) (f64 : Nat → Int32) (f65 : Nat → Int32) (u66 : Int32) (f67 : Nat → Int32) (u68 : Int32) (f69 : Nat → Int32) (f70 : Nat → Int64) => ∀ (ls : Array Slot), lv_has ls 4 [(0, .ref self), (1, .ref tself), (2, .int x25)] → ∀ (H : Heap) (locs : List Loc), va_P D vwCl [(self, .inr (3, [.ref a, .int len, .int u27, .int u51, .int u52, .int u53, .int u54, .int u31, .int u32, .int u33])), (a, .inl (cI, 60, .inl ch)), (tself, .inr (4, [.ref tlself, .ref twself, .ref tsself, .ref cself, .int u56, .int u57, .int u58])), (tlself, .inr (1, [.ref tlplself, .ref tlpaself, .ref tlogself, .ref tldrself, .ref tlspself, .ref tlscself, .int tlmany, .int u59])), (tlplself, .inr (2, [.ref tlpla])), (tlpla, .inl (cI, 240, .inl f60)), (tlpaself, .inr (2, [.ref tlpaa])), (tlpaa, .inl (cI, 240, .inl f61)), (tlogself, .inr (2, [.ref tloga])), (tloga, .inl (cI, 20, .inl f62)), (tldrself, .inr (2, [.ref tldra])), (tldra, .inl (cI, 20, .inl f63)), (tlspself, .inr (2, [.ref tlspa])), (tlspa, .inl (cI, 20, .inl f64)), (tlscself, .inr (2, [.ref tlsca])), (tlsca, .inl (cI, 20, .inl f65)), (twself, .inr (5, [.ref twa, .int u66])), (twa, .inl (cI, 12, .inl f67)), (tsself, .inr (2, [.ref tsa])), (tsa, .inl (cI, 3, .inl tsf)), (cself, .inr (0, [.ref ca, .ref cb, .int u68])), (ca, .inl (cI, 12, .inl f69)), (cb, .inl (cJ, 12, .inr (.inl f70)))] H → va_D A [(self, .inr (3, [.ref a, .int len, .int u27, .int u51, .int u52, .int u53, .int u54, .int u31, .int u32, .int u33])), (a, .inl (cI, 60, .inl ch)), (tself, .inr (4, [.ref tlself, .ref twself, .ref tsself, .ref cself, .int u56, .int u57, .int u58])), (tlself, .inr (1, [.ref tlplself, .ref tlpaself, .ref tlogself, .ref tldrself, .ref tlspself, .ref tlscself, .int tlmany, .int u59])), (tlplself, .inr (2, [.ref tlpla])), (tlpla, .inl (cI, 240, .inl f60)), (tlpaself, .inr (2, [.ref tlpaa])), (tlpaa, .inl (cI, 240, .inl f61)), (tlogself, .inr (2, [.ref tloga])), (tloga, .inl (cI, 20, .inl f62)), (tldrself, .inr (2, [.ref tldra])), (tldra, .inl (cI, 20, .inl f63)), (tlspself, .inr (2, [.ref tlspa])), (tlspa, .inl (cI, 20, .inl f64)), (tlscself, .inr (2, [.ref tlsca])), (tlsca, .inl (cI, 20, .inl f65)), (twself, .inr (5, [.ref twa, .int u66])), (twa, .inl (cI, 12, .inl f67)), (tsself, .inr (2, [.ref tsa])), (tsa, .inl (cI, 3, .inl tsf)), (cself, .inr (0, [.ref ca, .ref cb, .int u68])), (ca, .inl (cI, 12, .inl f69)), (cb, .inl (cJ, 12, .inr (.inl f70)))] → va_S A s.heap H locs → W p l e rmX3_perform s m args below meth c H locs 0 0 Q (F0 m 116 ls [.int j55])) h (fun j55 u56 u57 u58 u59 f60 f61 f62 f63 f64 f65 u66 f67 u68 f69 f70 h ls hl H locs hP hD hS => ?_) (fun J71 hJ71 h => ?_)
    · refine lv_istore_n (lv' := [(3, .int j55), (0, .ref self), (1, .ref tself), (2, .int x25)]) (pc := 116) hx hb dX3_perform_116 rfl hl (by decide) rfl (fun ls hl => ?_)
      refine lv_iload_n (pc := 117) hx hb dX3_perform_117 rfl (lv_at hl 0 rfl) ?_
      refine lv_if_ge (pc := 118) (tgt := 133) hx hb dX3_perform_118 (by decide) (fun cc => ?_) (fun cc => ?_)
      · replace h := am_t cc h
        refine lv_aload_n (pc := 133) hx hb dX3_perform_133 rfl (lv_at hl 1 rfl) ?_
        refine lv_dup (pc := 134) hx hb dX3_perform_134 rfl ?_
        refine va_get (pc := 135) (D := D) (ci := 3) (v := .int u31) (C := RX3) (T := TX3) (N := 10) hx hb hts hnX3 hown hK.1 hP 0 rfl rfl 7 (Nat.le_of_ble_eq_true rfl) hk684 (fun _ h9 => h9) rfl dX3_perform_135 ?_
        refine lv_iconst (v := 1) (pc := 138) hx hb dX3_perform_138 (by decide) ?_
        refine lv_iadd (pc := 139) hx hb dX3_perform_139 ?_
        refine lv_topi (fun x72 ex72 => ?_)
        replace h := am_let_s ex72 h
        refine va_put (pc := 140) (D := D) (ci := 3) (v := .int x72) (ty := .int) (C := RX3) (T := TX3) (N := 10) hx hb hts hnX3 tyX3 tyX3_ok nmX3 hown hK.1 hP hD hS 0 rfl rfl 7 (Nat.le_of_ble_eq_true rfl) hk684 (fun _ h9 => h9) rfl (by decide +kernel) rfl rfl (Nat.le_of_ble_eq_true rfl) dX3_perform_140 (fun H locs hP hD hS => ?_)
        replace hP : va_P D vwCl [(self, .inr (3, [.ref a, .int len, .int u27, .int u51, .int u52, .int u53, .int u54, .int x72, .int u32, .int u33])), (a, .inl (cI, 60, .inl ch)), (tself, .inr (4, [.ref tlself, .ref twself, .ref tsself, .ref cself, .int u56, .int u57, .int u58])), (tlself, .inr (1, [.ref tlplself, .ref tlpaself, .ref tlogself, .ref tldrself, .ref tlspself, .ref tlscself, .int tlmany, .int u59])), (tlplself, .inr (2, [.ref tlpla])), (tlpla, .inl (cI, 240, .inl f60)), (tlpaself, .inr (2, [.ref tlpaa])), (tlpaa, .inl (cI, 240, .inl f61)), (tlogself, .inr (2, [.ref tloga])), (tloga, .inl (cI, 20, .inl f62)), (tldrself, .inr (2, [.ref tldra])), (tldra, .inl (cI, 20, .inl f63)), (tlspself, .inr (2, [.ref tlspa])), (tlspa, .inl (cI, 20, .inl f64)), (tlscself, .inr (2, [.ref tlsca])), (tlsca, .inl (cI, 20, .inl f65)), (twself, .inr (5, [.ref twa, .int u66])), (twa, .inl (cI, 12, .inl f67)), (tsself, .inr (2, [.ref tsa])), (tsa, .inl (cI, 3, .inl tsf)), (cself, .inr (0, [.ref ca, .ref cb, .int u68])), (ca, .inl (cI, 12, .inl f69)), (cb, .inl (cJ, 12, .inr (.inl f70)))] H := hP
        replace hD : va_D A [(self, .inr (3, [.ref a, .int len, .int u27, .int u51, .int u52, .int u53, .int u54, .int x72, .int u32, .int u33])), (a, .inl (cI, 60, .inl ch)), (tself, .inr (4, [.ref tlself, .ref twself, .ref tsself, .ref cself, .int u56, .int u57, .int u58])), (tlself, .inr (1, [.ref tlplself, .ref tlpaself, .ref tlogself, .ref tldrself, .ref tlspself, .ref tlscself, .int tlmany, .int u59])), (tlplself, .inr (2, [.ref tlpla])), (tlpla, .inl (cI, 240, .inl f60)), (tlpaself, .inr (2, [.ref tlpaa])), (tlpaa, .inl (cI, 240, .inl f61)), (tlogself, .inr (2, [.ref tloga])), (tloga, .inl (cI, 20, .inl f62)), (tldrself, .inr (2, [.ref tldra])), (tldra, .inl (cI, 20, .inl f63)), (tlspself, .inr (2, [.ref tlspa])), (tlspa, .inl (cI, 20, .inl f64)), (tlscself, .inr (2, [.ref tlsca])), (tlsca, .inl (cI, 20, .inl f65)), (twself, .inr (5, [.ref twa, .int u66])), (twa, .inl (cI, 12, .inl f67)), (tsself, .inr (2, [.ref tsa])), (tsa, .inl (cI, 3, .inl tsf)), (cself, .inr (0, [.ref ca, .ref cb, .int u68])), (ca, .inl (cI, 12, .inl f69)), (cb, .inl (cJ, 12, .inr (.inl f70)))] := hD
        obtain ⟨x73, ex73⟩ : ∃ y : Int32, y = (x25 + (1 : Int32)) := ⟨_, rfl⟩
        replace h := am_let_s ex73 h
        refine lv_iinc (pc := 143) (v := x73) (lv' := [(2, .int x73), (3, .int j55), (0, .ref self), (1, .ref tself)]) hx hb dX3_perform_143 hl (k := 3) rfl (by rw [ex73]; rfl) (by decide) rfl (fun ls hl => ?_)
        refine lv_goto (pc := 146) (tgt := 12) hx hb dX3_perform_146 (by decide) ?_
        exact ihrec49 _ _ _ _ _ _ _ _ _ _ _ _ _ _ _ _ _ _ _ _ _ _ _ _ h ls (lv_sub hl [2, 3, 0] rfl) H locs hP hD hS
      replace h := am_f cc h
      refine lv_aload_n (pc := 121) hx hb dX3_perform_121 rfl (lv_at hl 1 rfl) ?_
      refine lv_iconst (v := 2) (pc := 122) hx hb dX3_perform_122 (by decide) ?_
      refine va_put (pc := 123) (D := D) (ci := 3) (v := .int (2 : Int32)) (ty := .int) (C := RX3) (T := TX3) (N := 10) hx hb hts hnX3 tyX3 tyX3_ok nmX3 hown hK.1 hP hD hS 0 rfl rfl 8 (Nat.le_of_ble_eq_true rfl) hk686 (fun _ h9 => h9) rfl (by decide +kernel) rfl rfl (Nat.le_of_ble_eq_true rfl) dX3_perform_123 (fun H locs hP hD hS => ?_)
      replace hP : va_P D vwCl [(self, .inr (3, [.ref a, .int len, .int u27, .int u51, .int u52, .int u53, .int u54, .int u31, .int (2 : Int32), .int u33])), (a, .inl (cI, 60, .inl ch)), (tself, .inr (4, [.ref tlself, .ref twself, .ref tsself, .ref cself, .int u56, .int u57, .int u58])), (tlself, .inr (1, [.ref tlplself, .ref tlpaself, .ref tlogself, .ref tldrself, .ref tlspself, .ref tlscself, .int tlmany, .int u59])), (tlplself, .inr (2, [.ref tlpla])), (tlpla, .inl (cI, 240, .inl f60)), (tlpaself, .inr (2, [.ref tlpaa])), (tlpaa, .inl (cI, 240, .inl f61)), (tlogself, .inr (2, [.ref tloga])), (tloga, .inl (cI, 20, .inl f62)), (tldrself, .inr (2, [.ref tldra])), (tldra, .inl (cI, 20, .inl f63)), (tlspself, .inr (2, [.ref tlspa])), (tlspa, .inl (cI, 20, .inl f64)), (tlscself, .inr (2, [.ref tlsca])), (tlsca, .inl (cI, 20, .inl f65)), (twself, .inr (5, [.ref twa, .int u66])), (twa, .inl (cI, 12, .inl f67)), (tsself, .inr (2, [.ref tsa])), (tsa, .inl (cI, 3, .inl tsf)), (cself, .inr (0, [.ref ca, .ref cb, .int u68])), (ca, .inl (cI, 12, .inl f69)), (cb, .inl (cJ, 12, .inr (.inl f70)))] H := hP
      replace hD : va_D A [(self, .inr (3, [.ref a, .int len, .int u27, .int u51, .int u52, .int u53, .int u54, .int u31, .int (2 : Int32), .int u33])), (a, .inl (cI, 60, .inl ch)), (tself, .inr (4, [.ref tlself, .ref twself, .ref tsself, .ref cself, .int u56, .int u57, .int u58])), (tlself, .inr (1, [.ref tlplself, .ref tlpaself, .ref tlogself, .ref tldrself, .ref tlspself, .ref tlscself, .int tlmany, .int u59])), (tlplself, .inr (2, [.ref tlpla])), (tlpla, .inl (cI, 240, .inl f60)), (tlpaself, .inr (2, [.ref tlpaa])), (tlpaa, .inl (cI, 240, .inl f61)), (tlogself, .inr (2, [.ref tloga])), (tloga, .inl (cI, 20, .inl f62)), (tldrself, .inr (2, [.ref tldra])), (tldra, .inl (cI, 20, .inl f63)), (tlspself, .inr (2, [.ref tlspa])), (tlspa, .inl (cI, 20, .inl f64)), (tlscself, .inr (2, [.ref tlsca])), (tlsca, .inl (cI, 20, .inl f65)), (twself, .inr (5, [.ref twa, .int u66])), (twa, .inl (cI, 12, .inl f67)), (tsself, .inr (2, [.ref tsa])), (tsa, .inl (cI, 3, .inl tsf)), (cself, .inr (0, [.ref ca, .ref cb, .int u68])), (ca, .inl (cI, 12, .inl f69)), (cb, .inl (cJ, 12, .inr (.inl f70)))] := hD
      refine lv_aload_n (pc := 126) hx hb dX3_perform_126 rfl (lv_at hl 1 rfl) ?_
      refine lv_iload_n (pc := 127) hx hb dX3_perform_127 rfl (lv_at hl 0 rfl) ?_
      refine va_put (pc := 128) (D := D) (ci := 3) (v := .int j55) (ty := .int) (C := RX3) (T := TX3) (N := 10) hx hb hts hnX3 tyX3 tyX3_ok nmX3 hown hK.1 hP hD hS 0 rfl rfl 9 (Nat.le_of_ble_eq_true rfl) hk687 (fun _ h9 => h9) rfl (by decide +kernel) rfl rfl (Nat.le_of_ble_eq_true rfl) dX3_perform_128 (fun H locs hP hD hS => ?_)
      replace hP : va_P D vwCl [(self, .inr (3, [.ref a, .int len, .int u27, .int u51, .int u52, .int u53, .int u54, .int u31, .int (2 : Int32), .int j55])), (a, .inl (cI, 60, .inl ch)), (tself, .inr (4, [.ref tlself, .ref twself, .ref tsself, .ref cself, .int u56, .int u57, .int u58])), (tlself, .inr (1, [.ref tlplself, .ref tlpaself, .ref tlogself, .ref tldrself, .ref tlspself, .ref tlscself, .int tlmany, .int u59])), (tlplself, .inr (2, [.ref tlpla])), (tlpla, .inl (cI, 240, .inl f60)), (tlpaself, .inr (2, [.ref tlpaa])), (tlpaa, .inl (cI, 240, .inl f61)), (tlogself, .inr (2, [.ref tloga])), (tloga, .inl (cI, 20, .inl f62)), (tldrself, .inr (2, [.ref tldra])), (tldra, .inl (cI, 20, .inl f63)), (tlspself, .inr (2, [.ref tlspa])), (tlspa, .inl (cI, 20, .inl f64)), (tlscself, .inr (2, [.ref tlsca])), (tlsca, .inl (cI, 20, .inl f65)), (twself, .inr (5, [.ref twa, .int u66])), (twa, .inl (cI, 12, .inl f67)), (tsself, .inr (2, [.ref tsa])), (tsa, .inl (cI, 3, .inl tsf)), (cself, .inr (0, [.ref ca, .ref cb, .int u68])), (ca, .inl (cI, 12, .inl f69)), (cb, .inl (cJ, 12, .inr (.inl f70)))] H := hP
      replace hD : va_D A [(self, .inr (3, [.ref a, .int len, .int u27, .int u51, .int u52, .int u53, .int u54, .int u31, .int (2 : Int32), .int j55])), (a, .inl (cI, 60, .inl ch)), (tself, .inr (4, [.ref tlself, .ref twself, .ref tsself, .ref cself, .int u56, .int u57, .int u58])), (tlself, .inr (1, [.ref tlplself, .ref tlpaself, .ref tlogself, .ref tldrself, .ref tlspself, .ref tlscself, .int tlmany, .int u59])), (tlplself, .inr (2, [.ref tlpla])), (tlpla, .inl (cI, 240, .inl f60)), (tlpaself, .inr (2, [.ref tlpaa])), (tlpaa, .inl (cI, 240, .inl f61)), (tlogself, .inr (2, [.ref tloga])), (tloga, .inl (cI, 20, .inl f62)), (tldrself, .inr (2, [.ref tldra])), (tldra, .inl (cI, 20, .inl f63)), (tlspself, .inr (2, [.ref tlspa])), (tlspa, .inl (cI, 20, .inl f64)), (tlscself, .inr (2, [.ref tlsca])), (tlsca, .inl (cI, 20, .inl f65)), (twself, .inr (5, [.ref twa, .int u66])), (twa, .inl (cI, 12, .inl f67)), (tsself, .inr (2, [.ref tsa])), (tsa, .inl (cI, 3, .inl tsf)), (cself, .inr (0, [.ref ca, .ref cb, .int u68])), (ca, .inl (cI, 12, .inl f69)), (cb, .inl (cJ, 12, .inr (.inl f70)))] := hD
      refine lv_iconst (v := 0) (pc := 131) hx hb dX3_perform_131 (by decide) ?_
      obtain ⟨e1, e2, e3, e4, e5, e6, e7, e8, e9, e10, e11, e12, e13, e14, e15, e16, e17, e18, e19, e20, e21, e22, e23, e24⟩ := am_ret24 h
      exact hret _ _ _ _ _ dX3_perform_132 rfl e1 (by rw [← e2, ← e3, ← e4, ← e5, ← e6, ← e7, ← e8, ← e9, ← e10, ← e11, ← e12, ← e13, ← e14, ← e15, ← e16, ← e17, ← e18, ← e19, ← e20, ← e21, ← e22, ← e23, ← e24]; exact hP) hS
    refine lv_icmp_ne (pc := 70) (tgt := 88) hx hb dX3_perform_70 (by decide) (fun cc => ?_) (fun cc => ?_)
    · replace h := am_f cc h
      refine lv_aload_n (pc := 88) hx hb dX3_perform_88 rfl (lv_at hl 0 rfl) ?_
      refine va_get (pc := 89) (D := D) (ci := 3) (v := .int u52) (C := RX3) (T := TX3) (N := 10) hx hb hts hnX3 hown hK.1 hP 0 rfl rfl 4 (Nat.le_of_ble_eq_true rfl) hk688 (fun _ h9 => h9) rfl dX3_perform_89 ?_
      refine lv_bipush (v := 111) (pc := 92) hx hb dX3_perform_92 (by decide) ?_
      refine lv_icmp_ne (pc := 94) (tgt := 112) hx hb dX3_perform_94 (by decide) (fun cc => ?_) (fun cc => ?_)
      · replace h := am_f cc h
        refine lv_aload_n (pc := 112) hx hb dX3_perform_112 rfl (lv_at hl 1 rfl) ?_
        obtain ⟨r74, u75, u76, u77, f78, f79, f80, f81, u82, f83, u84, f85, f86, hc86, h⟩ := am_call13_s h
        refine kc_Wi (pc := 113) (ci := 4) ⟨hx, hb, hml, hown, hts⟩ hP hK hD hS hA [] (c_X4_renew l D cI cJ tself tlself tlplself tlpla tlpaself tlpaa tlogself tloga tldrself tldra tlspself tlspa tlscself tlsca twself twa tsself tsa cself ca cb u34 u35 u36 tlmany u37 f38 f39 f40 f41 f42 f43 u44 f45 tsf u46 f47 f48 r74 u75 u76 u77 f78 f79 f80 f81 u82 f83 u84 f85 f86 hc86 _) [2, 3, 4, 5, 6, 7, 8, 9, 10, 11, 12, 13, 14, 15, 16, 17, 18, 19, 20, 21, 22] rfl rfl rfl (cwV 0 hts (gzV wl717 wl311 wl312 wl17 wl313) rfl rfl rfl ⟨rfl, hdX4_renew⟩ ⟨Nat.le_of_ble_eq_true rfl, Nat.le_of_ble_eq_true rfl⟩) rfl rfl [] rfl hl.1 rfl (Nat.le_of_ble_eq_true rfl) dX3_perform_113 ⟨Nat.zero_le _, Nat.zero_le _⟩ (fun H locs hP hD hS => ?_)
        replace hP : va_P D vwCl [(self, .inr (3, [.ref a, .int len, .int u27, .int u51, .int u52, .int u53, .int u54, .int u31, .int u32, .int u33])), (a, .inl (cI, 60, .inl ch)), (tself, .inr (4, [.ref tlself, .ref twself, .ref tsself, .ref cself, .int u75, .int u35, .int u76])), (tlself, .inr (1, [.ref tlplself, .ref tlpaself, .ref tlogself, .ref tldrself, .ref tlspself, .ref tlscself, .int tlmany, .int u77])), (tlplself, .inr (2, [.ref tlpla])), (tlpla, .inl (cI, 240, .inl f78)), (tlpaself, .inr (2, [.ref tlpaa])), (tlpaa, .inl (cI, 240, .inl f79)), (tlogself, .inr (2, [.ref tloga])), (tloga, .inl (cI, 20, .inl f80)), (tldrself, .inr (2, [.ref tldra])), (tldra, .inl (cI, 20, .inl f41)), (tlspself, .inr (2, [.ref tlspa])), (tlspa, .inl (cI, 20, .inl f42)), (tlscself, .inr (2, [.ref tlsca])), (tlsca, .inl (cI, 20, .inl f81)), (twself, .inr (5, [.ref twa, .int u82])), (twa, .inl (cI, 12, .inl f83)), (tsself, .inr (2, [.ref tsa])), (tsa, .inl (cI, 3, .inl tsf)), (cself, .inr (0, [.ref ca, .ref cb, .int u84])), (ca, .inl (cI, 12, .inl f85)), (cb, .inl (cJ, 12, .inr (.inl f86)))] H := hP
        replace hD : va_D A [(self, .inr (3, [.ref a, .int len, .int u27, .int u51, .int u52, .int u53, .int u54, .int u31, .int u32, .int u33])), (a, .inl (cI, 60, .inl ch)), (tself, .inr (4, [.ref tlself, .ref twself, .ref tsself, .ref cself, .int u75, .int u35, .int u76])), (tlself, .inr (1, [.ref tlplself, .ref tlpaself, .ref tlogself, .ref tldrself, .ref tlspself, .ref tlscself, .int tlmany, .int u77])), (tlplself, .inr (2, [.ref tlpla])), (tlpla, .inl (cI, 240, .inl f78)), (tlpaself, .inr (2, [.ref tlpaa])), (tlpaa, .inl (cI, 240, .inl f79)), (tlogself, .inr (2, [.ref tloga])), (tloga, .inl (cI, 20, .inl f80)), (tldrself, .inr (2, [.ref tldra])), (tldra, .inl (cI, 20, .inl f41)), (tlspself, .inr (2, [.ref tlspa])), (tlspa, .inl (cI, 20, .inl f42)), (tlscself, .inr (2, [.ref tlsca])), (tlsca, .inl (cI, 20, .inl f81)), (twself, .inr (5, [.ref twa, .int u82])), (twa, .inl (cI, 12, .inl f83)), (tsself, .inr (2, [.ref tsa])), (tsa, .inl (cI, 3, .inl tsf)), (cself, .inr (0, [.ref ca, .ref cb, .int u84])), (ca, .inl (cI, 12, .inl f85)), (cb, .inl (cJ, 12, .inr (.inl f86)))] := hD
        exact hJ71 _ _ _ _ _ _ _ _ _ _ _ _ _ _ _ _ h ls (lv_sub hl [0, 1, 2] rfl) H locs hP hD hS
      replace h := am_t cc h
      refine lv_aload_n (pc := 97) hx hb dX3_perform_97 rfl (lv_at hl 1 rfl) ?_
      refine lv_aload_n (pc := 98) hx hb dX3_perform_98 rfl (lv_at hl 0 rfl) ?_
      refine va_get (pc := 99) (D := D) (ci := 3) (v := .int u53) (C := RX3) (T := TX3) (N := 10) hx hb hts hnX3 hown hK.1 hP 0 rfl rfl 5 (Nat.le_of_ble_eq_true rfl) hk689 (fun _ h9 => h9) rfl dX3_perform_99 ?_
      refine lv_aload_n (pc := 102) hx hb dX3_perform_102 rfl (lv_at hl 0 rfl) ?_
      refine va_get (pc := 103) (D := D) (ci := 3) (v := .int u54) (C := RX3) (T := TX3) (N := 10) hx hb hts hnX3 hown hK.1 hP 0 rfl rfl 6 (Nat.le_of_ble_eq_true rfl) hk690 (fun _ h9 => h9) rfl dX3_perform_103 ?_
      obtain ⟨r87, u88, u89, u90, u91, f92, f93, f94, f95, u96, f97, u98, f99, f100, hc100, h⟩ := am_call14_s h
      refine kc_Wi (pc := 106) (ci := 4) ⟨hx, hb, hml, hown, hts⟩ hP hK hD hS hA [.int u53, .int u54] (c_X4_look l D cI cJ tself tlself tlplself tlpla tlpaself tlpaa tlogself tloga tldrself tldra tlspself tlspa tlscself tlsca twself twa tsself tsa cself ca cb u34 u35 u36 tlmany u37 f38 f39 f40 f41 f42 f43 u44 f45 tsf u46 f47 f48 u53 u54 r87 u88 u89 u90 u91 f92 f93 f94 f95 u96 f97 u98 f99 f100 hc100 _) [2, 3, 4, 5, 6, 7, 8, 9, 10, 11, 12, 13, 14, 15, 16, 17, 18, 19, 20, 21, 22] rfl rfl rfl (cwV 2 hts (gzV wl716 wl294 wl295 wl17 wl296) rfl rfl rfl ⟨rfl, hdX4_look⟩ ⟨Nat.le_of_ble_eq_true rfl, Nat.le_of_ble_eq_true rfl⟩) rfl rfl [] rfl hl.1 rfl (Nat.le_of_ble_eq_true rfl) dX3_perform_106 ⟨Nat.zero_le _, Nat.zero_le _⟩ (fun H locs hP hD hS => ?_)
      replace hP : va_P D vwCl [(self, .inr (3, [.ref a, .int len, .int u27, .int u51, .int u52, .int u53, .int u54, .int u31, .int u32, .int u33])), (a, .inl (cI, 60, .inl ch)), (tself, .inr (4, [.ref tlself, .ref twself, .ref tsself, .ref cself, .int u88, .int u89, .int u90])), (tlself, .inr (1, [.ref tlplself, .ref tlpaself, .ref tlogself, .ref tldrself, .ref tlspself, .ref tlscself, .int tlmany, .int u91])), (tlplself, .inr (2, [.ref tlpla])), (tlpla, .inl (cI, 240, .inl f92)), (tlpaself, .inr (2, [.ref tlpaa])), (tlpaa, .inl (cI, 240, .inl f93)), (tlogself, .inr (2, [.ref tloga])), (tloga, .inl (cI, 20, .inl f94)), (tldrself, .inr (2, [.ref tldra])), (tldra, .inl (cI, 20, .inl f41)), (tlspself, .inr (2, [.ref tlspa])), (tlspa, .inl (cI, 20, .inl f42)), (tlscself, .inr (2, [.ref tlsca])), (tlsca, .inl (cI, 20, .inl f95)), (twself, .inr (5, [.ref twa, .int u96])), (twa, .inl (cI, 12, .inl f97)), (tsself, .inr (2, [.ref tsa])), (tsa, .inl (cI, 3, .inl tsf)), (cself, .inr (0, [.ref ca, .ref cb, .int u98])), (ca, .inl (cI, 12, .inl f99)), (cb, .inl (cJ, 12, .inr (.inl f100)))] H := hP
      replace hD : va_D A [(self, .inr (3, [.ref a, .int len, .int u27, .int u51, .int u52, .int u53, .int u54, .int u31, .int u32, .int u33])), (a, .inl (cI, 60, .inl ch)), (tself, .inr (4, [.ref tlself, .ref twself, .ref tsself, .ref cself, .int u88, .int u89, .int u90])), (tlself, .inr (1, [.ref tlplself, .ref tlpaself, .ref tlogself, .ref tldrself, .ref tlspself, .ref tlscself, .int tlmany, .int u91])), (tlplself, .inr (2, [.ref tlpla])), (tlpla, .inl (cI, 240, .inl f92)), (tlpaself, .inr (2, [.ref tlpaa])), (tlpaa, .inl (cI, 240, .inl f93)), (tlogself, .inr (2, [.ref tloga])), (tloga, .inl (cI, 20, .inl f94)), (tldrself, .inr (2, [.ref tldra])), (tldra, .inl (cI, 20, .inl f41)), (tlspself, .inr (2, [.ref tlspa])), (tlspa, .inl (cI, 20, .inl f42)), (tlscself, .inr (2, [.ref tlsca])), (tlsca, .inl (cI, 20, .inl f95)), (twself, .inr (5, [.ref twa, .int u96])), (twa, .inl (cI, 12, .inl f97)), (tsself, .inr (2, [.ref tsa])), (tsa, .inl (cI, 3, .inl tsf)), (cself, .inr (0, [.ref ca, .ref cb, .int u98])), (ca, .inl (cI, 12, .inl f99)), (cb, .inl (cJ, 12, .inr (.inl f100)))] := hD
      refine lv_goto (pc := 109) (tgt := 116) hx hb dX3_perform_109 (by decide) ?_
      exact hJ71 _ _ _ _ _ _ _ _ _ _ _ _ _ _ _ _ h ls (lv_sub hl [0, 1, 2] rfl) H locs hP hD hS
    replace h := am_t cc h
    refine lv_aload_n (pc := 73) hx hb dX3_perform_73 rfl (lv_at hl 1 rfl) ?_
    refine lv_aload_n (pc := 74) hx hb dX3_perform_74 rfl (lv_at hl 0 rfl) ?_
    refine va_get (pc := 75) (D := D) (ci := 3) (v := .int u53) (C := RX3) (T := TX3) (N := 10) hx hb hts hnX3 hown hK.1 hP 0 rfl rfl 5 (Nat.le_of_ble_eq_true rfl) hk689 (fun _ h9 => h9) rfl dX3_perform_75 ?_
    refine lv_aload_n (pc := 78) hx hb dX3_perform_78 rfl (lv_at hl 0 rfl) ?_
    refine va_get (pc := 79) (D := D) (ci := 3) (v := .int u54) (C := RX3) (T := TX3) (N := 10) hx hb hts hnX3 hown hK.1 hP 0 rfl rfl 6 (Nat.le_of_ble_eq_true rfl) hk690 (fun _ h9 => h9) rfl dX3_perform_79 ?_
    obtain ⟨r101, u102, u103, f104, f105, f106, f107, f108, hc108, h⟩ := am_call8_s h
    refine kc_Wi (pc := 82) (ci := 4) ⟨hx, hb, hml, hown, hts⟩ hP hK hD hS hA [.int u53, .int u54] (c_X4_shift l D cI cJ tself cself tlself tlplself tlpla tlpaself tlpaa tlogself tloga tldrself tldra tlspself tlspa tlscself tlsca twself twa tsself tsa u34 u35 u36 tlmany u37 f38 f39 f40 f41 f42 f43 u44 f45 tsf u53 u54 r101 u102 u103 f104 f105 f106 f107 f108 hc108 _) [2, 3, 4, 5, 6, 7, 8, 9, 10, 11, 12, 13, 14, 15, 16, 17, 18, 19] rfl rfl rfl (cwV 2 hts (gzV wl715 wl243 wl244 wl17 wl245) rfl rfl rfl ⟨rfl, hdX4_shift⟩ ⟨Nat.le_of_ble_eq_true rfl, Nat.le_of_ble_eq_true rfl⟩) rfl rfl [] rfl hl.1 rfl (Nat.le_of_ble_eq_true rfl) dX3_perform_82 ⟨Nat.zero_le _, Nat.zero_le _⟩ (fun H locs hP hD hS => ?_)
    replace hP : va_P D vwCl [(self, .inr (3, [.ref a, .int len, .int u27, .int u51, .int u52, .int u53, .int u54, .int u31, .int u32, .int u33])), (a, .inl (cI, 60, .inl ch)), (tself, .inr (4, [.ref tlself, .ref twself, .ref tsself, .ref cself, .int u102, .int u35, .int u36])), (tlself, .inr (1, [.ref tlplself, .ref tlpaself, .ref tlogself, .ref tldrself, .ref tlspself, .ref tlscself, .int tlmany, .int u103])), (tlplself, .inr (2, [.ref tlpla])), (tlpla, .inl (cI, 240, .inl f104)), (tlpaself, .inr (2, [.ref tlpaa])), (tlpaa, .inl (cI, 240, .inl f105)), (tlogself, .inr (2, [.ref tloga])), (tloga, .inl (cI, 20, .inl f106)), (tldrself, .inr (2, [.ref tldra])), (tldra, .inl (cI, 20, .inl f107)), (tlspself, .inr (2, [.ref tlspa])), (tlspa, .inl (cI, 20, .inl f108)), (tlscself, .inr (2, [.ref tlsca])), (tlsca, .inl (cI, 20, .inl f43)), (twself, .inr (5, [.ref twa, .int u44])), (twa, .inl (cI, 12, .inl f45)), (tsself, .inr (2, [.ref tsa])), (tsa, .inl (cI, 3, .inl tsf)), (cself, .inr (0, [.ref ca, .ref cb, .int u46])), (ca, .inl (cI, 12, .inl f47)), (cb, .inl (cJ, 12, .inr (.inl f48)))] H := hP
    replace hD : va_D A [(self, .inr (3, [.ref a, .int len, .int u27, .int u51, .int u52, .int u53, .int u54, .int u31, .int u32, .int u33])), (a, .inl (cI, 60, .inl ch)), (tself, .inr (4, [.ref tlself, .ref twself, .ref tsself, .ref cself, .int u102, .int u35, .int u36])), (tlself, .inr (1, [.ref tlplself, .ref tlpaself, .ref tlogself, .ref tldrself, .ref tlspself, .ref tlscself, .int tlmany, .int u103])), (tlplself, .inr (2, [.ref tlpla])), (tlpla, .inl (cI, 240, .inl f104)), (tlpaself, .inr (2, [.ref tlpaa])), (tlpaa, .inl (cI, 240, .inl f105)), (tlogself, .inr (2, [.ref tloga])), (tloga, .inl (cI, 20, .inl f106)), (tldrself, .inr (2, [.ref tldra])), (tldra, .inl (cI, 20, .inl f107)), (tlspself, .inr (2, [.ref tlspa])), (tlspa, .inl (cI, 20, .inl f108)), (tlscself, .inr (2, [.ref tlsca])), (tlsca, .inl (cI, 20, .inl f43)), (twself, .inr (5, [.ref twa, .int u44])), (twa, .inl (cI, 12, .inl f45)), (tsself, .inr (2, [.ref tsa])), (tsa, .inl (cI, 3, .inl tsf)), (cself, .inr (0, [.ref ca, .ref cb, .int u46])), (ca, .inl (cI, 12, .inl f47)), (cb, .inl (cJ, 12, .inr (.inl f48)))] := hD
    refine lv_goto (pc := 85) (tgt := 116) hx hb dX3_perform_85 (by decide) ?_
    exact hJ71 _ _ _ _ _ _ _ _ _ _ _ _ _ _ _ _ h ls (lv_sub hl [0, 1, 2] rfl) H locs hP hD hS
  replace h := am_t cc h
  refine lv_aload_n (pc := 44) hx hb dX3_perform_44 rfl (lv_at hl 0 rfl) ?_
  refine lv_iconst (v := 1) (pc := 45) hx hb dX3_perform_45 (by decide) ?_
  refine va_put (pc := 46) (D := D) (ci := 3) (v := .int (1 : Int32)) (ty := .int) (C := RX3) (T := TX3) (N := 10) hx hb hts hnX3 tyX3 tyX3_ok nmX3 hown hK.1 hP hD hS 0 rfl rfl 8 (Nat.le_of_ble_eq_true rfl) hk686 (fun _ h9 => h9) rfl (by decide +kernel) rfl rfl (Nat.le_of_ble_eq_true rfl) dX3_perform_46 (fun H locs hP hD hS => ?_)
  replace hP : va_P D vwCl [(self, .inr (3, [.ref a, .int len, .int u27, .int u51, .int u52, .int u53, .int u54, .int u31, .int (1 : Int32), .int u33])), (a, .inl (cI, 60, .inl ch)), (tself, .inr (4, [.ref tlself, .ref twself, .ref tsself, .ref cself, .int u34, .int u35, .int u36])), (tlself, .inr (1, [.ref tlplself, .ref tlpaself, .ref tlogself, .ref tldrself, .ref tlspself, .ref tlscself, .int tlmany, .int u37])), (tlplself, .inr (2, [.ref tlpla])), (tlpla, .inl (cI, 240, .inl f38)), (tlpaself, .inr (2, [.ref tlpaa])), (tlpaa, .inl (cI, 240, .inl f39)), (tlogself, .inr (2, [.ref tloga])), (tloga, .inl (cI, 20, .inl f40)), (tldrself, .inr (2, [.ref tldra])), (tldra, .inl (cI, 20, .inl f41)), (tlspself, .inr (2, [.ref tlspa])), (tlspa, .inl (cI, 20, .inl f42)), (tlscself, .inr (2, [.ref tlsca])), (tlsca, .inl (cI, 20, .inl f43)), (twself, .inr (5, [.ref twa, .int u44])), (twa, .inl (cI, 12, .inl f45)), (tsself, .inr (2, [.ref tsa])), (tsa, .inl (cI, 3, .inl tsf)), (cself, .inr (0, [.ref ca, .ref cb, .int u46])), (ca, .inl (cI, 12, .inl f47)), (cb, .inl (cJ, 12, .inr (.inl f48)))] H := hP
  replace hD : va_D A [(self, .inr (3, [.ref a, .int len, .int u27, .int u51, .int u52, .int u53, .int u54, .int u31, .int (1 : Int32), .int u33])), (a, .inl (cI, 60, .inl ch)), (tself, .inr (4, [.ref tlself, .ref twself, .ref tsself, .ref cself, .int u34, .int u35, .int u36])), (tlself, .inr (1, [.ref tlplself, .ref tlpaself, .ref tlogself, .ref tldrself, .ref tlspself, .ref tlscself, .int tlmany, .int u37])), (tlplself, .inr (2, [.ref tlpla])), (tlpla, .inl (cI, 240, .inl f38)), (tlpaself, .inr (2, [.ref tlpaa])), (tlpaa, .inl (cI, 240, .inl f39)), (tlogself, .inr (2, [.ref tloga])), (tloga, .inl (cI, 20, .inl f40)), (tldrself, .inr (2, [.ref tldra])), (tldra, .inl (cI, 20, .inl f41)), (tlspself, .inr (2, [.ref tlspa])), (tlspa, .inl (cI, 20, .inl f42)), (tlscself, .inr (2, [.ref tlsca])), (tlsca, .inl (cI, 20, .inl f43)), (twself, .inr (5, [.ref twa, .int u44])), (twa, .inl (cI, 12, .inl f45)), (tsself, .inr (2, [.ref tsa])), (tsa, .inl (cI, 3, .inl tsf)), (cself, .inr (0, [.ref ca, .ref cb, .int u46])), (ca, .inl (cI, 12, .inl f47)), (cb, .inl (cJ, 12, .inr (.inl f48)))] := hD
  refine lv_aload_n (pc := 49) hx hb dX3_perform_49 rfl (lv_at hl 0 rfl) ?_
  refine lv_aload_n (pc := 50) hx hb dX3_perform_50 rfl (lv_at hl 0 rfl) ?_
  refine va_get (pc := 51) (D := D) (ci := 3) (v := .int u51) (C := RX3) (T := TX3) (N := 10) hx hb hts hnX3 hown hK.1 hP 0 rfl rfl 3 (Nat.le_of_ble_eq_true rfl) hk683 (fun _ h9 => h9) rfl dX3_perform_51 ?_
  refine lv_aload_n (pc := 54) hx hb dX3_perform_54 rfl (lv_at hl 0 rfl) ?_
  refine va_get (pc := 55) (D := D) (ci := 3) (v := .int u27) (C := RX3) (T := TX3) (N := 10) hx hb hts hnX3 hown hK.1 hP 0 rfl rfl 2 (Nat.le_of_ble_eq_true rfl) hk685 (fun _ h9 => h9) rfl dX3_perform_55 ?_
  refine lv_isub (pc := 58) hx hb dX3_perform_58 ?_
  refine lv_topi (fun x109 ex109 => ?_)
  replace h := am_let_s ex109 h
  refine va_put (pc := 59) (D := D) (ci := 3) (v := .int x109) (ty := .int) (C := RX3) (T := TX3) (N := 10) hx hb hts hnX3 tyX3 tyX3_ok nmX3 hown hK.1 hP hD hS 0 rfl rfl 9 (Nat.le_of_ble_eq_true rfl) hk687 (fun _ h9 => h9) rfl (by decide +kernel) rfl rfl (Nat.le_of_ble_eq_true rfl) dX3_perform_59 (fun H locs hP hD hS => ?_)
  replace hP : va_P D vwCl [(self, .inr (3, [.ref a, .int len, .int u27, .int u51, .int u52, .int u53, .int u54, .int u31, .int (1 : Int32), .int x109])), (a, .inl (cI, 60, .inl ch)), (tself, .inr (4, [.ref tlself, .ref twself, .ref tsself, .ref cself, .int u34, .int u35, .int u36])), (tlself, .inr (1, [.ref tlplself, .ref tlpaself, .ref tlogself, .ref tldrself, .ref tlspself, .ref tlscself, .int tlmany, .int u37])), (tlplself, .inr (2, [.ref tlpla])), (tlpla, .inl (cI, 240, .inl f38)), (tlpaself, .inr (2, [.ref tlpaa])), (tlpaa, .inl (cI, 240, .inl f39)), (tlogself, .inr (2, [.ref tloga])), (tloga, .inl (cI, 20, .inl f40)), (tldrself, .inr (2, [.ref tldra])), (tldra, .inl (cI, 20, .inl f41)), (tlspself, .inr (2, [.ref tlspa])), (tlspa, .inl (cI, 20, .inl f42)), (tlscself, .inr (2, [.ref tlsca])), (tlsca, .inl (cI, 20, .inl f43)), (twself, .inr (5, [.ref twa, .int u44])), (twa, .inl (cI, 12, .inl f45)), (tsself, .inr (2, [.ref tsa])), (tsa, .inl (cI, 3, .inl tsf)), (cself, .inr (0, [.ref ca, .ref cb, .int u46])), (ca, .inl (cI, 12, .inl f47)), (cb, .inl (cJ, 12, .inr (.inl f48)))] H := hP
  replace hD : va_D A [(self, .inr (3, [.ref a, .int len, .int u27, .int u51, .int u52, .int u53, .int u54, .int u31, .int (1 : Int32), .int x109])), (a, .inl (cI, 60, .inl ch)), (tself, .inr (4, [.ref tlself, .ref twself, .ref tsself, .ref cself, .int u34, .int u35, .int u36])), (tlself, .inr (1, [.ref tlplself, .ref tlpaself, .ref tlogself, .ref tldrself, .ref tlspself, .ref tlscself, .int tlmany, .int u37])), (tlplself, .inr (2, [.ref tlpla])), (tlpla, .inl (cI, 240, .inl f38)), (tlpaself, .inr (2, [.ref tlpaa])), (tlpaa, .inl (cI, 240, .inl f39)), (tlogself, .inr (2, [.ref tloga])), (tloga, .inl (cI, 20, .inl f40)), (tldrself, .inr (2, [.ref tldra])), (tldra, .inl (cI, 20, .inl f41)), (tlspself, .inr (2, [.ref tlspa])), (tlspa, .inl (cI, 20, .inl f42)), (tlscself, .inr (2, [.ref tlsca])), (tlsca, .inl (cI, 20, .inl f43)), (twself, .inr (5, [.ref twa, .int u44])), (twa, .inl (cI, 12, .inl f45)), (tsself, .inr (2, [.ref tsa])), (tsa, .inl (cI, 3, .inl tsf)), (cself, .inr (0, [.ref ca, .ref cb, .int u46])), (ca, .inl (cI, 12, .inl f47)), (cb, .inl (cJ, 12, .inr (.inl f48)))] := hD
  refine lv_iconst (v := 0) (pc := 62) hx hb dX3_perform_62 (by decide) ?_
  obtain ⟨e1, e2, e3, e4, e5, e6, e7, e8, e9, e10, e11, e12, e13, e14, e15, e16, e17, e18, e19, e20, e21, e22, e23, e24⟩ := am_ret24 h
  exact hret _ _ _ _ _ dX3_perform_63 rfl e1 (by rw [← e2, ← e3, ← e4, ← e5, ← e6, ← e7, ← e8, ← e9, ← e10, ← e11, ← e12, ← e13, ← e14, ← e15, ← e16, ← e17, ← e18, ← e19, ← e20, ← e21, ← e22, ← e23, ← e24]; exact hP) hS
