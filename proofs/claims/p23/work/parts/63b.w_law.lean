-- contracts of the law's own methods on arrays, printed by wip/p23/gen23.py
theorem hdL_low : yL_low.cls ≠ "java/lang/invoke/MethodHandle" ∧ yL_low.cls ≠ "java/lang/invoke/VarHandle" ∧ (parseMethodDescriptor yL_low.desc).map (fun d => d.parameters.length) = some 2 := by decide +kernel
abbrev rmL_low : Room := { frames := 0, cells := 0, slots := 0, locals := 0 }
set_option maxHeartbeats 20000000 in
set_option maxRecDepth 100000 in
theorem c_L_low (l : Launch) (D : va_G) (cI cJ : ClassId)   (p0 : Int32) (p1 : Int32) (r0 : Int32) (hF : F_L_low p0 p1 = some r0) : Met l yL_low (wz yL_low cL_low 2 (some .int)) rmL_low (kPc D cI cJ [] [.int p0, .int p1]) (vp_Si (fun r => r = r0)) 0 0 (fun _ => False) := by
  refine kM_ri cL_low 2 .int (by decide +kernel) rfl rfl (Nat.le_of_ble_eq_true rfl) ⟨rfl, rfl⟩ ?_
  intro p e s m args below meth c Q ls hx hb hml hown hts hP hK hl hret
  have hk5 := hts _ (List.mem_cons_of_mem _ wl5)
  replace hl : lv_has ls 2 [(0, .int p0), (1, .int p1)] := hl
  have h := hF
  unfold F_L_low at h
  refine lv_iload_n (pc := 0) hx hb dL_low_0 rfl (lv_at hl 0 rfl) ?_
  refine lv_ldc (pc := 1) hx hb hown hk5 dL_low_1 ?_
  refine lv_iand (pc := 3) hx hb dL_low_3 ?_
  refine lv_iload_n (pc := 4) hx hb dL_low_4 rfl (lv_at hl 1 rfl) ?_
  obtain ⟨hz, h⟩ := am_nz_s h
  refine lv_irem (pc := 5) hx hb dL_low_5 hz ?_
  obtain e1 := am_ret1 h
  exact hret _ _ _ dL_low_6 rfl e1
theorem hdL_of : yL_of.cls ≠ "java/lang/invoke/MethodHandle" ∧ yL_of.cls ≠ "java/lang/invoke/VarHandle" ∧ (parseMethodDescriptor yL_of.desc).map (fun d => d.parameters.length) = some 3 := by decide +kernel
abbrev rmL_of : Room := { frames := 0, cells := 0, slots := 0, locals := 0 }
set_option maxHeartbeats 20000000 in
set_option maxRecDepth 100000 in
theorem c_L_of (l : Launch) (D : va_G) (cI cJ : ClassId) (bc : Nat) (yc : Nat → Int64) (p1 : Int32) (p2 : Int32) (r0 : Int32) (hF : F_L_of yc p1 p2 = some r0) : Met l yL_of (wz yL_of cL_of 3 (some .int)) rmL_of (kPc D cI cJ [(bc, .inl (cJ, 60, .inr (.inl yc)))] [.ref bc, .int p1, .int p2]) (vp_Si (fun r => r = r0)) 0 0 (fun _ => False) := by
  refine kM_ri cL_of 3 .int (by decide +kernel) rfl rfl (Nat.le_of_ble_eq_true rfl) ⟨rfl, rfl⟩ ?_
  intro p e s m args below meth c Q ls hx hb hml hown hts hP hK hl hret
  have hk123 := hts _ (List.mem_cons_of_mem _ wl123)
  replace hl : lv_has ls 3 [(0, .ref bc), (1, .int p1), (2, .int p2)] := hl
  have h := hF
  unfold F_L_of at h
  refine lv_aload_n (pc := 0) hx hb dL_of_0 rfl (lv_at hl 0 rfl) ?_
  refine lv_iconst (v := 3) (pc := 1) hx hb dL_of_1 (by decide) ?_
  refine lv_iload_n (pc := 2) hx hb dL_of_2 rfl (lv_at hl 1 rfl) ?_
  refine lv_imul (pc := 3) hx hb dL_of_3 ?_
  refine lv_iload_n (pc := 4) hx hb dL_of_4 rfl (lv_at hl 2 rfl) ?_
  refine lv_iconst (v := 4) (pc := 5) hx hb dL_of_5 (by decide) ?_
  refine lv_idiv (pc := 6) hx hb dL_of_6 (by decide) ?_
  refine lv_iadd (pc := 7) hx hb dL_of_7 ?_
  obtain ⟨hi, h⟩ := am_in_s h
  refine va_lald (pc := 8) hx hb hK.1 hP 0 1 rfl rfl hi dL_of_8 ?_
  refine lv_bipush (v := 16) (pc := 9) hx hb dL_of_9 (by decide) ?_
  refine lv_iload_n (pc := 11) hx hb dL_of_11 rfl (lv_at hl 2 rfl) ?_
  refine lv_iconst (v := 4) (pc := 12) hx hb dL_of_12 (by decide) ?_
  refine lv_irem (pc := 13) hx hb dL_of_13 (by decide) ?_
  refine lv_imul (pc := 14) hx hb dL_of_14 ?_
  refine lv_lshr (pc := 15) hx hb dL_of_15 rfl ?_
  refine lv_ldc2 (pc := 16) hx hb hown hk123 dL_of_16 ?_
  refine lv_land (pc := 19) hx hb dL_of_19 ?_
  refine lv_l2i (pc := 20) hx hb dL_of_20 rfl ?_
  obtain e1 := am_ret1 h
  exact hret _ _ _ dL_of_21 rfl e1
theorem hdL_put : yL_put.cls ≠ "java/lang/invoke/MethodHandle" ∧ yL_put.cls ≠ "java/lang/invoke/VarHandle" ∧ (parseMethodDescriptor yL_put.desc).map (fun d => d.parameters.length) = some 5 := by decide +kernel
abbrev rmL_put : Room := { frames := 0, cells := 0, slots := 0, locals := 0 }
set_option maxHeartbeats 20000000 in
set_option maxRecDepth 100000 in
theorem c_L_put (l : Launch) (D : va_G) (cI cJ : ClassId) (bc : Nat) (yc : Nat → Int64) (p1 : Int32) (p2 : Int32) (p3 : Int32) (p4 : Int32) (zyc : Nat → Int64) (hF : F_L_put yc p1 p2 p3 p4 = some zyc) (sz : Nat) : Met l yL_put (wz yL_put cL_put 6 none) rmL_put (kPw D cI cJ [(bc, .inl (cJ, 60, .inr (.inl yc)))] sz [.ref bc, .int p1, .int p2, .int p3, .int p4]) (kQv D [(bc, .inl (cJ, 60, .inr (.inl zyc)))] (va_A [(bc, .inl (cJ, 60, .inr (.inl yc)))] sz)) 0 0 (va_A [(bc, .inl (cJ, 60, .inr (.inl yc)))] sz) := by
  refine kM_wv cL_put 6 (by decide +kernel) rfl rfl (Nat.le_of_ble_eq_true rfl) ⟨rfl, rfl⟩ ?_
  intro p e s m args below meth c Q A ls hx hb hml hown hts hP hK hD hA hS hl hret
  have hk123 := hts _ (List.mem_cons_of_mem _ wl123)
  have hk124 := hts _ (List.mem_cons_of_mem _ wl124)
  replace hl : lv_has ls 6 [(0, .ref bc), (1, .int p1), (2, .int p2), (3, .int p3), (4, .int p4)] := hl
  have h := hF
  unfold F_L_put at h
  refine lv_iconst (v := 3) (pc := 0) hx hb dL_put_0 (by decide) ?_
  refine lv_iload_n (pc := 1) hx hb dL_put_1 rfl (lv_at hl 1 rfl) ?_
  refine lv_imul (pc := 2) hx hb dL_put_2 ?_
  refine lv_iload_n (pc := 3) hx hb dL_put_3 rfl (lv_at hl 2 rfl) ?_
  refine lv_iconst (v := 4) (pc := 4) hx hb dL_put_4 (by decide) ?_
  refine lv_idiv (pc := 5) hx hb dL_put_5 (by decide) ?_
  refine lv_iadd (pc := 6) hx hb dL_put_6 ?_
  refine lv_topi (fun x1 ex1 => ?_)
  replace h := am_let_s ex1 h
  refine lv_istore (lv' := [(5, .int x1), (0, .ref bc), (1, .int p1), (2, .int p2), (3, .int p3), (4, .int p4)]) (pc := 7) hx hb dL_put_7 hl (by decide) rfl (fun ls hl => ?_)
  refine lv_aload_n (pc := 9) hx hb dL_put_9 rfl (lv_at hl 1 rfl) ?_
  refine lv_iload (pc := 10) hx hb dL_put_10 (lv_at hl 0 rfl) ?_
  refine lv_aload_n (pc := 12) hx hb dL_put_12 rfl (lv_at hl 1 rfl) ?_
  refine lv_iload (pc := 13) hx hb dL_put_13 (lv_at hl 0 rfl) ?_
  obtain ⟨hi, h⟩ := am_in_s h
  refine va_lald (pc := 15) hx hb hK.1 hP 0 1 rfl rfl hi dL_put_15 ?_
  refine lv_ldc2 (pc := 16) hx hb hown hk123 dL_put_16 ?_
  refine lv_bipush (v := 16) (pc := 19) hx hb dL_put_19 (by decide) ?_
  refine lv_iload_n (pc := 21) hx hb dL_put_21 rfl (lv_at hl 3 rfl) ?_
  refine lv_iconst (v := 4) (pc := 22) hx hb dL_put_22 (by decide) ?_
  refine lv_irem (pc := 23) hx hb dL_put_23 (by decide) ?_
  refine lv_imul (pc := 24) hx hb dL_put_24 ?_
  refine lv_lshl (pc := 25) hx hb dL_put_25 rfl ?_
  refine lv_ldc2 (pc := 26) hx hb hown hk124 dL_put_26 ?_
  refine lv_lxor (pc := 29) hx hb dL_put_29 ?_
  refine lv_land (pc := 30) hx hb dL_put_30 ?_
  refine lv_iload_n (pc := 31) hx hb dL_put_31 rfl (lv_at hl 4 rfl) ?_
  refine lv_sipush (v := 256) (pc := 32) hx hb dL_put_32 (by decide) ?_
  refine lv_iload (pc := 35) hx hb dL_put_35 (lv_at hl 5 rfl) ?_
  refine lv_imul (pc := 37) hx hb dL_put_37 ?_
  refine lv_iadd (pc := 38) hx hb dL_put_38 ?_
  refine lv_i2l (pc := 39) hx hb dL_put_39 rfl ?_
  refine lv_bipush (v := 16) (pc := 40) hx hb dL_put_40 (by decide) ?_
  refine lv_iload_n (pc := 42) hx hb dL_put_42 rfl (lv_at hl 3 rfl) ?_
  refine lv_iconst (v := 4) (pc := 43) hx hb dL_put_43 (by decide) ?_
  refine lv_irem (pc := 44) hx hb dL_put_44 (by decide) ?_
  refine lv_imul (pc := 45) hx hb dL_put_45 ?_
  refine lv_lshl (pc := 46) hx hb dL_put_46 rfl ?_
  refine lv_lor (pc := 47) hx hb dL_put_47 ?_
  obtain ⟨hi, h⟩ := am_in_s h
  obtain ⟨f2, ef2⟩ : ∃ y : Nat → Int64, y = (vp_updL yc x1.toNatClampNeg (((yc x1.toNatClampNeg) &&& (((65535 : Int64) <<< (((16 : Int32) * (p2 - p2 / (4 : Int32) * (4 : Int32))).toInt64 &&& 63)) ^^^ (-1 : Int64))) ||| ((p3 + ((256 : Int32) * p4)).toInt64 <<< (((16 : Int32) * (p2 - p2 / (4 : Int32) * (4 : Int32))).toInt64 &&& 63)))) := ⟨_, rfl⟩
  replace h := am_let_s ef2 h
  refine va_last (pc := 48) hx hb hK.1 hP hD hS 0 1 rfl rfl hi dL_put_48 (fun H locs hP hD hS => ?_)
  rw [← ef2] at hP hD
  replace hP : va_P D vwCl [(bc, .inl (cJ, 60, .inr (.inl f2)))] H := hP
  replace hD : va_D A [(bc, .inl (cJ, 60, .inr (.inl f2)))] := hD
  obtain e1 := am_ret1 h
  exact hret _ _ _ _ dL_put_49 (by rw [← e1]; exact hP) hS
theorem hdL_place : yL_place.cls ≠ "java/lang/invoke/MethodHandle" ∧ yL_place.cls ≠ "java/lang/invoke/VarHandle" ∧ (parseMethodDescriptor yL_place.desc).map (fun d => d.parameters.length) = some 3 := by decide +kernel
abbrev rmL_place : Room := { frames := 1, cells := 0, slots := 0, locals := 22 }
set_option maxHeartbeats 20000000 in
set_option maxRecDepth 100000 in
theorem c_L_place (l : Launch) (D : va_G) (cI cJ : ClassId) (bg : Nat) (bc : Nat) (yg : Nat → Int32) (yc : Nat → Int64) (p2 : Int32) (r0 : Int32) (hF : F_L_place yg yc p2 = some r0) : Met l yL_place (wz yL_place cL_place 3 (some .int)) rmL_place (kPc D cI cJ [(bg, .inl (cI, 8, .inl yg)), (bc, .inl (cJ, 60, .inr (.inl yc)))] [.ref bg, .ref bc, .int p2]) (vp_Si (fun r => r = r0)) 0 0 (fun _ => False) := by
  refine kM_ri cL_place 3 .int (by decide +kernel) rfl rfl (Nat.le_of_ble_eq_true rfl) ⟨rfl, rfl⟩ ?_
  intro p e s m args below meth c Q ls hx hb hml hown hts hP hK hl hret
  replace hl : lv_has ls 3 [(0, .ref bg), (1, .ref bc), (2, .int p2)] := hl
  have h := hF
  unfold F_L_place at h
  refine lv_aload_n (pc := 0) hx hb dL_place_0 rfl (lv_at hl 1 rfl) ?_
  refine lv_aload_n (pc := 1) hx hb dL_place_1 rfl (lv_at hl 0 rfl) ?_
  refine lv_iconst (v := 1) (pc := 2) hx hb dL_place_2 (by decide) ?_
  refine va_iald (pc := 3) hx hb hK.1 hP 0 0 rfl rfl (vp_in_nI (n := 1) (N := 8) (by decide) (by decide)) dL_place_3 ?_
  refine lv_iconst (v := 1) (pc := 4) hx hb dL_place_4 (by decide) ?_
  refine lv_isub (pc := 5) hx hb dL_place_5 ?_
  refine lv_iload_n (pc := 6) hx hb dL_place_6 rfl (lv_at hl 2 rfl) ?_
  obtain ⟨r1, hc1, h⟩ := am_bind_s h
  refine kc_Si (pc := 7) ⟨hx, hb, hml, hown, hts⟩ hP hK [.ref bc, .int ((yg (1 : Int32).toNatClampNeg) - (1 : Int32)), .int p2] (c_L_of l D cI cJ bc yc ((yg (1 : Int32).toNatClampNeg) - (1 : Int32)) p2 r1 hc1) [1] rfl (cwS 3 hts (gzS wl135 wl136 wl118 wl137) rfl rfl rfl ⟨rfl, hdL_of⟩ ⟨Nat.le_of_ble_eq_true rfl, Nat.le_of_ble_eq_true rfl⟩) [] rfl hl.1 rfl (Nat.le_of_ble_eq_true rfl) dL_place_7 ⟨Nat.zero_le _, Nat.zero_le _⟩ ?_
  refine lv_sipush (v := 256) (pc := 10) hx hb dL_place_10 (by decide) ?_
  refine lv_irem (pc := 13) hx hb dL_place_13 (by decide) ?_
  obtain e1 := am_ret1 h
  exact hret _ _ _ dL_place_14 rfl e1
theorem hdL_begins : yL_begins.cls ≠ "java/lang/invoke/MethodHandle" ∧ yL_begins.cls ≠ "java/lang/invoke/VarHandle" ∧ (parseMethodDescriptor yL_begins.desc).map (fun d => d.parameters.length) = some 7 := by decide +kernel
abbrev rmL_begins : Room := { frames := 1, cells := 0, slots := 0, locals := 25 }
set_option maxHeartbeats 20000000 in
set_option maxRecDepth 100000 in
theorem c_L_begins (l : Launch) (D : va_G) (cI cJ : ClassId) (bg : Nat) (bw : Nat) (bq : Nat) (bc : Nat) (yg : Nat → Int32) (yw : Nat → Int32) (yq : Nat → Int32) (yc : Nat → Int64) (p4 : Int32) (p5 : Int32) (p6 : Int32) (zyg : Nat → Int32) (zyw : Nat → Int32) (zyq : Nat → Int32) (zyc : Nat → Int64) (hF : F_L_begins yg yw yq yc p4 p5 p6 = some (zyg, zyw, zyq, zyc)) (sz : Nat) : Met l yL_begins (wz yL_begins cL_begins 8 none) rmL_begins (kPw D cI cJ [(bg, .inl (cI, 8, .inl yg)), (bw, .inl (cI, 12, .inl yw)), (bq, .inl (cI, 60, .inl yq)), (bc, .inl (cJ, 60, .inr (.inl yc)))] sz [.ref bg, .ref bw, .ref bq, .ref bc, .int p4, .int p5, .int p6]) (kQv D [(bg, .inl (cI, 8, .inl zyg)), (bw, .inl (cI, 12, .inl zyw)), (bq, .inl (cI, 60, .inl zyq)), (bc, .inl (cJ, 60, .inr (.inl zyc)))] (va_A [(bg, .inl (cI, 8, .inl yg)), (bw, .inl (cI, 12, .inl yw)), (bq, .inl (cI, 60, .inl yq)), (bc, .inl (cJ, 60, .inr (.inl yc)))] sz)) 0 0 (va_A [(bg, .inl (cI, 8, .inl yg)), (bw, .inl (cI, 12, .inl yw)), (bq, .inl (cI, 60, .inl yq)), (bc, .inl (cJ, 60, .inr (.inl yc)))] sz) := by
  refine kM_wv cL_begins 8 (by decide +kernel) rfl rfl (Nat.le_of_ble_eq_true rfl) ⟨rfl, rfl⟩ ?_
  intro p e s m args below meth c Q A ls hx hb hml hown hts hP hK hD hA hS hl hret
  replace hl : lv_has ls 8 [(0, .ref bg), (1, .ref bw), (2, .ref bq), (3, .ref bc), (4, .int p4), (5, .int p5), (6, .int p6)] := hl
  have h := hF
  unfold F_L_begins at h
  refine lv_aload_n (pc := 0) hx hb dL_begins_0 rfl (lv_at hl 0 rfl) ?_
  refine lv_iconst (v := 0) (pc := 1) hx hb dL_begins_1 (by decide) ?_
  refine lv_iload (pc := 2) hx hb dL_begins_2 (lv_at hl 4 rfl) ?_
  obtain ⟨f1, ef1⟩ : ∃ y : Nat → Int32, y = (upd yg (0 : Int32).toNatClampNeg p4) := ⟨_, rfl⟩
  replace h := am_let_s ef1 h
  refine va_iast (pc := 4) hx hb hK.1 hP hD hS 0 0 rfl rfl (vp_in_nI (n := 0) (N := 8) (by decide) (by decide)) dL_begins_4 (fun H locs hP hD hS => ?_)
  rw [← ef1] at hP hD
  replace hP : va_P D vwCl [(bg, .inl (cI, 8, .inl f1)), (bw, .inl (cI, 12, .inl yw)), (bq, .inl (cI, 60, .inl yq)), (bc, .inl (cJ, 60, .inr (.inl yc)))] H := hP
  replace hD : va_D A [(bg, .inl (cI, 8, .inl f1)), (bw, .inl (cI, 12, .inl yw)), (bq, .inl (cI, 60, .inl yq)), (bc, .inl (cJ, 60, .inr (.inl yc)))] := hD
  refine lv_aload_n (pc := 5) hx hb dL_begins_5 rfl (lv_at hl 0 rfl) ?_
  refine lv_iconst (v := 1) (pc := 6) hx hb dL_begins_6 (by decide) ?_
  refine lv_iconst (v := 1) (pc := 7) hx hb dL_begins_7 (by decide) ?_
  obtain ⟨f2, ef2⟩ : ∃ y : Nat → Int32, y = (upd f1 (1 : Int32).toNatClampNeg (1 : Int32)) := ⟨_, rfl⟩
  replace h := am_let_s ef2 h
  refine va_iast (pc := 8) hx hb hK.1 hP hD hS 0 0 rfl rfl (vp_in_nI (n := 1) (N := 8) (by decide) (by decide)) dL_begins_8 (fun H locs hP hD hS => ?_)
  rw [← ef2] at hP hD
  replace hP : va_P D vwCl [(bg, .inl (cI, 8, .inl f2)), (bw, .inl (cI, 12, .inl yw)), (bq, .inl (cI, 60, .inl yq)), (bc, .inl (cJ, 60, .inr (.inl yc)))] H := hP
  replace hD : va_D A [(bg, .inl (cI, 8, .inl f2)), (bw, .inl (cI, 12, .inl yw)), (bq, .inl (cI, 60, .inl yq)), (bc, .inl (cJ, 60, .inr (.inl yc)))] := hD
  refine lv_aload_n (pc := 9) hx hb dL_begins_9 rfl (lv_at hl 0 rfl) ?_
  refine lv_iconst (v := 2) (pc := 10) hx hb dL_begins_10 (by decide) ?_
  refine lv_iconst (v := 1) (pc := 11) hx hb dL_begins_11 (by decide) ?_
  obtain ⟨f3, ef3⟩ : ∃ y : Nat → Int32, y = (upd f2 (2 : Int32).toNatClampNeg (1 : Int32)) := ⟨_, rfl⟩
  replace h := am_let_s ef3 h
  refine va_iast (pc := 12) hx hb hK.1 hP hD hS 0 0 rfl rfl (vp_in_nI (n := 2) (N := 8) (by decide) (by decide)) dL_begins_12 (fun H locs hP hD hS => ?_)
  rw [← ef3] at hP hD
  replace hP : va_P D vwCl [(bg, .inl (cI, 8, .inl f3)), (bw, .inl (cI, 12, .inl yw)), (bq, .inl (cI, 60, .inl yq)), (bc, .inl (cJ, 60, .inr (.inl yc)))] H := hP
  replace hD : va_D A [(bg, .inl (cI, 8, .inl f3)), (bw, .inl (cI, 12, .inl yw)), (bq, .inl (cI, 60, .inl yq)), (bc, .inl (cJ, 60, .inr (.inl yc)))] := hD
  refine lv_aload_n (pc := 13) hx hb dL_begins_13 rfl (lv_at hl 0 rfl) ?_
  refine lv_iconst (v := 3) (pc := 14) hx hb dL_begins_14 (by decide) ?_
  refine lv_iconst (v := 0) (pc := 15) hx hb dL_begins_15 (by decide) ?_
  obtain ⟨f4, ef4⟩ : ∃ y : Nat → Int32, y = (upd f3 (3 : Int32).toNatClampNeg (0 : Int32)) := ⟨_, rfl⟩
  replace h := am_let_s ef4 h
  refine va_iast (pc := 16) hx hb hK.1 hP hD hS 0 0 rfl rfl (vp_in_nI (n := 3) (N := 8) (by decide) (by decide)) dL_begins_16 (fun H locs hP hD hS => ?_)
  rw [← ef4] at hP hD
  replace hP : va_P D vwCl [(bg, .inl (cI, 8, .inl f4)), (bw, .inl (cI, 12, .inl yw)), (bq, .inl (cI, 60, .inl yq)), (bc, .inl (cJ, 60, .inr (.inl yc)))] H := hP
  replace hD : va_D A [(bg, .inl (cI, 8, .inl f4)), (bw, .inl (cI, 12, .inl yw)), (bq, .inl (cI, 60, .inl yq)), (bc, .inl (cJ, 60, .inr (.inl yc)))] := hD
  refine lv_aload_n (pc := 17) hx hb dL_begins_17 rfl (lv_at hl 0 rfl) ?_
  refine lv_iconst (v := 4) (pc := 18) hx hb dL_begins_18 (by decide) ?_
  refine lv_iconst (v := 0) (pc := 19) hx hb dL_begins_19 (by decide) ?_
  obtain ⟨f5, ef5⟩ : ∃ y : Nat → Int32, y = (upd f4 (4 : Int32).toNatClampNeg (0 : Int32)) := ⟨_, rfl⟩
  replace h := am_let_s ef5 h
  refine va_iast (pc := 20) hx hb hK.1 hP hD hS 0 0 rfl rfl (vp_in_nI (n := 4) (N := 8) (by decide) (by decide)) dL_begins_20 (fun H locs hP hD hS => ?_)
  rw [← ef5] at hP hD
  replace hP : va_P D vwCl [(bg, .inl (cI, 8, .inl f5)), (bw, .inl (cI, 12, .inl yw)), (bq, .inl (cI, 60, .inl yq)), (bc, .inl (cJ, 60, .inr (.inl yc)))] H := hP
  replace hD : va_D A [(bg, .inl (cI, 8, .inl f5)), (bw, .inl (cI, 12, .inl yw)), (bq, .inl (cI, 60, .inl yq)), (bc, .inl (cJ, 60, .inr (.inl yc)))] := hD
  refine lv_aload_n (pc := 21) hx hb dL_begins_21 rfl (lv_at hl 2 rfl) ?_
  refine lv_iconst (v := 0) (pc := 22) hx hb dL_begins_22 (by decide) ?_
  refine lv_iconst (v := 0) (pc := 23) hx hb dL_begins_23 (by decide) ?_
  obtain ⟨f6, ef6⟩ : ∃ y : Nat → Int32, y = (upd yq (0 : Int32).toNatClampNeg (0 : Int32)) := ⟨_, rfl⟩
  replace h := am_let_s ef6 h
  refine va_iast (pc := 24) hx hb hK.1 hP hD hS 2 0 rfl rfl (vp_in_nI (n := 0) (N := 60) (by decide) (by decide)) dL_begins_24 (fun H locs hP hD hS => ?_)
  rw [← ef6] at hP hD
  replace hP : va_P D vwCl [(bg, .inl (cI, 8, .inl f5)), (bw, .inl (cI, 12, .inl yw)), (bq, .inl (cI, 60, .inl f6)), (bc, .inl (cJ, 60, .inr (.inl yc)))] H := hP
  replace hD : va_D A [(bg, .inl (cI, 8, .inl f5)), (bw, .inl (cI, 12, .inl yw)), (bq, .inl (cI, 60, .inl f6)), (bc, .inl (cJ, 60, .inr (.inl yc)))] := hD
  refine lv_iconst (v := 0) (pc := 25) hx hb dL_begins_25 (by decide) ?_
  refine lv_istore (lv' := [(7, .int (0 : Int32)), (0, .ref bg), (1, .ref bw), (2, .ref bq), (3, .ref bc), (4, .int p4), (5, .int p5), (6, .int p6)]) (pc := 26) hx hb dL_begins_26 hl (by decide) rfl (fun ls hl => ?_)
  refine am_join2_s (fun (f7 : Nat → Int32) (f8 : Nat → Int64) => ∀ (ls : Array Slot), lv_has ls 8 [] → ∀ (H : Heap) (locs : List Loc), va_P D vwCl [(bg, .inl (cI, 8, .inl f5)), (bw, .inl (cI, 12, .inl f7)), (bq, .inl (cI, 60, .inl f6)), (bc, .inl (cJ, 60, .inr (.inl f8)))] H → va_D A [(bg, .inl (cI, 8, .inl f5)), (bw, .inl (cI, 12, .inl f7)), (bq, .inl (cI, 60, .inl f6)), (bc, .inl (cJ, 60, .inr (.inl f8)))] → va_S A s.heap H locs → W p l e rmL_begins s m args below meth c H locs 0 0 Q (F0 m 92 ls [])) h (fun f7 f8 h ls hl H locs hP hD hS => ?_) (fun K9 hK9 h => ?_)
  · obtain ⟨e1, e2, e3, e4⟩ := am_ret4 h
    exact hret _ _ _ _ dL_begins_92 (by rw [← e1, ← e2, ← e3, ← e4]; exact hP) hS
  refine am_loop3_s (fun (x10 : Int32) (f11 : Nat → Int32) (f12 : Nat → Int64) => ∀ (ls : Array Slot), lv_has ls 8 [(1, .ref bw), (3, .ref bc), (4, .int p4), (5, .int p5), (6, .int p6), (7, .int x10)] → ∀ (H : Heap) (locs : List Loc), va_P D vwCl [(bg, .inl (cI, 8, .inl f5)), (bw, .inl (cI, 12, .inl f11)), (bq, .inl (cI, 60, .inl f6)), (bc, .inl (cJ, 60, .inr (.inl f12)))] H → va_D A [(bg, .inl (cI, 8, .inl f5)), (bw, .inl (cI, 12, .inl f11)), (bq, .inl (cI, 60, .inl f6)), (bc, .inl (cJ, 60, .inr (.inl f12)))] → va_S A s.heap H locs → W p l e rmL_begins s m args below meth c H locs 0 0 Q (F0 m 28 ls [])) (fun rec13 ihrec13 x10 f11 f12 h ls hl H locs hP hD hS => ?_) _ _ _ _ h ls (lv_sub hl [2, 4, 5, 6, 7, 0] rfl) H locs hP hD hS
  unfold F_L_begins_B28 at h
  refine lv_iload (pc := 28) hx hb dL_begins_28 (lv_at hl 5 rfl) ?_
  refine lv_bipush (v := 12) (pc := 30) hx hb dL_begins_30 (by decide) ?_
  refine lv_icmp_ge (pc := 32) (tgt := 92) hx hb dL_begins_32 (by decide) (fun cc => ?_) (fun cc => ?_)
  · replace h := am_t cc h
    exact hK9 _ _ h ls (lv_sub hl [] rfl) H locs hP hD hS
  replace h := am_f cc h
  refine lv_aload_n (pc := 35) hx hb dL_begins_35 rfl (lv_at hl 0 rfl) ?_
  refine lv_iload (pc := 36) hx hb dL_begins_36 (lv_at hl 5 rfl) ?_
  refine lv_iload (pc := 38) hx hb dL_begins_38 (lv_at hl 5 rfl) ?_
  refine lv_iload (pc := 40) hx hb dL_begins_40 (lv_at hl 2 rfl) ?_
  refine am_join1_s (fun (j14 : Int32) => ∀ (ls : Array Slot), lv_has ls 8 [(1, .ref bw), (3, .ref bc), (4, .int p4), (5, .int p5), (6, .int p6), (7, .int x10)] → W p l e rmL_begins s m args below meth c H locs 0 0 Q (F0 m 50 ls [.int j14, .int x10, .ref bw])) h (fun j14 h ls hl => ?_) (fun J15 hJ15 h => ?_)
  · obtain ⟨hi, h⟩ := am_in_s h
    obtain ⟨f16, ef16⟩ : ∃ y : Nat → Int32, y = (upd f11 x10.toNatClampNeg j14) := ⟨_, rfl⟩
    replace h := am_let_s ef16 h
    refine va_iast (pc := 50) hx hb hK.1 hP hD hS 1 0 rfl rfl hi dL_begins_50 (fun H locs hP hD hS => ?_)
    rw [← ef16] at hP hD
    replace hP : va_P D vwCl [(bg, .inl (cI, 8, .inl f5)), (bw, .inl (cI, 12, .inl f16)), (bq, .inl (cI, 60, .inl f6)), (bc, .inl (cJ, 60, .inr (.inl f12)))] H := hP
    replace hD : va_D A [(bg, .inl (cI, 8, .inl f5)), (bw, .inl (cI, 12, .inl f16)), (bq, .inl (cI, 60, .inl f6)), (bc, .inl (cJ, 60, .inr (.inl f12)))] := hD
    refine lv_aload_n (pc := 51) hx hb dL_begins_51 rfl (lv_at hl 1 rfl) ?_
    refine lv_iconst (v := 0) (pc := 52) hx hb dL_begins_52 (by decide) ?_
    refine lv_iload (pc := 53) hx hb dL_begins_53 (lv_at hl 5 rfl) ?_
    refine lv_iload (pc := 55) hx hb dL_begins_55 (lv_at hl 3 rfl) ?_
    refine lv_iload (pc := 57) hx hb dL_begins_57 (lv_at hl 5 rfl) ?_
    refine lv_iload (pc := 59) hx hb dL_begins_59 (lv_at hl 4 rfl) ?_
    refine lv_imul (pc := 61) hx hb dL_begins_61 ?_
    refine lv_iadd (pc := 62) hx hb dL_begins_62 ?_
    refine lv_bipush (v := 99) (pc := 63) hx hb dL_begins_63 (by decide) ?_
    refine lv_icmp_ge (pc := 65) (tgt := 79) hx hb dL_begins_65 (by decide) (fun cc => ?_) (fun cc => ?_)
    · replace h := am_t cc h
      refine lv_bipush (v := 99) (pc := 79) hx hb dL_begins_79 (by decide) ?_
      refine lv_bipush (v := 15) (pc := 81) hx hb dL_begins_81 (by decide) ?_
      obtain ⟨f17, hc17, h⟩ := am_bind_s h
      refine kc_SWv (pc := 83) ⟨hx, hb, hml, hown, hts⟩ hP hK hD hS hA [.ref bc, .int (0 : Int32), .int x10, .int (99 : Int32), .int (15 : Int32)] (c_L_put l D cI cJ bc f12 (0 : Int32) x10 (99 : Int32) (15 : Int32) f17 hc17 _) [3] rfl rfl rfl (cwS 5 hts (gzS wl120 wl121 wl118 wl122) rfl rfl rfl ⟨rfl, hdL_put⟩ ⟨Nat.le_of_ble_eq_true rfl, Nat.le_of_ble_eq_true rfl⟩) [] rfl hl.1 rfl (Nat.le_of_ble_eq_true rfl) dL_begins_83 ⟨Nat.zero_le _, Nat.zero_le _⟩ (fun H locs hP hD hS => ?_)
      replace hP : va_P D vwCl [(bg, .inl (cI, 8, .inl f5)), (bw, .inl (cI, 12, .inl f16)), (bq, .inl (cI, 60, .inl f6)), (bc, .inl (cJ, 60, .inr (.inl f17)))] H := hP
      replace hD : va_D A [(bg, .inl (cI, 8, .inl f5)), (bw, .inl (cI, 12, .inl f16)), (bq, .inl (cI, 60, .inl f6)), (bc, .inl (cJ, 60, .inr (.inl f17)))] := hD
      obtain ⟨x18, ex18⟩ : ∃ y : Int32, y = (x10 + (1 : Int32)) := ⟨_, rfl⟩
      replace h := am_let_s ex18 h
      refine lv_iinc (pc := 86) (v := x18) (lv' := [(7, .int x18), (1, .ref bw), (3, .ref bc), (4, .int p4), (5, .int p5), (6, .int p6)]) hx hb dL_begins_86 hl (k := 5) rfl (by rw [ex18]; rfl) (by decide) rfl (fun ls hl => ?_)
      refine lv_goto (pc := 89) (tgt := 28) hx hb dL_begins_89 (by decide) ?_
      exact ihrec13 _ _ _ h ls (lv_sub hl [1, 2, 3, 4, 5, 0] rfl) H locs hP hD hS
    replace h := am_f cc h
    refine lv_iload (pc := 68) hx hb dL_begins_68 (lv_at hl 3 rfl) ?_
    refine lv_iload (pc := 70) hx hb dL_begins_70 (lv_at hl 5 rfl) ?_
    refine lv_iload (pc := 72) hx hb dL_begins_72 (lv_at hl 4 rfl) ?_
    refine lv_imul (pc := 74) hx hb dL_begins_74 ?_
    refine lv_iadd (pc := 75) hx hb dL_begins_75 ?_
    refine lv_goto (pc := 76) (tgt := 81) hx hb dL_begins_76 (by decide) ?_
    refine lv_bipush (v := 15) (pc := 81) hx hb dL_begins_81 (by decide) ?_
    obtain ⟨f19, hc19, h⟩ := am_bind_s h
    refine kc_SWv (pc := 83) ⟨hx, hb, hml, hown, hts⟩ hP hK hD hS hA [.ref bc, .int (0 : Int32), .int x10, .int (p5 + (x10 * p6)), .int (15 : Int32)] (c_L_put l D cI cJ bc f12 (0 : Int32) x10 (p5 + (x10 * p6)) (15 : Int32) f19 hc19 _) [3] rfl rfl rfl (cwS 5 hts (gzS wl120 wl121 wl118 wl122) rfl rfl rfl ⟨rfl, hdL_put⟩ ⟨Nat.le_of_ble_eq_true rfl, Nat.le_of_ble_eq_true rfl⟩) [] rfl hl.1 rfl (Nat.le_of_ble_eq_true rfl) dL_begins_83 ⟨Nat.zero_le _, Nat.zero_le _⟩ (fun H locs hP hD hS => ?_)
    replace hP : va_P D vwCl [(bg, .inl (cI, 8, .inl f5)), (bw, .inl (cI, 12, .inl f16)), (bq, .inl (cI, 60, .inl f6)), (bc, .inl (cJ, 60, .inr (.inl f19)))] H := hP
    replace hD : va_D A [(bg, .inl (cI, 8, .inl f5)), (bw, .inl (cI, 12, .inl f16)), (bq, .inl (cI, 60, .inl f6)), (bc, .inl (cJ, 60, .inr (.inl f19)))] := hD
    obtain ⟨x20, ex20⟩ : ∃ y : Int32, y = (x10 + (1 : Int32)) := ⟨_, rfl⟩
    replace h := am_let_s ex20 h
    refine lv_iinc (pc := 86) (v := x20) (lv' := [(7, .int x20), (1, .ref bw), (3, .ref bc), (4, .int p4), (5, .int p5), (6, .int p6)]) hx hb dL_begins_86 hl (k := 5) rfl (by rw [ex20]; rfl) (by decide) rfl (fun ls hl => ?_)
    refine lv_goto (pc := 89) (tgt := 28) hx hb dL_begins_89 (by decide) ?_
    exact ihrec13 _ _ _ h ls (lv_sub hl [1, 2, 3, 4, 5, 0] rfl) H locs hP hD hS
  refine lv_icmp_ge (pc := 42) (tgt := 49) hx hb dL_begins_42 (by decide) (fun cc => ?_) (fun cc => ?_)
  · replace h := am_t cc h
    refine lv_iconst (v := 0) (pc := 49) hx hb dL_begins_49 (by decide) ?_
    exact hJ15 _ h ls (lv_sub hl [0, 1, 2, 3, 4, 5] rfl)
  replace h := am_f cc h
  refine lv_iconst (v := 1) (pc := 45) hx hb dL_begins_45 (by decide) ?_
  refine lv_goto (pc := 46) (tgt := 50) hx hb dL_begins_46 (by decide) ?_
  exact hJ15 _ h ls (lv_sub hl [0, 1, 2, 3, 4, 5] rfl)
theorem hdL_noise : yL_noise.cls ≠ "java/lang/invoke/MethodHandle" ∧ yL_noise.cls ≠ "java/lang/invoke/VarHandle" ∧ (parseMethodDescriptor yL_noise.desc).map (fun d => d.parameters.length) = some 1 := by decide +kernel
abbrev rmL_noise : Room := { frames := 0, cells := 0, slots := 0, locals := 0 }
set_option maxHeartbeats 20000000 in
set_option maxRecDepth 100000 in
theorem c_L_noise (l : Launch) (D : va_G) (cI cJ : ClassId) (bg : Nat) (yg : Nat → Int32)  (r0 : Int32) (zyg : Nat → Int32) (hF : F_L_noise yg = some (r0, zyg)) (sz : Nat) : Met l yL_noise (wz yL_noise cL_noise 1 (some .int)) rmL_noise (kPw D cI cJ [(bg, .inl (cI, 8, .inl yg))] sz [.ref bg]) (kQi D r0 [(bg, .inl (cI, 8, .inl zyg))] (va_A [(bg, .inl (cI, 8, .inl yg))] sz)) 0 0 (va_A [(bg, .inl (cI, 8, .inl yg))] sz) := by
  refine kM_wi cL_noise 1 .int (by decide +kernel) rfl rfl (Nat.le_of_ble_eq_true rfl) ⟨rfl, rfl⟩ ?_
  intro p e s m args below meth c Q A ls hx hb hml hown hts hP hK hD hA hS hl hret
  have hk369 := hts _ (List.mem_cons_of_mem _ wl369)
  replace hl : lv_has ls 1 [(0, .ref bg)] := hl
  have h := hF
  unfold F_L_noise at h
  refine lv_aload_n (pc := 0) hx hb dL_noise_0 rfl (lv_at hl 0 rfl) ?_
  refine lv_iconst (v := 2) (pc := 1) hx hb dL_noise_1 (by decide) ?_
  refine lv_bipush (v := 75) (pc := 2) hx hb dL_noise_2 (by decide) ?_
  refine lv_aload_n (pc := 4) hx hb dL_noise_4 rfl (lv_at hl 0 rfl) ?_
  refine lv_iconst (v := 2) (pc := 5) hx hb dL_noise_5 (by decide) ?_
  refine va_iald (pc := 6) hx hb hK.1 hP 0 0 rfl rfl (vp_in_nI (n := 2) (N := 8) (by decide) (by decide)) dL_noise_6 ?_
  refine lv_imul (pc := 7) hx hb dL_noise_7 ?_
  refine lv_bipush (v := 74) (pc := 8) hx hb dL_noise_8 (by decide) ?_
  refine lv_iadd (pc := 10) hx hb dL_noise_10 ?_
  refine lv_ldc (pc := 11) hx hb hown hk369 dL_noise_11 ?_
  refine lv_irem (pc := 13) hx hb dL_noise_13 (by decide) ?_
  obtain ⟨f1, ef1⟩ : ∃ y : Nat → Int32, y = (upd yg (2 : Int32).toNatClampNeg ((((75 : Int32) * (yg (2 : Int32).toNatClampNeg)) + (74 : Int32)) - (((75 : Int32) * (yg (2 : Int32).toNatClampNeg)) + (74 : Int32)) / (65537 : Int32) * (65537 : Int32))) := ⟨_, rfl⟩
  replace h := am_let_s ef1 h
  refine va_iast (pc := 14) hx hb hK.1 hP hD hS 0 0 rfl rfl (vp_in_nI (n := 2) (N := 8) (by decide) (by decide)) dL_noise_14 (fun H locs hP hD hS => ?_)
  rw [← ef1] at hP hD
  replace hP : va_P D vwCl [(bg, .inl (cI, 8, .inl f1))] H := hP
  replace hD : va_D A [(bg, .inl (cI, 8, .inl f1))] := hD
  refine lv_aload_n (pc := 15) hx hb dL_noise_15 rfl (lv_at hl 0 rfl) ?_
  refine lv_iconst (v := 2) (pc := 16) hx hb dL_noise_16 (by decide) ?_
  refine va_iald (pc := 17) hx hb hK.1 hP 0 0 rfl rfl (vp_in_nI (n := 2) (N := 8) (by decide) (by decide)) dL_noise_17 ?_
  obtain ⟨e1, e2⟩ := am_ret2 h
  exact hret _ _ _ _ _ dL_noise_18 rfl e1 (by rw [← e2]; exact hP) hS
theorem hdL_all : yL_all.cls ≠ "java/lang/invoke/MethodHandle" ∧ yL_all.cls ≠ "java/lang/invoke/VarHandle" ∧ (parseMethodDescriptor yL_all.desc).map (fun d => d.parameters.length) = some 2 := by decide +kernel
abbrev rmL_all : Room := { frames := 0, cells := 0, slots := 0, locals := 0 }
set_option maxHeartbeats 20000000 in
set_option maxRecDepth 100000 in
theorem c_L_all (l : Launch) (D : va_G) (cI cJ : ClassId) (bg : Nat) (bw : Nat) (yg : Nat → Int32) (yw : Nat → Int32)  (r0 : Int32) (hF : F_L_all yg yw = some r0) : Met l yL_all (wz yL_all cL_all 4 (some .int)) rmL_all (kPc D cI cJ [(bg, .inl (cI, 8, .inl yg)), (bw, .inl (cI, 12, .inl yw))] [.ref bg, .ref bw]) (vp_Si (fun r => r = r0)) 0 0 (fun _ => False) := by
  refine kM_ri cL_all 4 .int (by decide +kernel) rfl rfl (Nat.le_of_ble_eq_true rfl) ⟨rfl, rfl⟩ ?_
  intro p e s m args below meth c Q ls hx hb hml hown hts hP hK hl hret
  replace hl : lv_has ls 4 [(0, .ref bg), (1, .ref bw)] := hl
  have h := hF
  unfold F_L_all at h
  refine lv_iconst (v := 0) (pc := 0) hx hb dL_all_0 (by decide) ?_
  refine lv_istore_n (lv' := [(2, .int (0 : Int32)), (0, .ref bg), (1, .ref bw)]) (pc := 1) hx hb dL_all_1 rfl hl (by decide) rfl (fun ls hl => ?_)
  refine lv_iconst (v := 0) (pc := 2) hx hb dL_all_2 (by decide) ?_
  refine lv_istore_n (lv' := [(3, .int (0 : Int32)), (2, .int (0 : Int32)), (0, .ref bg), (1, .ref bw)]) (pc := 3) hx hb dL_all_3 rfl hl (by decide) rfl (fun ls hl => ?_)
  refine am_join1_s (fun (x1 : Int32) => ∀ (ls : Array Slot), lv_has ls 4 [(2, .int x1)] → W p l e rmL_all s m args below meth c s.heap [] 0 0 Q (F0 m 23 ls [])) h (fun x1 h ls hl => ?_) (fun K2 hK2 h => ?_)
  · refine lv_iload_n (pc := 23) hx hb dL_all_23 rfl (lv_at hl 0 rfl) ?_
    obtain e1 := am_ret1 h
    exact hret _ _ _ dL_all_24 rfl e1
  refine am_loop2_s (fun (x3 : Int32) (x4 : Int32) => ∀ (ls : Array Slot), lv_has ls 4 [(0, .ref bg), (1, .ref bw), (2, .int x3), (3, .int x4)] → W p l e rmL_all s m args below meth c s.heap [] 0 0 Q (F0 m 4 ls [])) (fun rec5 ihrec5 x3 x4 h ls hl => ?_) _ _ _ h ls (lv_sub hl [2, 3, 1, 0] rfl)
  unfold F_L_all_B4 at h
  refine lv_iload_n (pc := 4) hx hb dL_all_4 rfl (lv_at hl 3 rfl) ?_
  refine lv_aload_n (pc := 5) hx hb dL_all_5 rfl (lv_at hl 0 rfl) ?_
  refine lv_iconst (v := 0) (pc := 6) hx hb dL_all_6 (by decide) ?_
  refine va_iald (pc := 7) hx hb hK.1 hP 0 0 rfl rfl (vp_in_nI (n := 0) (N := 8) (by decide) (by decide)) dL_all_7 ?_
  refine lv_icmp_ge (pc := 8) (tgt := 23) hx hb dL_all_8 (by decide) (fun cc => ?_) (fun cc => ?_)
  · replace h := am_t cc h
    exact hK2 _ h ls (lv_sub hl [2] rfl)
  replace h := am_f cc h
  refine lv_iload_n (pc := 11) hx hb dL_all_11 rfl (lv_at hl 2 rfl) ?_
  refine lv_aload_n (pc := 12) hx hb dL_all_12 rfl (lv_at hl 1 rfl) ?_
  refine lv_iload_n (pc := 13) hx hb dL_all_13 rfl (lv_at hl 3 rfl) ?_
  obtain ⟨hi, h⟩ := am_in_s h
  refine va_iald (pc := 14) hx hb hK.1 hP 1 0 rfl rfl hi dL_all_14 ?_
  refine lv_iadd (pc := 15) hx hb dL_all_15 ?_
  refine lv_topi (fun x6 ex6 => ?_)
  replace h := am_let_s ex6 h
  refine lv_istore_n (lv' := [(2, .int x6), (0, .ref bg), (1, .ref bw), (3, .int x4)]) (pc := 16) hx hb dL_all_16 rfl hl (by decide) rfl (fun ls hl => ?_)
  obtain ⟨x7, ex7⟩ : ∃ y : Int32, y = (x4 + (1 : Int32)) := ⟨_, rfl⟩
  replace h := am_let_s ex7 h
  refine lv_iinc (pc := 17) (v := x7) (lv' := [(3, .int x7), (2, .int x6), (0, .ref bg), (1, .ref bw)]) hx hb dL_all_17 hl (k := 3) rfl (by rw [ex7]; rfl) (by decide) rfl (fun ls hl => ?_)
  refine lv_goto (pc := 20) (tgt := 4) hx hb dL_all_20 (by decide) ?_
  exact ihrec5 _ _ h ls (lv_sub hl [2, 3, 1, 0] rfl)
theorem hdL_counts : yL_counts.cls ≠ "java/lang/invoke/MethodHandle" ∧ yL_counts.cls ≠ "java/lang/invoke/VarHandle" ∧ (parseMethodDescriptor yL_counts.desc).map (fun d => d.parameters.length) = some 2 := by decide +kernel
abbrev rmL_counts : Room := { frames := 1, cells := 0, slots := 0, locals := 23 }
set_option maxHeartbeats 20000000 in
set_option maxRecDepth 100000 in
theorem c_L_counts (l : Launch) (D : va_G) (cI cJ : ClassId) (bg : Nat) (bw : Nat) (yg : Nat → Int32) (yw : Nat → Int32)  (r0 : Int32) (hF : F_L_counts yg yw = some r0) : Met l yL_counts (wz yL_counts cL_counts 5 (some .int)) rmL_counts (kPc D cI cJ [(bg, .inl (cI, 8, .inl yg)), (bw, .inl (cI, 12, .inl yw))] [.ref bg, .ref bw]) (vp_Si (fun r => r = r0)) 0 0 (fun _ => False) := by
  refine kM_ri cL_counts 5 .int (by decide +kernel) rfl rfl (Nat.le_of_ble_eq_true rfl) ⟨rfl, rfl⟩ ?_
  intro p e s m args below meth c Q ls hx hb hml hown hts hP hK hl hret
  replace hl : lv_has ls 5 [(0, .ref bg), (1, .ref bw)] := hl
  have h := hF
  unfold F_L_counts at h
  refine lv_lconst (v := 0) (pc := 0) hx hb dL_counts_0 rfl ?_
  refine lv_lstore_n (lv' := [(2, .long (0 : Int64)), (0, .ref bg), (1, .ref bw)]) (pc := 1) hx hb dL_counts_1 rfl hl (by decide) rfl (fun ls hl => ?_)
  refine lv_iconst (v := 0) (pc := 2) hx hb dL_counts_2 (by decide) ?_
  refine lv_istore (lv' := [(4, .int (0 : Int32)), (2, .long (0 : Int64)), (0, .ref bg), (1, .ref bw)]) (pc := 3) hx hb dL_counts_3 hl (by decide) rfl (fun ls hl => ?_)
  refine am_join1_s (fun (x1 : Int64) => ∀ (ls : Array Slot), lv_has ls 5 [(0, .ref bg), (1, .ref bw), (2, .long x1)] → W p l e rmL_counts s m args below meth c s.heap [] 0 0 Q (F0 m 33 ls [])) h (fun x1 h ls hl => ?_) (fun K2 hK2 h => ?_)
  · refine lv_aload_n (pc := 33) hx hb dL_counts_33 rfl (lv_at hl 0 rfl) ?_
    refine lv_aload_n (pc := 34) hx hb dL_counts_34 rfl (lv_at hl 1 rfl) ?_
    obtain ⟨r3, hc3, h⟩ := am_bind_s h
    refine kc_Si (pc := 35) ⟨hx, hb, hml, hown, hts⟩ hP hK [.ref bg, .ref bw] (c_L_all l D cI cJ bg bw yg yw r3 hc3) [0, 1] rfl (cwS 2 hts (gzS wl129 wl130 wl118 wl131) rfl rfl rfl ⟨rfl, hdL_all⟩ ⟨Nat.le_of_ble_eq_true rfl, Nat.le_of_ble_eq_true rfl⟩) [] rfl hl.1 rfl (Nat.le_of_ble_eq_true rfl) dL_counts_35 ⟨Nat.zero_le _, Nat.zero_le _⟩ ?_
    refine lv_i2l (pc := 38) hx hb dL_counts_38 rfl ?_
    refine lv_aload_n (pc := 39) hx hb dL_counts_39 rfl (lv_at hl 0 rfl) ?_
    refine lv_aload_n (pc := 40) hx hb dL_counts_40 rfl (lv_at hl 1 rfl) ?_
    obtain ⟨r4, hc4, h⟩ := am_bind_s h
    refine kc_Si (pc := 41) ⟨hx, hb, hml, hown, hts⟩ hP hK [.ref bg, .ref bw] (c_L_all l D cI cJ bg bw yg yw r4 hc4) [0, 1] rfl (cwS 2 hts (gzS wl129 wl130 wl118 wl131) rfl rfl rfl ⟨rfl, hdL_all⟩ ⟨Nat.le_of_ble_eq_true rfl, Nat.le_of_ble_eq_true rfl⟩) [.long r3.toInt64] rfl hl.1 rfl (Nat.le_of_ble_eq_true rfl) dL_counts_41 ⟨Nat.zero_le _, Nat.zero_le _⟩ ?_
    refine lv_i2l (pc := 44) hx hb dL_counts_44 rfl ?_
    refine lv_lmul (pc := 45) hx hb dL_counts_45 ?_
    refine lv_lload_n (pc := 46) hx hb dL_counts_46 rfl (lv_at hl 2 rfl) ?_
    obtain ⟨hz, h⟩ := am_nzl_s h
    refine lv_ldiv (pc := 47) hx hb dL_counts_47 hz ?_
    refine lv_l2i (pc := 48) hx hb dL_counts_48 rfl ?_
    obtain e1 := am_ret1 h
    exact hret _ _ _ dL_counts_49 rfl e1
  refine am_loop2_s (fun (x5 : Int64) (x6 : Int32) => ∀ (ls : Array Slot), lv_has ls 5 [(0, .ref bg), (1, .ref bw), (2, .long x5), (4, .int x6)] → W p l e rmL_counts s m args below meth c s.heap [] 0 0 Q (F0 m 5 ls [])) (fun rec7 ihrec7 x5 x6 h ls hl => ?_) _ _ _ h ls (lv_sub hl [2, 3, 1, 0] rfl)
  unfold F_L_counts_B5 at h
  refine lv_iload (pc := 5) hx hb dL_counts_5 (lv_at hl 3 rfl) ?_
  refine lv_aload_n (pc := 7) hx hb dL_counts_7 rfl (lv_at hl 0 rfl) ?_
  refine lv_iconst (v := 0) (pc := 8) hx hb dL_counts_8 (by decide) ?_
  refine va_iald (pc := 9) hx hb hK.1 hP 0 0 rfl rfl (vp_in_nI (n := 0) (N := 8) (by decide) (by decide)) dL_counts_9 ?_
  refine lv_icmp_ge (pc := 10) (tgt := 33) hx hb dL_counts_10 (by decide) (fun cc => ?_) (fun cc => ?_)
  · replace h := am_t cc h
    exact hK2 _ h ls (lv_sub hl [0, 1, 2] rfl)
  replace h := am_f cc h
  refine lv_lload_n (pc := 13) hx hb dL_counts_13 rfl (lv_at hl 2 rfl) ?_
  refine lv_aload_n (pc := 14) hx hb dL_counts_14 rfl (lv_at hl 1 rfl) ?_
  refine lv_iload (pc := 15) hx hb dL_counts_15 (lv_at hl 3 rfl) ?_
  obtain ⟨hi, h⟩ := am_in_s h
  refine va_iald (pc := 17) hx hb hK.1 hP 1 0 rfl rfl hi dL_counts_17 ?_
  refine lv_i2l (pc := 18) hx hb dL_counts_18 rfl ?_
  refine lv_aload_n (pc := 19) hx hb dL_counts_19 rfl (lv_at hl 1 rfl) ?_
  refine lv_iload (pc := 20) hx hb dL_counts_20 (lv_at hl 3 rfl) ?_
  obtain ⟨hi, h⟩ := am_in_s h
  refine va_iald (pc := 22) hx hb hK.1 hP 1 0 rfl rfl hi dL_counts_22 ?_
  refine lv_i2l (pc := 23) hx hb dL_counts_23 rfl ?_
  refine lv_lmul (pc := 24) hx hb dL_counts_24 ?_
  refine lv_ladd (pc := 25) hx hb dL_counts_25 ?_
  refine lv_topl (fun x8 ex8 => ?_)
  replace h := am_let_s ex8 h
  refine lv_lstore_n (lv' := [(2, .long x8), (0, .ref bg), (1, .ref bw), (4, .int x6)]) (pc := 26) hx hb dL_counts_26 rfl hl (by decide) rfl (fun ls hl => ?_)
  obtain ⟨x9, ex9⟩ : ∃ y : Int32, y = (x6 + (1 : Int32)) := ⟨_, rfl⟩
  replace h := am_let_s ex9 h
  refine lv_iinc (pc := 27) (v := x9) (lv' := [(4, .int x9), (2, .long x8), (0, .ref bg), (1, .ref bw)]) hx hb dL_counts_27 hl (k := 3) rfl (by rw [ex9]; rfl) (by decide) rfl (fun ls hl => ?_)
  refine lv_goto (pc := 30) (tgt := 5) hx hb dL_counts_30 (by decide) ?_
  exact ihrec7 _ _ h ls (lv_sub hl [2, 3, 1, 0] rfl)
theorem hdL_thins : yL_thins.cls ≠ "java/lang/invoke/MethodHandle" ∧ yL_thins.cls ≠ "java/lang/invoke/VarHandle" ∧ (parseMethodDescriptor yL_thins.desc).map (fun d => d.parameters.length) = some 2 := by decide +kernel
abbrev rmL_thins : Room := { frames := 0, cells := 0, slots := 0, locals := 0 }
set_option maxHeartbeats 20000000 in
set_option maxRecDepth 100000 in
theorem c_L_thins (l : Launch) (D : va_G) (cI cJ : ClassId) (bg : Nat) (bw : Nat) (yg : Nat → Int32) (yw : Nat → Int32)  (r0 : Int32) (zyw : Nat → Int32) (hF : F_L_thins yg yw = some (r0, zyw)) (sz : Nat) : Met l yL_thins (wz yL_thins cL_thins 7 (some .int)) rmL_thins (kPw D cI cJ [(bg, .inl (cI, 8, .inl yg)), (bw, .inl (cI, 12, .inl yw))] sz [.ref bg, .ref bw]) (kQi D r0 [(bg, .inl (cI, 8, .inl yg)), (bw, .inl (cI, 12, .inl zyw))] (va_A [(bg, .inl (cI, 8, .inl yg)), (bw, .inl (cI, 12, .inl yw))] sz)) 0 0 (va_A [(bg, .inl (cI, 8, .inl yg)), (bw, .inl (cI, 12, .inl yw))] sz) := by
  refine kM_wi cL_thins 7 .int (by decide +kernel) rfl rfl (Nat.le_of_ble_eq_true rfl) ⟨rfl, rfl⟩ ?_
  intro p e s m args below meth c Q A ls hx hb hml hown hts hP hK hD hA hS hl hret
  replace hl : lv_has ls 7 [(0, .ref bg), (1, .ref bw)] := hl
  have h := hF
  unfold F_L_thins at h
  refine lv_iconst (v := 0) (pc := 0) hx hb dL_thins_0 (by decide) ?_
  refine lv_istore_n (lv' := [(2, .int (0 : Int32)), (0, .ref bg), (1, .ref bw)]) (pc := 1) hx hb dL_thins_1 rfl hl (by decide) rfl (fun ls hl => ?_)
  refine lv_iconst (v := 0) (pc := 2) hx hb dL_thins_2 (by decide) ?_
  refine lv_istore_n (lv' := [(3, .int (0 : Int32)), (2, .int (0 : Int32)), (0, .ref bg), (1, .ref bw)]) (pc := 3) hx hb dL_thins_3 rfl hl (by decide) rfl (fun ls hl => ?_)
  refine lv_iconst (v := 0) (pc := 4) hx hb dL_thins_4 (by decide) ?_
  refine lv_istore (lv' := [(4, .int (0 : Int32)), (3, .int (0 : Int32)), (2, .int (0 : Int32)), (0, .ref bg), (1, .ref bw)]) (pc := 5) hx hb dL_thins_5 hl (by decide) rfl (fun ls hl => ?_)
  refine am_join1_s (fun (x1 : Int32) => ∀ (ls : Array Slot), lv_has ls 7 [(0, .ref bg), (1, .ref bw), (2, .int x1), (3, .int (0 : Int32))] → W p l e rmL_thins s m args below meth c s.heap [] 0 0 Q (F0 m 48 ls [])) h (fun x1 h ls hl => ?_) (fun K2 hK2 h => ?_)
  · refine lv_iconst (v := 0) (pc := 48) hx hb dL_thins_48 (by decide) ?_
    refine lv_istore (lv' := [(4, .int (0 : Int32)), (0, .ref bg), (1, .ref bw), (2, .int x1), (3, .int (0 : Int32))]) (pc := 49) hx hb dL_thins_49 hl (by decide) rfl (fun ls hl => ?_)
    refine am_join2_s (fun (x3 : Int32) (f4 : Nat → Int32) => ∀ (ls : Array Slot), lv_has ls 7 [(3, .int x3)] → ∀ (H : Heap) (locs : List Loc), va_P D vwCl [(bg, .inl (cI, 8, .inl yg)), (bw, .inl (cI, 12, .inl f4))] H → va_D A [(bg, .inl (cI, 8, .inl yg)), (bw, .inl (cI, 12, .inl f4))] → va_S A s.heap H locs → W p l e rmL_thins s m args below meth c H locs 0 0 Q (F0 m 100 ls [])) h (fun x3 f4 h ls hl H locs hP hD hS => ?_) (fun K5 hK5 h => ?_)
    · refine lv_iload_n (pc := 100) hx hb dL_thins_100 rfl (lv_at hl 0 rfl) ?_
      obtain ⟨e1, e2⟩ := am_ret2 h
      exact hret _ _ _ _ _ dL_thins_101 rfl e1 (by rw [← e2]; exact hP) hS
    refine am_loop3_s (fun (x6 : Int32) (x7 : Int32) (f8 : Nat → Int32) => ∀ (ls : Array Slot), lv_has ls 7 [(0, .ref bg), (1, .ref bw), (2, .int x1), (3, .int x6), (4, .int x7)] → ∀ (H : Heap) (locs : List Loc), va_P D vwCl [(bg, .inl (cI, 8, .inl yg)), (bw, .inl (cI, 12, .inl f8))] H → va_D A [(bg, .inl (cI, 8, .inl yg)), (bw, .inl (cI, 12, .inl f8))] → va_S A s.heap H locs → W p l e rmL_thins s m args below meth c H locs 0 0 Q (F0 m 51 ls [])) (fun rec9 ihrec9 x6 x7 f8 h ls hl H locs hP hD hS => ?_) _ _ _ _ h ls (lv_sub hl [1, 2, 3, 4, 0] rfl) s.heap [] hP hD hS
    unfold F_L_thins_B51 at h
    refine lv_iload (pc := 51) hx hb dL_thins_51 (lv_at hl 4 rfl) ?_
    refine lv_aload_n (pc := 53) hx hb dL_thins_53 rfl (lv_at hl 0 rfl) ?_
    refine lv_iconst (v := 0) (pc := 54) hx hb dL_thins_54 (by decide) ?_
    refine va_iald (pc := 55) hx hb hK.1 hP 0 0 rfl rfl (vp_in_nI (n := 0) (N := 8) (by decide) (by decide)) dL_thins_55 ?_
    refine lv_icmp_ge (pc := 56) (tgt := 100) hx hb dL_thins_56 (by decide) (fun cc => ?_) (fun cc => ?_)
    · replace h := am_t cc h
      exact hK5 _ _ h ls (lv_sub hl [3] rfl) H locs hP hD hS
    replace h := am_f cc h
    refine lv_aload_n (pc := 59) hx hb dL_thins_59 rfl (lv_at hl 1 rfl) ?_
    refine lv_iload (pc := 60) hx hb dL_thins_60 (lv_at hl 4 rfl) ?_
    refine lv_iload_n (pc := 62) hx hb dL_thins_62 rfl (lv_at hl 2 rfl) ?_
    refine am_join1_s (fun (j10 : Int32) => ∀ (ls : Array Slot), lv_has ls 7 [(0, .ref bg), (1, .ref bw), (2, .int x1), (3, .int x6), (4, .int x7)] → W p l e rmL_thins s m args below meth c H locs 0 0 Q (F0 m 76 ls [.int j10, .int x7, .ref bw])) h (fun j10 h ls hl => ?_) (fun J11 hJ11 h => ?_)
    · obtain ⟨hi, h⟩ := am_in_s h
      obtain ⟨f12, ef12⟩ : ∃ y : Nat → Int32, y = (upd f8 x7.toNatClampNeg j10) := ⟨_, rfl⟩
      replace h := am_let_s ef12 h
      refine va_iast (pc := 76) hx hb hK.1 hP hD hS 1 0 rfl rfl hi dL_thins_76 (fun H locs hP hD hS => ?_)
      rw [← ef12] at hP hD
      replace hP : va_P D vwCl [(bg, .inl (cI, 8, .inl yg)), (bw, .inl (cI, 12, .inl f12))] H := hP
      replace hD : va_D A [(bg, .inl (cI, 8, .inl yg)), (bw, .inl (cI, 12, .inl f12))] := hD
      refine lv_aload_n (pc := 77) hx hb dL_thins_77 rfl (lv_at hl 1 rfl) ?_
      refine lv_iload (pc := 78) hx hb dL_thins_78 (lv_at hl 4 rfl) ?_
      obtain ⟨hi, h⟩ := am_in_s h
      refine va_iald (pc := 80) hx hb hK.1 hP 1 0 rfl rfl hi dL_thins_80 ?_
      refine lv_iload_n (pc := 81) hx hb dL_thins_81 rfl (lv_at hl 3 rfl) ?_
      refine lv_icmp_le (pc := 82) (tgt := 92) hx hb dL_thins_82 (by decide) (fun cc => ?_) (fun cc => ?_)
      · replace h := am_t cc h
        refine lv_iload_n (pc := 92) hx hb dL_thins_92 rfl (lv_at hl 3 rfl) ?_
        refine lv_istore_n (lv' := [(3, .int x6), (0, .ref bg), (1, .ref bw), (2, .int x1), (4, .int x7)]) (pc := 93) hx hb dL_thins_93 rfl hl (by decide) rfl (fun ls hl => ?_)
        obtain ⟨x13, ex13⟩ : ∃ y : Int32, y = (x7 + (1 : Int32)) := ⟨_, rfl⟩
        replace h := am_let_s ex13 h
        refine lv_iinc (pc := 94) (v := x13) (lv' := [(4, .int x13), (3, .int x6), (0, .ref bg), (1, .ref bw), (2, .int x1)]) hx hb dL_thins_94 hl (k := 4) rfl (by rw [ex13]; rfl) (by decide) rfl (fun ls hl => ?_)
        refine lv_goto (pc := 97) (tgt := 51) hx hb dL_thins_97 (by decide) ?_
        exact ihrec9 _ _ _ h ls (lv_sub hl [2, 3, 4, 1, 0] rfl) H locs hP hD hS
      replace h := am_f cc h
      refine lv_aload_n (pc := 85) hx hb dL_thins_85 rfl (lv_at hl 1 rfl) ?_
      refine lv_iload (pc := 86) hx hb dL_thins_86 (lv_at hl 4 rfl) ?_
      obtain ⟨hi, h⟩ := am_in_s h
      refine va_iald (pc := 88) hx hb hK.1 hP 1 0 rfl rfl hi dL_thins_88 ?_
      refine lv_goto (pc := 89) (tgt := 93) hx hb dL_thins_89 (by decide) ?_
      refine lv_topi (fun x14 ex14 => ?_)
      replace h := am_let_s ex14 h
      refine lv_istore_n (lv' := [(3, .int x14), (0, .ref bg), (1, .ref bw), (2, .int x1), (4, .int x7)]) (pc := 93) hx hb dL_thins_93 rfl hl (by decide) rfl (fun ls hl => ?_)
      obtain ⟨x15, ex15⟩ : ∃ y : Int32, y = (x7 + (1 : Int32)) := ⟨_, rfl⟩
      replace h := am_let_s ex15 h
      refine lv_iinc (pc := 94) (v := x15) (lv' := [(4, .int x15), (3, .int x14), (0, .ref bg), (1, .ref bw), (2, .int x1)]) hx hb dL_thins_94 hl (k := 4) rfl (by rw [ex15]; rfl) (by decide) rfl (fun ls hl => ?_)
      refine lv_goto (pc := 97) (tgt := 51) hx hb dL_thins_97 (by decide) ?_
      exact ihrec9 _ _ _ h ls (lv_sub hl [2, 3, 4, 1, 0] rfl) H locs hP hD hS
    refine lv_if_ne (pc := 63) (tgt := 70) hx hb dL_thins_63 (by decide) (fun cc => ?_) (fun cc => ?_)
    · replace h := am_f cc h
      refine lv_aload_n (pc := 70) hx hb dL_thins_70 rfl (lv_at hl 1 rfl) ?_
      refine lv_iload (pc := 71) hx hb dL_thins_71 (lv_at hl 4 rfl) ?_
      obtain ⟨hi, h⟩ := am_in_s h
      refine va_iald (pc := 73) hx hb hK.1 hP 1 0 rfl rfl hi dL_thins_73 ?_
      refine lv_iload_n (pc := 74) hx hb dL_thins_74 rfl (lv_at hl 2 rfl) ?_
      obtain ⟨hz, h⟩ := am_nz_s h
      refine lv_idiv (pc := 75) hx hb dL_thins_75 hz ?_
      exact hJ11 _ h ls (lv_sub hl [0, 1, 2, 3, 4] rfl)
    replace h := am_t cc h
    refine lv_iconst (v := 0) (pc := 66) hx hb dL_thins_66 (by decide) ?_
    refine lv_goto (pc := 67) (tgt := 76) hx hb dL_thins_67 (by decide) ?_
    exact hJ11 _ h ls (lv_sub hl [0, 1, 2, 3, 4] rfl)
  refine am_loop2_s (fun (x16 : Int32) (x17 : Int32) => ∀ (ls : Array Slot), lv_has ls 7 [(0, .ref bg), (1, .ref bw), (2, .int x16), (3, .int (0 : Int32)), (4, .int x17)] → W p l e rmL_thins s m args below meth c s.heap [] 0 0 Q (F0 m 7 ls [])) (fun rec18 ihrec18 x16 x17 h ls hl => ?_) _ _ _ h ls (lv_sub hl [3, 4, 2, 1, 0] rfl)
  unfold F_L_thins_B7 at h
  refine lv_iload (pc := 7) hx hb dL_thins_7 (lv_at hl 4 rfl) ?_
  refine lv_aload_n (pc := 9) hx hb dL_thins_9 rfl (lv_at hl 0 rfl) ?_
  refine lv_iconst (v := 0) (pc := 10) hx hb dL_thins_10 (by decide) ?_
  refine va_iald (pc := 11) hx hb hK.1 hP 0 0 rfl rfl (vp_in_nI (n := 0) (N := 8) (by decide) (by decide)) dL_thins_11 ?_
  refine lv_icmp_ge (pc := 12) (tgt := 48) hx hb dL_thins_12 (by decide) (fun cc => ?_) (fun cc => ?_)
  · replace h := am_t cc h
    exact hK2 _ h ls (lv_sub hl [0, 1, 2, 3] rfl)
  replace h := am_f cc h
  refine lv_aload_n (pc := 15) hx hb dL_thins_15 rfl (lv_at hl 1 rfl) ?_
  refine lv_iload (pc := 16) hx hb dL_thins_16 (lv_at hl 4 rfl) ?_
  obtain ⟨hi, h⟩ := am_in_s h
  refine va_iald (pc := 18) hx hb hK.1 hP 1 0 rfl rfl hi dL_thins_18 ?_
  refine lv_topi (fun x19 ex19 => ?_)
  replace h := am_let_s ex19 h
  refine lv_istore (lv' := [(5, .int x19), (0, .ref bg), (1, .ref bw), (2, .int x16), (3, .int (0 : Int32)), (4, .int x17)]) (pc := 19) hx hb dL_thins_19 hl (by decide) rfl (fun ls hl => ?_)
  refine am_join1_s (fun (x20 : Int32) => ∀ (ls : Array Slot), lv_has ls 7 [(0, .ref bg), (1, .ref bw), (2, .int x20), (3, .int (0 : Int32)), (4, .int x17)] → W p l e rmL_thins s m args below meth c s.heap [] 0 0 Q (F0 m 42 ls [])) h (fun x20 h ls hl => ?_) (fun K21 hK21 h => ?_)
  · obtain ⟨x22, ex22⟩ : ∃ y : Int32, y = (x17 + (1 : Int32)) := ⟨_, rfl⟩
    replace h := am_let_s ex22 h
    refine lv_iinc (pc := 42) (v := x22) (lv' := [(4, .int x22), (0, .ref bg), (1, .ref bw), (2, .int x20), (3, .int (0 : Int32))]) hx hb dL_thins_42 hl (k := 4) rfl (by rw [ex22]; rfl) (by decide) rfl (fun ls hl => ?_)
    refine lv_goto (pc := 45) (tgt := 7) hx hb dL_thins_45 (by decide) ?_
    exact ihrec18 _ _ h ls (lv_sub hl [1, 2, 3, 4, 0] rfl)
  refine am_loop2_s (fun (x23 : Int32) (x24 : Int32) => ∀ (ls : Array Slot), lv_has ls 7 [(0, .ref bg), (1, .ref bw), (2, .int x23), (3, .int (0 : Int32)), (4, .int x17), (5, .int x24)] → W p l e rmL_thins s m args below meth c s.heap [] 0 0 Q (F0 m 21 ls [])) (fun rec25 ihrec25 x23 x24 h ls hl => ?_) _ _ _ h ls (lv_sub hl [1, 2, 3, 4, 5, 0] rfl)
  unfold F_L_thins_B21 at h
  refine lv_iload (pc := 21) hx hb dL_thins_21 (lv_at hl 5 rfl) ?_
  refine lv_if_le (pc := 23) (tgt := 42) hx hb dL_thins_23 (by decide) (fun cc => ?_) (fun cc => ?_)
  · replace h := am_t cc h
    exact hK21 _ h ls (lv_sub hl [0, 1, 2, 3, 4] rfl)
  replace h := am_f cc h
  refine lv_iload_n (pc := 26) hx hb dL_thins_26 rfl (lv_at hl 2 rfl) ?_
  refine lv_iload (pc := 27) hx hb dL_thins_27 (lv_at hl 5 rfl) ?_
  obtain ⟨hz, h⟩ := am_nz_s h
  refine lv_irem (pc := 29) hx hb dL_thins_29 hz ?_
  refine lv_topi (fun x26 ex26 => ?_)
  replace h := am_let_s ex26 h
  refine lv_istore (lv' := [(6, .int x26), (0, .ref bg), (1, .ref bw), (2, .int x23), (3, .int (0 : Int32)), (4, .int x17), (5, .int x24)]) (pc := 30) hx hb dL_thins_30 hl (by decide) rfl (fun ls hl => ?_)
  refine lv_iload (pc := 32) hx hb dL_thins_32 (lv_at hl 6 rfl) ?_
  refine lv_istore_n (lv' := [(2, .int x24), (6, .int x26), (0, .ref bg), (1, .ref bw), (3, .int (0 : Int32)), (4, .int x17), (5, .int x24)]) (pc := 34) hx hb dL_thins_34 rfl hl (by decide) rfl (fun ls hl => ?_)
  refine lv_iload (pc := 35) hx hb dL_thins_35 (lv_at hl 1 rfl) ?_
  refine lv_istore (lv' := [(5, .int x26), (2, .int x24), (6, .int x26), (0, .ref bg), (1, .ref bw), (3, .int (0 : Int32)), (4, .int x17)]) (pc := 37) hx hb dL_thins_37 hl (by decide) rfl (fun ls hl => ?_)
  refine lv_goto (pc := 39) (tgt := 21) hx hb dL_thins_39 (by decide) ?_
  exact ihrec25 _ _ h ls (lv_sub hl [3, 4, 1, 5, 6, 0] rfl)
theorem hdL_choose : yL_choose.cls ≠ "java/lang/invoke/MethodHandle" ∧ yL_choose.cls ≠ "java/lang/invoke/VarHandle" ∧ (parseMethodDescriptor yL_choose.desc).map (fun d => d.parameters.length) = some 4 := by decide +kernel
abbrev rmL_choose : Room := { frames := 1, cells := 0, slots := 0, locals := 23 }
set_option maxHeartbeats 20000000 in
set_option maxRecDepth 100000 in
theorem c_L_choose (l : Launch) (D : va_G) (cI cJ : ClassId) (bg : Nat) (bw : Nat) (ba : Nat) (yg : Nat → Int32) (yw : Nat → Int32) (ya : Nat → Int32) (p2 : Int32) (zyg : Nat → Int32) (zya : Nat → Int32) (hF : F_L_choose yg yw ya p2 = some (zyg, zya)) (sz : Nat) : Met l yL_choose (wz yL_choose cL_choose 17 none) rmL_choose (kPw D cI cJ [(bg, .inl (cI, 8, .inl yg)), (bw, .inl (cI, 12, .inl yw)), (ba, .inl (cI, 12, .inl ya))] sz [.ref bg, .ref bw, .int p2, .ref ba]) (kQv D [(bg, .inl (cI, 8, .inl zyg)), (bw, .inl (cI, 12, .inl yw)), (ba, .inl (cI, 12, .inl zya))] (va_A [(bg, .inl (cI, 8, .inl yg)), (bw, .inl (cI, 12, .inl yw)), (ba, .inl (cI, 12, .inl ya))] sz)) 0 0 (va_A [(bg, .inl (cI, 8, .inl yg)), (bw, .inl (cI, 12, .inl yw)), (ba, .inl (cI, 12, .inl ya))] sz) := by
  refine kM_wv cL_choose 17 (by decide +kernel) rfl rfl (Nat.le_of_ble_eq_true rfl) ⟨rfl, rfl⟩ ?_
  intro p e s m args below meth c Q A ls hx hb hml hown hts hP hK hD hA hS hl hret
  have hk435 := hts _ (List.mem_cons_of_mem _ wl435)
  replace hl : lv_has ls 17 [(0, .ref bg), (1, .ref bw), (2, .int p2), (3, .ref ba)] := hl
  have h := hF
  unfold F_L_choose at h
  refine lv_aload_n (pc := 0) hx hb dL_choose_0 rfl (lv_at hl 0 rfl) ?_
  refine lv_iconst (v := 0) (pc := 1) hx hb dL_choose_1 (by decide) ?_
  refine va_iald (pc := 2) hx hb hK.1 hP 0 0 rfl rfl (vp_in_nI (n := 0) (N := 8) (by decide) (by decide)) dL_choose_2 ?_
  refine lv_topi (fun x1 ex1 => ?_)
  replace h := am_let_s ex1 h
  refine lv_istore (lv' := [(4, .int x1), (0, .ref bg), (1, .ref bw), (2, .int p2), (3, .ref ba)]) (pc := 3) hx hb dL_choose_3 hl (by decide) rfl (fun ls hl => ?_)
  refine lv_aload_n (pc := 5) hx hb dL_choose_5 rfl (lv_at hl 1 rfl) ?_
  refine lv_aload_n (pc := 6) hx hb dL_choose_6 rfl (lv_at hl 2 rfl) ?_
  obtain ⟨r2, hc2, h⟩ := am_bind_s h
  refine kc_Si (pc := 7) ⟨hx, hb, hml, hown, hts⟩ hP hK [.ref bg, .ref bw] (c_L_all l D cI cJ bg bw yg yw r2 hc2) [0, 1] rfl (cwS 2 hts (gzS wl129 wl130 wl118 wl131) rfl rfl rfl ⟨rfl, hdL_all⟩ ⟨Nat.le_of_ble_eq_true rfl, Nat.le_of_ble_eq_true rfl⟩) [] rfl hl.1 rfl (Nat.le_of_ble_eq_true rfl) dL_choose_7 ⟨Nat.zero_le _, Nat.zero_le _⟩ ?_
  refine lv_i2l (pc := 10) hx hb dL_choose_10 rfl ?_
  refine lv_topl (fun x3 ex3 => ?_)
  replace h := am_let_s ex3 h
  refine lv_lstore (lv' := [(5, .long x3), (4, .int x1), (0, .ref bg), (1, .ref bw), (2, .int p2), (3, .ref ba)]) (pc := 11) hx hb dL_choose_11 hl (by decide) rfl (fun ls hl => ?_)
  refine lv_iconst (v := 0) (pc := 13) hx hb dL_choose_13 (by decide) ?_
  refine lv_istore (lv' := [(7, .int (0 : Int32)), (5, .long x3), (4, .int x1), (0, .ref bg), (1, .ref bw), (2, .int p2), (3, .ref ba)]) (pc := 14) hx hb dL_choose_14 hl (by decide) rfl (fun ls hl => ?_)
  refine lv_iload_n (pc := 16) hx hb dL_choose_16 rfl (lv_at hl 5 rfl) ?_
  refine lv_iconst (v := 2) (pc := 17) hx hb dL_choose_17 (by decide) ?_
  refine lv_icmp_ge (pc := 18) (tgt := 137) hx hb dL_choose_18 (by decide) (fun cc => ?_) (fun cc => ?_)
  · replace h := am_t cc h
    refine lv_iconst (v := 0) (pc := 137) hx hb dL_choose_137 (by decide) ?_
    refine lv_istore (lv' := [(8, .int (0 : Int32)), (7, .int (0 : Int32)), (5, .long x3), (4, .int x1), (0, .ref bg), (1, .ref bw), (2, .int p2), (3, .ref ba)]) (pc := 138) hx hb dL_choose_138 hl (by decide) rfl (fun ls hl => ?_)
    refine lv_iconst (v := 0) (pc := 140) hx hb dL_choose_140 (by decide) ?_
    refine lv_istore (lv' := [(9, .int (0 : Int32)), (8, .int (0 : Int32)), (7, .int (0 : Int32)), (5, .long x3), (4, .int x1), (0, .ref bg), (1, .ref bw), (2, .int p2), (3, .ref ba)]) (pc := 141) hx hb dL_choose_141 hl (by decide) rfl (fun ls hl => ?_)
    refine am_join1_s (fun (x4 : Int32) => ∀ (ls : Array Slot), lv_has ls 17 [(1, .ref bw), (3, .ref ba), (4, .int x1), (5, .long x3), (7, .int (0 : Int32)), (8, .int x4)] → W p l e rmL_choose s m args below meth c s.heap [] 0 0 Q (F0 m 174 ls [])) h (fun x4 h ls hl => ?_) (fun K5 hK5 h => ?_)
    · refine lv_iconst (v := 0) (pc := 174) hx hb dL_choose_174 (by decide) ?_
      refine lv_istore (lv' := [(9, .int (0 : Int32)), (1, .ref bw), (3, .ref ba), (4, .int x1), (5, .long x3), (7, .int (0 : Int32)), (8, .int x4)]) (pc := 175) hx hb dL_choose_175 hl (by decide) rfl (fun ls hl => ?_)
      refine am_join1_s (fun (f6 : Nat → Int32) => ∀ (ls : Array Slot), lv_has ls 17 [] → ∀ (H : Heap) (locs : List Loc), va_P D vwCl [(bg, .inl (cI, 8, .inl yg)), (bw, .inl (cI, 12, .inl yw)), (ba, .inl (cI, 12, .inl f6))] H → va_D A [(bg, .inl (cI, 8, .inl yg)), (bw, .inl (cI, 12, .inl yw)), (ba, .inl (cI, 12, .inl f6))] → va_S A s.heap H locs → W p l e rmL_choose s m args below meth c H locs 0 0 Q (F0 m 330 ls [])) h (fun f6 h ls hl H locs hP hD hS => ?_) (fun K7 hK7 h => ?_)
      · obtain ⟨e1, e2⟩ := am_ret2 h
        exact hret _ _ _ _ dL_choose_330 (by rw [← e1, ← e2]; exact hP) hS
      refine am_loop3_s (fun (x8 : Int32) (x9 : Int32) (f10 : Nat → Int32) => ∀ (ls : Array Slot), lv_has ls 17 [(1, .ref bw), (3, .ref ba), (4, .int x1), (5, .long x3), (7, .int x8), (8, .int x4), (9, .int x9)] → ∀ (H : Heap) (locs : List Loc), va_P D vwCl [(bg, .inl (cI, 8, .inl yg)), (bw, .inl (cI, 12, .inl yw)), (ba, .inl (cI, 12, .inl f10))] H → va_D A [(bg, .inl (cI, 8, .inl yg)), (bw, .inl (cI, 12, .inl yw)), (ba, .inl (cI, 12, .inl f10))] → va_S A s.heap H locs → W p l e rmL_choose s m args below meth c H locs 0 0 Q (F0 m 177 ls [])) (fun rec11 ihrec11 x8 x9 f10 h ls hl H locs hP hD hS => ?_) _ _ _ _ h ls (lv_sub hl [1, 2, 3, 4, 5, 6, 0] rfl) s.heap [] hP hD hS
      unfold F_L_choose_B177 at h
      refine lv_iload (pc := 177) hx hb dL_choose_177 (lv_at hl 6 rfl) ?_
      refine lv_iload (pc := 179) hx hb dL_choose_179 (lv_at hl 2 rfl) ?_
      refine lv_icmp_ge (pc := 181) (tgt := 330) hx hb dL_choose_181 (by decide) (fun cc => ?_) (fun cc => ?_)
      · replace h := am_t cc h
        exact hK7 _ h ls (lv_sub hl [] rfl) H locs hP hD hS
      replace h := am_f cc h
      refine lv_iload (pc := 184) hx hb dL_choose_184 (lv_at hl 2 rfl) ?_
      refine lv_i2l (pc := 186) hx hb dL_choose_186 rfl ?_
      refine lv_aload_n (pc := 187) hx hb dL_choose_187 rfl (lv_at hl 0 rfl) ?_
      refine lv_iload (pc := 188) hx hb dL_choose_188 (lv_at hl 6 rfl) ?_
      obtain ⟨hi, h⟩ := am_in_s h
      refine va_iald (pc := 190) hx hb hK.1 hP 1 0 rfl rfl hi dL_choose_190 ?_
      refine lv_i2l (pc := 191) hx hb dL_choose_191 rfl ?_
      refine lv_lmul (pc := 192) hx hb dL_choose_192 ?_
      refine lv_lload (pc := 193) hx hb dL_choose_193 (lv_at hl 3 rfl) ?_
      obtain ⟨hz, h⟩ := am_nzl_s h
      refine lv_ldiv (pc := 195) hx hb dL_choose_195 hz ?_
      refine lv_l2i (pc := 196) hx hb dL_choose_196 rfl ?_
      refine lv_topi (fun x12 ex12 => ?_)
      replace h := am_let_s ex12 h
      refine lv_istore (lv' := [(10, .int x12), (1, .ref bw), (3, .ref ba), (4, .int x1), (5, .long x3), (7, .int x8), (8, .int x4), (9, .int x9)]) (pc := 197) hx hb dL_choose_197 hl (by decide) rfl (fun ls hl => ?_)
      refine lv_iload (pc := 199) hx hb dL_choose_199 (lv_at hl 3 rfl) ?_
      refine lv_i2l (pc := 201) hx hb dL_choose_201 rfl ?_
      refine lv_aload_n (pc := 202) hx hb dL_choose_202 rfl (lv_at hl 1 rfl) ?_
      refine lv_iload (pc := 203) hx hb dL_choose_203 (lv_at hl 7 rfl) ?_
      obtain ⟨hi, h⟩ := am_in_s h
      refine va_iald (pc := 205) hx hb hK.1 hP 1 0 rfl rfl hi dL_choose_205 ?_
      refine lv_i2l (pc := 206) hx hb dL_choose_206 rfl ?_
      refine lv_lmul (pc := 207) hx hb dL_choose_207 ?_
      refine lv_lload (pc := 208) hx hb dL_choose_208 (lv_at hl 4 rfl) ?_
      obtain ⟨hz, h⟩ := am_nzl_s h
      refine lv_lrem (pc := 210) hx hb dL_choose_210 hz ?_
      refine lv_topl (fun x13 ex13 => ?_)
      replace h := am_let_s ex13 h
      refine lv_lstore (lv' := [(11, .long x13), (10, .int x12), (1, .ref bw), (3, .ref ba), (4, .int x1), (5, .long x3), (7, .int x8), (8, .int x4), (9, .int x9)]) (pc := 211) hx hb dL_choose_211 hl (by decide) rfl (fun ls hl => ?_)
      refine lv_iconst (v := 0) (pc := 213) hx hb dL_choose_213 (by decide) ?_
      refine lv_istore (lv' := [(13, .int (0 : Int32)), (11, .long x13), (10, .int x12), (1, .ref bw), (3, .ref ba), (4, .int x1), (5, .long x3), (7, .int x8), (8, .int x4), (9, .int x9)]) (pc := 214) hx hb dL_choose_214 hl (by decide) rfl (fun ls hl => ?_)
      refine lv_iconst (v := 0) (pc := 216) hx hb dL_choose_216 (by decide) ?_
      refine lv_istore (lv' := [(14, .int (0 : Int32)), (13, .int (0 : Int32)), (11, .long x13), (10, .int x12), (1, .ref bw), (3, .ref ba), (4, .int x1), (5, .long x3), (7, .int x8), (8, .int x4), (9, .int x9)]) (pc := 217) hx hb dL_choose_217 hl (by decide) rfl (fun ls hl => ?_)
      refine am_join1_s (fun (x14 : Int32) => ∀ (ls : Array Slot), lv_has ls 17 [(1, .ref bw), (3, .ref ba), (4, .int x1), (5, .long x3), (7, .int x8), (8, .int x4), (9, .int x9), (10, .int x12), (13, .int x14)] → W p l e rmL_choose s m args below meth c H locs 0 0 Q (F0 m 279 ls [])) h (fun x14 h ls hl => ?_) (fun K15 hK15 h => ?_)
      · refine lv_iload (pc := 279) hx hb dL_choose_279 (lv_at hl 7 rfl) ?_
        refine lv_iload (pc := 281) hx hb dL_choose_281 (lv_at hl 8 rfl) ?_
        refine lv_iload (pc := 283) hx hb dL_choose_283 (lv_at hl 2 rfl) ?_
        refine lv_iload (pc := 285) hx hb dL_choose_285 (lv_at hl 5 rfl) ?_
        refine lv_isub (pc := 287) hx hb dL_choose_287 ?_
        refine am_join1_s (fun (j16 : Int32) => ∀ (ls : Array Slot), lv_has ls 17 [(1, .ref bw), (3, .ref ba), (4, .int x1), (5, .long x3), (7, .int x8), (8, .int x4), (9, .int x9)] → W p l e rmL_choose s m args below meth c H locs 0 0 Q (F0 m 296 ls [.int j16, .int x12])) h (fun j16 h ls hl => ?_) (fun J17 hJ17 h => ?_)
        · refine lv_iadd (pc := 296) hx hb dL_choose_296 ?_
          refine lv_topi (fun x18 ex18 => ?_)
          replace h := am_let_s ex18 h
          refine lv_istore (lv' := [(10, .int x18), (1, .ref bw), (3, .ref ba), (4, .int x1), (5, .long x3), (7, .int x8), (8, .int x4), (9, .int x9)]) (pc := 297) hx hb dL_choose_297 hl (by decide) rfl (fun ls hl => ?_)
          refine lv_iconst (v := 0) (pc := 299) hx hb dL_choose_299 (by decide) ?_
          refine lv_istore (lv' := [(14, .int (0 : Int32)), (10, .int x18), (1, .ref bw), (3, .ref ba), (4, .int x1), (5, .long x3), (7, .int x8), (8, .int x4), (9, .int x9)]) (pc := 300) hx hb dL_choose_300 hl (by decide) rfl (fun ls hl => ?_)
          refine am_join2_s (fun (x19 : Int32) (f20 : Nat → Int32) => ∀ (ls : Array Slot), lv_has ls 17 [(1, .ref bw), (3, .ref ba), (4, .int x1), (5, .long x3), (7, .int x19), (8, .int x4), (9, .int x9)] → ∀ (H : Heap) (locs : List Loc), va_P D vwCl [(bg, .inl (cI, 8, .inl yg)), (bw, .inl (cI, 12, .inl yw)), (ba, .inl (cI, 12, .inl f20))] H → va_D A [(bg, .inl (cI, 8, .inl yg)), (bw, .inl (cI, 12, .inl yw)), (ba, .inl (cI, 12, .inl f20))] → va_S A s.heap H locs → W p l e rmL_choose s m args below meth c H locs 0 0 Q (F0 m 324 ls [])) h (fun x19 f20 h ls hl H locs hP hD hS => ?_) (fun K21 hK21 h => ?_)
          · obtain ⟨x22, ex22⟩ : ∃ y : Int32, y = (x9 + (1 : Int32)) := ⟨_, rfl⟩
            replace h := am_let_s ex22 h
            refine lv_iinc (pc := 324) (v := x22) (lv' := [(9, .int x22), (1, .ref bw), (3, .ref ba), (4, .int x1), (5, .long x3), (7, .int x19), (8, .int x4)]) hx hb dL_choose_324 hl (k := 6) rfl (by rw [ex22]; rfl) (by decide) rfl (fun ls hl => ?_)
            refine lv_goto (pc := 327) (tgt := 177) hx hb dL_choose_327 (by decide) ?_
            exact ihrec11 _ _ _ h ls (lv_sub hl [1, 2, 3, 4, 5, 6, 0] rfl) H locs hP hD hS
          refine am_loop3_s (fun (x23 : Int32) (x24 : Int32) (f25 : Nat → Int32) => ∀ (ls : Array Slot), lv_has ls 17 [(1, .ref bw), (3, .ref ba), (4, .int x1), (5, .long x3), (7, .int x23), (8, .int x4), (9, .int x9), (10, .int x18), (14, .int x24)] → ∀ (H : Heap) (locs : List Loc), va_P D vwCl [(bg, .inl (cI, 8, .inl yg)), (bw, .inl (cI, 12, .inl yw)), (ba, .inl (cI, 12, .inl f25))] H → va_D A [(bg, .inl (cI, 8, .inl yg)), (bw, .inl (cI, 12, .inl yw)), (ba, .inl (cI, 12, .inl f25))] → va_S A s.heap H locs → W p l e rmL_choose s m args below meth c H locs 0 0 Q (F0 m 302 ls [])) (fun rec26 ihrec26 x23 x24 f25 h ls hl H locs hP hD hS => ?_) _ _ _ _ h ls (lv_sub hl [2, 3, 4, 5, 6, 7, 8, 1, 0] rfl) H locs hP hD hS
          unfold F_L_choose_B302 at h
          refine lv_iload (pc := 302) hx hb dL_choose_302 (lv_at hl 8 rfl) ?_
          refine lv_iload (pc := 304) hx hb dL_choose_304 (lv_at hl 7 rfl) ?_
          refine lv_icmp_ge (pc := 306) (tgt := 324) hx hb dL_choose_306 (by decide) (fun cc => ?_) (fun cc => ?_)
          · replace h := am_t cc h
            exact hK21 _ _ h ls (lv_sub hl [0, 1, 2, 3, 4, 5, 6] rfl) H locs hP hD hS
          replace h := am_f cc h
          refine lv_aload_n (pc := 309) hx hb dL_choose_309 rfl (lv_at hl 1 rfl) ?_
          refine lv_iload (pc := 310) hx hb dL_choose_310 (lv_at hl 4 rfl) ?_
          refine lv_iload (pc := 312) hx hb dL_choose_312 (lv_at hl 6 rfl) ?_
          obtain ⟨hi, h⟩ := am_in_s h
          obtain ⟨f27, ef27⟩ : ∃ y : Nat → Int32, y = (upd f25 x23.toNatClampNeg x9) := ⟨_, rfl⟩
          replace h := am_let_s ef27 h
          refine va_iast (pc := 314) hx hb hK.1 hP hD hS 2 0 rfl rfl hi dL_choose_314 (fun H locs hP hD hS => ?_)
          rw [← ef27] at hP hD
          replace hP : va_P D vwCl [(bg, .inl (cI, 8, .inl yg)), (bw, .inl (cI, 12, .inl yw)), (ba, .inl (cI, 12, .inl f27))] H := hP
          replace hD : va_D A [(bg, .inl (cI, 8, .inl yg)), (bw, .inl (cI, 12, .inl yw)), (ba, .inl (cI, 12, .inl f27))] := hD
          obtain ⟨x28, ex28⟩ : ∃ y : Int32, y = (x23 + (1 : Int32)) := ⟨_, rfl⟩
          replace h := am_let_s ex28 h
          refine lv_iinc (pc := 315) (v := x28) (lv' := [(7, .int x28), (1, .ref bw), (3, .ref ba), (4, .int x1), (5, .long x3), (8, .int x4), (9, .int x9), (10, .int x18), (14, .int x24)]) hx hb dL_choose_315 hl (k := 4) rfl (by rw [ex28]; rfl) (by decide) rfl (fun ls hl => ?_)
          obtain ⟨x29, ex29⟩ : ∃ y : Int32, y = (x24 + (1 : Int32)) := ⟨_, rfl⟩
          replace h := am_let_s ex29 h
          refine lv_iinc (pc := 318) (v := x29) (lv' := [(14, .int x29), (7, .int x28), (1, .ref bw), (3, .ref ba), (4, .int x1), (5, .long x3), (8, .int x4), (9, .int x9), (10, .int x18)]) hx hb dL_choose_318 hl (k := 8) rfl (by rw [ex29]; rfl) (by decide) rfl (fun ls hl => ?_)
          refine lv_goto (pc := 321) (tgt := 302) hx hb dL_choose_321 (by decide) ?_
          exact ihrec26 _ _ _ h ls (lv_sub hl [2, 3, 4, 5, 1, 6, 7, 8, 0] rfl) H locs hP hD hS
        refine lv_icmp_ge (pc := 288) (tgt := 295) hx hb dL_choose_288 (by decide) (fun cc => ?_) (fun cc => ?_)
        · replace h := am_t cc h
          refine lv_iconst (v := 0) (pc := 295) hx hb dL_choose_295 (by decide) ?_
          exact hJ17 _ h ls (lv_sub hl [0, 1, 2, 3, 4, 5, 6] rfl)
        replace h := am_f cc h
        refine lv_iconst (v := 1) (pc := 291) hx hb dL_choose_291 (by decide) ?_
        refine lv_goto (pc := 292) (tgt := 296) hx hb dL_choose_292 (by decide) ?_
        exact hJ17 _ h ls (lv_sub hl [0, 1, 2, 3, 4, 5, 6] rfl)
      refine am_loop2_s (fun (x30 : Int32) (x31 : Int32) => ∀ (ls : Array Slot), lv_has ls 17 [(1, .ref bw), (3, .ref ba), (4, .int x1), (5, .long x3), (7, .int x8), (8, .int x4), (9, .int x9), (10, .int x12), (11, .long x13), (13, .int x30), (14, .int x31)] → W p l e rmL_choose s m args below meth c H locs 0 0 Q (F0 m 219 ls [])) (fun rec32 ihrec32 x30 x31 h ls hl => ?_) _ _ _ h ls (lv_sub hl [4, 5, 6, 7, 8, 9, 10, 3, 2, 1, 0] rfl)
      unfold F_L_choose_B219 at h
      refine lv_iload (pc := 219) hx hb dL_choose_219 (lv_at hl 10 rfl) ?_
      refine lv_iload (pc := 221) hx hb dL_choose_221 (lv_at hl 2 rfl) ?_
      refine lv_icmp_ge (pc := 223) (tgt := 279) hx hb dL_choose_223 (by decide) (fun cc => ?_) (fun cc => ?_)
      · replace h := am_t cc h
        exact hK15 _ h ls (lv_sub hl [0, 1, 2, 3, 4, 5, 6, 7, 9] rfl)
      replace h := am_f cc h
      refine lv_iload (pc := 226) hx hb dL_choose_226 (lv_at hl 2 rfl) ?_
      refine lv_i2l (pc := 228) hx hb dL_choose_228 rfl ?_
      refine lv_aload_n (pc := 229) hx hb dL_choose_229 rfl (lv_at hl 0 rfl) ?_
      refine lv_iload (pc := 230) hx hb dL_choose_230 (lv_at hl 10 rfl) ?_
      obtain ⟨hi, h⟩ := am_in_s h
      refine va_iald (pc := 232) hx hb hK.1 hP 1 0 rfl rfl hi dL_choose_232 ?_
      refine lv_i2l (pc := 233) hx hb dL_choose_233 rfl ?_
      refine lv_lmul (pc := 234) hx hb dL_choose_234 ?_
      refine lv_lload (pc := 235) hx hb dL_choose_235 (lv_at hl 3 rfl) ?_
      obtain ⟨hz, h⟩ := am_nzl_s h
      refine lv_lrem (pc := 237) hx hb dL_choose_237 hz ?_
      refine lv_topl (fun x33 ex33 => ?_)
      replace h := am_let_s ex33 h
      refine lv_lstore (lv' := [(15, .long x33), (1, .ref bw), (3, .ref ba), (4, .int x1), (5, .long x3), (7, .int x8), (8, .int x4), (9, .int x9), (10, .int x12), (11, .long x13), (13, .int x30), (14, .int x31)]) (pc := 238) hx hb dL_choose_238 hl (by decide) rfl (fun ls hl => ?_)
      refine lv_iload (pc := 240) hx hb dL_choose_240 (lv_at hl 10 rfl) ?_
      refine lv_lload (pc := 242) hx hb dL_choose_242 (lv_at hl 0 rfl) ?_
      refine lv_lload (pc := 244) hx hb dL_choose_244 (lv_at hl 9 rfl) ?_
      refine W.lcmp (pc := 246) hx hb dL_choose_246 ?_
      refine lv_if_gt (pc := 247) (tgt := 265) hx hb dL_choose_247 (by decide) (fun cc => ?_) (fun cc => ?_)
      · replace h := am_t cc h
        refine lv_iconst (v := 1) (pc := 265) hx hb dL_choose_265 (by decide) ?_
        refine lv_goto (pc := 266) (tgt := 270) hx hb dL_choose_266 (by decide) ?_
        refine lv_iadd (pc := 270) hx hb dL_choose_270 ?_
        refine lv_topi (fun x34 ex34 => ?_)
        replace h := am_let_s ex34 h
        refine lv_istore (lv' := [(13, .int x34), (15, .long x33), (1, .ref bw), (3, .ref ba), (4, .int x1), (5, .long x3), (7, .int x8), (8, .int x4), (9, .int x9), (10, .int x12), (11, .long x13), (14, .int x31)]) (pc := 271) hx hb dL_choose_271 hl (by decide) rfl (fun ls hl => ?_)
        obtain ⟨x35, ex35⟩ : ∃ y : Int32, y = (x31 + (1 : Int32)) := ⟨_, rfl⟩
        replace h := am_let_s ex35 h
        refine lv_iinc (pc := 273) (v := x35) (lv' := [(14, .int x35), (13, .int x34), (15, .long x33), (1, .ref bw), (3, .ref ba), (4, .int x1), (5, .long x3), (7, .int x8), (8, .int x4), (9, .int x9), (10, .int x12), (11, .long x13)]) hx hb dL_choose_273 hl (k := 11) rfl (by rw [ex35]; rfl) (by decide) rfl (fun ls hl => ?_)
        refine lv_goto (pc := 276) (tgt := 219) hx hb dL_choose_276 (by decide) ?_
        exact ihrec32 _ _ h ls (lv_sub hl [3, 4, 5, 6, 7, 8, 9, 10, 11, 1, 0] rfl)
      replace h := am_f cc h
      refine lv_lload (pc := 250) hx hb dL_choose_250 (lv_at hl 0 rfl) ?_
      refine lv_lload (pc := 252) hx hb dL_choose_252 (lv_at hl 9 rfl) ?_
      refine W.lcmp (pc := 254) hx hb dL_choose_254 ?_
      refine lv_if_ne (pc := 255) (tgt := 269) hx hb dL_choose_255 (by decide) (fun cc => ?_) (fun cc => ?_)
      · replace h := am_f cc h
        refine lv_iconst (v := 0) (pc := 269) hx hb dL_choose_269 (by decide) ?_
        refine lv_iadd (pc := 270) hx hb dL_choose_270 ?_
        refine lv_topi (fun x36 ex36 => ?_)
        replace h := am_let_s ex36 h
        refine lv_istore (lv' := [(13, .int x36), (15, .long x33), (1, .ref bw), (3, .ref ba), (4, .int x1), (5, .long x3), (7, .int x8), (8, .int x4), (9, .int x9), (10, .int x12), (11, .long x13), (14, .int x31)]) (pc := 271) hx hb dL_choose_271 hl (by decide) rfl (fun ls hl => ?_)
        obtain ⟨x37, ex37⟩ : ∃ y : Int32, y = (x31 + (1 : Int32)) := ⟨_, rfl⟩
        replace h := am_let_s ex37 h
        refine lv_iinc (pc := 273) (v := x37) (lv' := [(14, .int x37), (13, .int x36), (15, .long x33), (1, .ref bw), (3, .ref ba), (4, .int x1), (5, .long x3), (7, .int x8), (8, .int x4), (9, .int x9), (10, .int x12), (11, .long x13)]) hx hb dL_choose_273 hl (k := 11) rfl (by rw [ex37]; rfl) (by decide) rfl (fun ls hl => ?_)
        refine lv_goto (pc := 276) (tgt := 219) hx hb dL_choose_276 (by decide) ?_
        exact ihrec32 _ _ h ls (lv_sub hl [3, 4, 5, 6, 7, 8, 9, 10, 11, 1, 0] rfl)
      replace h := am_t cc h
      refine lv_iload (pc := 258) hx hb dL_choose_258 (lv_at hl 11 rfl) ?_
      refine lv_iload (pc := 260) hx hb dL_choose_260 (lv_at hl 7 rfl) ?_
      refine lv_icmp_ge (pc := 262) (tgt := 269) hx hb dL_choose_262 (by decide) (fun cc => ?_) (fun cc => ?_)
      · replace h := am_t cc h
        refine lv_iconst (v := 0) (pc := 269) hx hb dL_choose_269 (by decide) ?_
        refine lv_iadd (pc := 270) hx hb dL_choose_270 ?_
        refine lv_topi (fun x38 ex38 => ?_)
        replace h := am_let_s ex38 h
        refine lv_istore (lv' := [(13, .int x38), (15, .long x33), (1, .ref bw), (3, .ref ba), (4, .int x1), (5, .long x3), (7, .int x8), (8, .int x4), (9, .int x9), (10, .int x12), (11, .long x13), (14, .int x31)]) (pc := 271) hx hb dL_choose_271 hl (by decide) rfl (fun ls hl => ?_)
        obtain ⟨x39, ex39⟩ : ∃ y : Int32, y = (x31 + (1 : Int32)) := ⟨_, rfl⟩
        replace h := am_let_s ex39 h
        refine lv_iinc (pc := 273) (v := x39) (lv' := [(14, .int x39), (13, .int x38), (15, .long x33), (1, .ref bw), (3, .ref ba), (4, .int x1), (5, .long x3), (7, .int x8), (8, .int x4), (9, .int x9), (10, .int x12), (11, .long x13)]) hx hb dL_choose_273 hl (k := 11) rfl (by rw [ex39]; rfl) (by decide) rfl (fun ls hl => ?_)
        refine lv_goto (pc := 276) (tgt := 219) hx hb dL_choose_276 (by decide) ?_
        exact ihrec32 _ _ h ls (lv_sub hl [3, 4, 5, 6, 7, 8, 9, 10, 11, 1, 0] rfl)
      replace h := am_f cc h
      refine lv_iconst (v := 1) (pc := 265) hx hb dL_choose_265 (by decide) ?_
      refine lv_goto (pc := 266) (tgt := 270) hx hb dL_choose_266 (by decide) ?_
      refine lv_iadd (pc := 270) hx hb dL_choose_270 ?_
      refine lv_topi (fun x40 ex40 => ?_)
      replace h := am_let_s ex40 h
      refine lv_istore (lv' := [(13, .int x40), (15, .long x33), (1, .ref bw), (3, .ref ba), (4, .int x1), (5, .long x3), (7, .int x8), (8, .int x4), (9, .int x9), (10, .int x12), (11, .long x13), (14, .int x31)]) (pc := 271) hx hb dL_choose_271 hl (by decide) rfl (fun ls hl => ?_)
      obtain ⟨x41, ex41⟩ : ∃ y : Int32, y = (x31 + (1 : Int32)) := ⟨_, rfl⟩
      replace h := am_let_s ex41 h
      refine lv_iinc (pc := 273) (v := x41) (lv' := [(14, .int x41), (13, .int x40), (15, .long x33), (1, .ref bw), (3, .ref ba), (4, .int x1), (5, .long x3), (7, .int x8), (8, .int x4), (9, .int x9), (10, .int x12), (11, .long x13)]) hx hb dL_choose_273 hl (k := 11) rfl (by rw [ex41]; rfl) (by decide) rfl (fun ls hl => ?_)
      refine lv_goto (pc := 276) (tgt := 219) hx hb dL_choose_276 (by decide) ?_
      exact ihrec32 _ _ h ls (lv_sub hl [3, 4, 5, 6, 7, 8, 9, 10, 11, 1, 0] rfl)
    refine am_loop2_s (fun (x42 : Int32) (x43 : Int32) => ∀ (ls : Array Slot), lv_has ls 17 [(1, .ref bw), (3, .ref ba), (4, .int x1), (5, .long x3), (7, .int (0 : Int32)), (8, .int x42), (9, .int x43)] → W p l e rmL_choose s m args below meth c s.heap [] 0 0 Q (F0 m 143 ls [])) (fun rec44 ihrec44 x42 x43 h ls hl => ?_) _ _ _ h ls (lv_sub hl [6, 8, 4, 3, 2, 1, 0] rfl)
    unfold F_L_choose_B143 at h
    refine lv_iload (pc := 143) hx hb dL_choose_143 (lv_at hl 6 rfl) ?_
    refine lv_iload (pc := 145) hx hb dL_choose_145 (lv_at hl 2 rfl) ?_
    refine lv_icmp_ge (pc := 147) (tgt := 174) hx hb dL_choose_147 (by decide) (fun cc => ?_) (fun cc => ?_)
    · replace h := am_t cc h
      exact hK5 _ h ls (lv_sub hl [0, 1, 2, 3, 4, 5] rfl)
    replace h := am_f cc h
    refine lv_iload (pc := 150) hx hb dL_choose_150 (lv_at hl 5 rfl) ?_
    refine lv_iload (pc := 152) hx hb dL_choose_152 (lv_at hl 2 rfl) ?_
    refine lv_i2l (pc := 154) hx hb dL_choose_154 rfl ?_
    refine lv_aload_n (pc := 155) hx hb dL_choose_155 rfl (lv_at hl 0 rfl) ?_
    refine lv_iload (pc := 156) hx hb dL_choose_156 (lv_at hl 6 rfl) ?_
    obtain ⟨hi, h⟩ := am_in_s h
    refine va_iald (pc := 158) hx hb hK.1 hP 1 0 rfl rfl hi dL_choose_158 ?_
    refine lv_i2l (pc := 159) hx hb dL_choose_159 rfl ?_
    refine lv_lmul (pc := 160) hx hb dL_choose_160 ?_
    refine lv_lload (pc := 161) hx hb dL_choose_161 (lv_at hl 3 rfl) ?_
    obtain ⟨hz, h⟩ := am_nzl_s h
    refine lv_ldiv (pc := 163) hx hb dL_choose_163 hz ?_
    refine lv_l2i (pc := 164) hx hb dL_choose_164 rfl ?_
    refine lv_iadd (pc := 165) hx hb dL_choose_165 ?_
    refine lv_topi (fun x45 ex45 => ?_)
    replace h := am_let_s ex45 h
    refine lv_istore (lv' := [(8, .int x45), (1, .ref bw), (3, .ref ba), (4, .int x1), (5, .long x3), (7, .int (0 : Int32)), (9, .int x43)]) (pc := 166) hx hb dL_choose_166 hl (by decide) rfl (fun ls hl => ?_)
    obtain ⟨x46, ex46⟩ : ∃ y : Int32, y = (x43 + (1 : Int32)) := ⟨_, rfl⟩
    replace h := am_let_s ex46 h
    refine lv_iinc (pc := 168) (v := x46) (lv' := [(9, .int x46), (8, .int x45), (1, .ref bw), (3, .ref ba), (4, .int x1), (5, .long x3), (7, .int (0 : Int32))]) hx hb dL_choose_168 hl (k := 6) rfl (by rw [ex46]; rfl) (by decide) rfl (fun ls hl => ?_)
    refine lv_goto (pc := 171) (tgt := 143) hx hb dL_choose_171 (by decide) ?_
    exact ihrec44 _ _ h ls (lv_sub hl [2, 3, 4, 5, 6, 1, 0] rfl)
  replace h := am_f cc h
  refine lv_iconst (v := 0) (pc := 21) hx hb dL_choose_21 (by decide) ?_
  refine lv_istore (lv' := [(8, .int (0 : Int32)), (7, .int (0 : Int32)), (5, .long x3), (4, .int x1), (0, .ref bg), (1, .ref bw), (2, .int p2), (3, .ref ba)]) (pc := 22) hx hb dL_choose_22 hl (by decide) rfl (fun ls hl => ?_)
  refine am_join2_s (fun (f47 : Nat → Int32) (f48 : Nat → Int32) => ∀ (ls : Array Slot), lv_has ls 17 [] → ∀ (H : Heap) (locs : List Loc), va_P D vwCl [(bg, .inl (cI, 8, .inl f47)), (bw, .inl (cI, 12, .inl yw)), (ba, .inl (cI, 12, .inl f48))] H → va_D A [(bg, .inl (cI, 8, .inl f47)), (bw, .inl (cI, 12, .inl yw)), (ba, .inl (cI, 12, .inl f48))] → va_S A s.heap H locs → W p l e rmL_choose s m args below meth c H locs 0 0 Q (F0 m 136 ls [])) h (fun f47 f48 h ls hl H locs hP hD hS => ?_) (fun K49 hK49 h => ?_)
  · obtain ⟨e1, e2⟩ := am_ret2 h
    exact hret _ _ _ _ dL_choose_136 (by rw [← e1, ← e2]; exact hP) hS
  refine am_loop3_s (fun (x50 : Int32) (f51 : Nat → Int32) (f52 : Nat → Int32) => ∀ (ls : Array Slot), lv_has ls 17 [(0, .ref bg), (1, .ref bw), (2, .int p2), (3, .ref ba), (4, .int x1), (5, .long x3), (8, .int x50)] → ∀ (H : Heap) (locs : List Loc), va_P D vwCl [(bg, .inl (cI, 8, .inl f51)), (bw, .inl (cI, 12, .inl yw)), (ba, .inl (cI, 12, .inl f52))] H → va_D A [(bg, .inl (cI, 8, .inl f51)), (bw, .inl (cI, 12, .inl yw)), (ba, .inl (cI, 12, .inl f52))] → va_S A s.heap H locs → W p l e rmL_choose s m args below meth c H locs 0 0 Q (F0 m 24 ls [])) (fun rec53 ihrec53 x50 f51 f52 h ls hl H locs hP hD hS => ?_) _ _ _ _ h ls (lv_sub hl [4, 5, 6, 7, 3, 2, 0] rfl) s.heap [] hP hD hS
  unfold F_L_choose_B24 at h
  refine lv_iload (pc := 24) hx hb dL_choose_24 (lv_at hl 6 rfl) ?_
  refine lv_iload (pc := 26) hx hb dL_choose_26 (lv_at hl 4 rfl) ?_
  refine lv_icmp_ge (pc := 28) (tgt := 136) hx hb dL_choose_28 (by decide) (fun cc => ?_) (fun cc => ?_)
  · replace h := am_t cc h
    exact hK49 _ _ h ls (lv_sub hl [] rfl) H locs hP hD hS
  replace h := am_f cc h
  refine lv_iload (pc := 31) hx hb dL_choose_31 (lv_at hl 6 rfl) ?_
  refine lv_i2l (pc := 33) hx hb dL_choose_33 rfl ?_
  refine lv_lload (pc := 34) hx hb dL_choose_34 (lv_at hl 5 rfl) ?_
  refine lv_lmul (pc := 36) hx hb dL_choose_36 ?_
  refine lv_iload_n (pc := 37) hx hb dL_choose_37 rfl (lv_at hl 2 rfl) ?_
  refine am_join2_s (fun (j54 : Int64) (f55 : Nat → Int32) => ∀ (ls : Array Slot), lv_has ls 17 [(0, .ref bg), (1, .ref bw), (2, .int p2), (3, .ref ba), (4, .int x1), (5, .long x3), (8, .int x50)] → ∀ (H : Heap) (locs : List Loc), va_P D vwCl [(bg, .inl (cI, 8, .inl f55)), (bw, .inl (cI, 12, .inl yw)), (ba, .inl (cI, 12, .inl f52))] H → va_D A [(bg, .inl (cI, 8, .inl f55)), (bw, .inl (cI, 12, .inl yw)), (ba, .inl (cI, 12, .inl f52))] → va_S A s.heap H locs → W p l e rmL_choose s m args below meth c H locs 0 0 Q (F0 m 64 ls [.long j54, .long (x50.toInt64 * x3)])) h (fun j54 f55 h ls hl H locs hP hD hS => ?_) (fun J56 hJ56 h => ?_)
  · refine lv_ladd (pc := 64) hx hb dL_choose_64 ?_
    refine lv_topl (fun x57 ex57 => ?_)
    replace h := am_let_s ex57 h
    refine lv_lstore (lv' := [(9, .long x57), (0, .ref bg), (1, .ref bw), (2, .int p2), (3, .ref ba), (4, .int x1), (5, .long x3), (8, .int x50)]) (pc := 65) hx hb dL_choose_65 hl (by decide) rfl (fun ls hl => ?_)
    refine lv_lconst (v := 0) (pc := 67) hx hb dL_choose_67 rfl ?_
    refine lv_lstore (lv' := [(11, .long (0 : Int64)), (9, .long x57), (0, .ref bg), (1, .ref bw), (2, .int p2), (3, .ref ba), (4, .int x1), (5, .long x3), (8, .int x50)]) (pc := 68) hx hb dL_choose_68 hl (by decide) rfl (fun ls hl => ?_)
    refine lv_aload_n (pc := 70) hx hb dL_choose_70 rfl (lv_at hl 5 rfl) ?_
    refine lv_iload (pc := 71) hx hb dL_choose_71 (lv_at hl 8 rfl) ?_
    refine lv_iconst (v := -1) (pc := 73) hx hb dL_choose_73 (by decide) ?_
    obtain ⟨hi, h⟩ := am_in_s h
    obtain ⟨f58, ef58⟩ : ∃ y : Nat → Int32, y = (upd f52 x50.toNatClampNeg (-1 : Int32)) := ⟨_, rfl⟩
    replace h := am_let_s ef58 h
    refine va_iast (pc := 74) hx hb hK.1 hP hD hS 2 0 rfl rfl hi dL_choose_74 (fun H locs hP hD hS => ?_)
    rw [← ef58] at hP hD
    replace hP : va_P D vwCl [(bg, .inl (cI, 8, .inl f55)), (bw, .inl (cI, 12, .inl yw)), (ba, .inl (cI, 12, .inl f58))] H := hP
    replace hD : va_D A [(bg, .inl (cI, 8, .inl f55)), (bw, .inl (cI, 12, .inl yw)), (ba, .inl (cI, 12, .inl f58))] := hD
    refine lv_iconst (v := 0) (pc := 75) hx hb dL_choose_75 (by decide) ?_
    refine lv_istore (lv' := [(13, .int (0 : Int32)), (11, .long (0 : Int64)), (9, .long x57), (0, .ref bg), (1, .ref bw), (2, .int p2), (3, .ref ba), (4, .int x1), (5, .long x3), (8, .int x50)]) (pc := 76) hx hb dL_choose_76 hl (by decide) rfl (fun ls hl => ?_)
    refine am_join1_s (fun (f59 : Nat → Int32) => ∀ (ls : Array Slot), lv_has ls 17 [(0, .ref bg), (1, .ref bw), (2, .int p2), (3, .ref ba), (4, .int x1), (5, .long x3), (8, .int x50)] → ∀ (H : Heap) (locs : List Loc), va_P D vwCl [(bg, .inl (cI, 8, .inl f55)), (bw, .inl (cI, 12, .inl yw)), (ba, .inl (cI, 12, .inl f59))] H → va_D A [(bg, .inl (cI, 8, .inl f55)), (bw, .inl (cI, 12, .inl yw)), (ba, .inl (cI, 12, .inl f59))] → va_S A s.heap H locs → W p l e rmL_choose s m args below meth c H locs 0 0 Q (F0 m 130 ls [])) h (fun f59 h ls hl H locs hP hD hS => ?_) (fun K60 hK60 h => ?_)
    · obtain ⟨x61, ex61⟩ : ∃ y : Int32, y = (x50 + (1 : Int32)) := ⟨_, rfl⟩
      replace h := am_let_s ex61 h
      refine lv_iinc (pc := 130) (v := x61) (lv' := [(8, .int x61), (0, .ref bg), (1, .ref bw), (2, .int p2), (3, .ref ba), (4, .int x1), (5, .long x3)]) hx hb dL_choose_130 hl (k := 6) rfl (by rw [ex61]; rfl) (by decide) rfl (fun ls hl => ?_)
      refine lv_goto (pc := 133) (tgt := 24) hx hb dL_choose_133 (by decide) ?_
      exact ihrec53 _ _ _ h ls (lv_sub hl [1, 2, 3, 4, 5, 6, 0] rfl) H locs hP hD hS
    refine am_loop3_s (fun (x62 : Int64) (x63 : Int32) (f64 : Nat → Int32) => ∀ (ls : Array Slot), lv_has ls 17 [(0, .ref bg), (1, .ref bw), (2, .int p2), (3, .ref ba), (4, .int x1), (5, .long x3), (8, .int x50), (9, .long x57), (11, .long x62), (13, .int x63)] → ∀ (H : Heap) (locs : List Loc), va_P D vwCl [(bg, .inl (cI, 8, .inl f55)), (bw, .inl (cI, 12, .inl yw)), (ba, .inl (cI, 12, .inl f64))] H → va_D A [(bg, .inl (cI, 8, .inl f55)), (bw, .inl (cI, 12, .inl yw)), (ba, .inl (cI, 12, .inl f64))] → va_S A s.heap H locs → W p l e rmL_choose s m args below meth c H locs 0 0 Q (F0 m 78 ls [])) (fun rec65 ihrec65 x62 x63 f64 h ls hl H locs hP hD hS => ?_) _ _ _ _ h ls (lv_sub hl [3, 4, 5, 6, 7, 8, 9, 2, 1, 0] rfl) H locs hP hD hS
    unfold F_L_choose_B78 at h
    refine lv_iload (pc := 78) hx hb dL_choose_78 (lv_at hl 9 rfl) ?_
    refine lv_iload (pc := 80) hx hb dL_choose_80 (lv_at hl 4 rfl) ?_
    refine lv_icmp_ge (pc := 82) (tgt := 130) hx hb dL_choose_82 (by decide) (fun cc => ?_) (fun cc => ?_)
    · replace h := am_t cc h
      exact hK60 _ h ls (lv_sub hl [0, 1, 2, 3, 4, 5, 6] rfl) H locs hP hD hS
    replace h := am_f cc h
    refine lv_aload_n (pc := 85) hx hb dL_choose_85 rfl (lv_at hl 3 rfl) ?_
    refine lv_iload (pc := 86) hx hb dL_choose_86 (lv_at hl 6 rfl) ?_
    obtain ⟨hi, h⟩ := am_in_s h
    refine va_iald (pc := 88) hx hb hK.1 hP 2 0 rfl rfl hi dL_choose_88 ?_
    refine lv_if_ge (pc := 89) (tgt := 130) hx hb dL_choose_89 (by decide) (fun cc => ?_) (fun cc => ?_)
    · replace h := am_t cc h
      exact hK60 _ h ls (lv_sub hl [0, 1, 2, 3, 4, 5, 6] rfl) H locs hP hD hS
    replace h := am_f cc h
    refine lv_lload (pc := 92) hx hb dL_choose_92 (lv_at hl 8 rfl) ?_
    refine lv_aload_n (pc := 94) hx hb dL_choose_94 rfl (lv_at hl 1 rfl) ?_
    refine lv_iload (pc := 95) hx hb dL_choose_95 (lv_at hl 9 rfl) ?_
    obtain ⟨hi, h⟩ := am_in_s h
    refine va_iald (pc := 97) hx hb hK.1 hP 1 0 rfl rfl hi dL_choose_97 ?_
    refine lv_i2l (pc := 98) hx hb dL_choose_98 rfl ?_
    refine lv_ladd (pc := 99) hx hb dL_choose_99 ?_
    refine lv_topl (fun x66 ex66 => ?_)
    replace h := am_let_s ex66 h
    refine lv_lstore (lv' := [(11, .long x66), (0, .ref bg), (1, .ref bw), (2, .int p2), (3, .ref ba), (4, .int x1), (5, .long x3), (8, .int x50), (9, .long x57), (13, .int x63)]) (pc := 100) hx hb dL_choose_100 hl (by decide) rfl (fun ls hl => ?_)
    refine lv_aload_n (pc := 102) hx hb dL_choose_102 rfl (lv_at hl 4 rfl) ?_
    refine lv_iload (pc := 103) hx hb dL_choose_103 (lv_at hl 7 rfl) ?_
    refine lv_lload (pc := 105) hx hb dL_choose_105 (lv_at hl 0 rfl) ?_
    refine lv_iload (pc := 107) hx hb dL_choose_107 (lv_at hl 5 rfl) ?_
    refine lv_i2l (pc := 109) hx hb dL_choose_109 rfl ?_
    refine lv_lmul (pc := 110) hx hb dL_choose_110 ?_
    refine lv_lload (pc := 111) hx hb dL_choose_111 (lv_at hl 8 rfl) ?_
    refine W.lcmp (pc := 113) hx hb dL_choose_113 ?_
    refine lv_if_le (pc := 114) (tgt := 122) hx hb dL_choose_114 (by decide) (fun cc => ?_) (fun cc => ?_)
    · replace h := am_t cc h
      refine lv_iconst (v := -1) (pc := 122) hx hb dL_choose_122 (by decide) ?_
      obtain ⟨hi, h⟩ := am_in_s h
      obtain ⟨f67, ef67⟩ : ∃ y : Nat → Int32, y = (upd f64 x50.toNatClampNeg (-1 : Int32)) := ⟨_, rfl⟩
      replace h := am_let_s ef67 h
      refine va_iast (pc := 123) hx hb hK.1 hP hD hS 2 0 rfl rfl hi dL_choose_123 (fun H locs hP hD hS => ?_)
      rw [← ef67] at hP hD
      replace hP : va_P D vwCl [(bg, .inl (cI, 8, .inl f55)), (bw, .inl (cI, 12, .inl yw)), (ba, .inl (cI, 12, .inl f67))] H := hP
      replace hD : va_D A [(bg, .inl (cI, 8, .inl f55)), (bw, .inl (cI, 12, .inl yw)), (ba, .inl (cI, 12, .inl f67))] := hD
      obtain ⟨x68, ex68⟩ : ∃ y : Int32, y = (x63 + (1 : Int32)) := ⟨_, rfl⟩
      replace h := am_let_s ex68 h
      refine lv_iinc (pc := 124) (v := x68) (lv' := [(13, .int x68), (11, .long x66), (0, .ref bg), (1, .ref bw), (2, .int p2), (3, .ref ba), (4, .int x1), (5, .long x3), (8, .int x50), (9, .long x57)]) hx hb dL_choose_124 hl (k := 9) rfl (by rw [ex68]; rfl) (by decide) rfl (fun ls hl => ?_)
      refine lv_goto (pc := 127) (tgt := 78) hx hb dL_choose_127 (by decide) ?_
      exact ihrec65 _ _ _ h ls (lv_sub hl [2, 3, 4, 5, 6, 7, 8, 9, 1, 0] rfl) H locs hP hD hS
    replace h := am_f cc h
    refine lv_iload (pc := 117) hx hb dL_choose_117 (lv_at hl 9 rfl) ?_
    refine lv_goto (pc := 119) (tgt := 123) hx hb dL_choose_119 (by decide) ?_
    obtain ⟨hi, h⟩ := am_in_s h
    obtain ⟨f69, ef69⟩ : ∃ y : Nat → Int32, y = (upd f64 x50.toNatClampNeg x63) := ⟨_, rfl⟩
    replace h := am_let_s ef69 h
    refine va_iast (pc := 123) hx hb hK.1 hP hD hS 2 0 rfl rfl hi dL_choose_123 (fun H locs hP hD hS => ?_)
    rw [← ef69] at hP hD
    replace hP : va_P D vwCl [(bg, .inl (cI, 8, .inl f55)), (bw, .inl (cI, 12, .inl yw)), (ba, .inl (cI, 12, .inl f69))] H := hP
    replace hD : va_D A [(bg, .inl (cI, 8, .inl f55)), (bw, .inl (cI, 12, .inl yw)), (ba, .inl (cI, 12, .inl f69))] := hD
    obtain ⟨x70, ex70⟩ : ∃ y : Int32, y = (x63 + (1 : Int32)) := ⟨_, rfl⟩
    replace h := am_let_s ex70 h
    refine lv_iinc (pc := 124) (v := x70) (lv' := [(13, .int x70), (11, .long x66), (0, .ref bg), (1, .ref bw), (2, .int p2), (3, .ref ba), (4, .int x1), (5, .long x3), (8, .int x50), (9, .long x57)]) hx hb dL_choose_124 hl (k := 9) rfl (by rw [ex70]; rfl) (by decide) rfl (fun ls hl => ?_)
    refine lv_goto (pc := 127) (tgt := 78) hx hb dL_choose_127 (by decide) ?_
    exact ihrec65 _ _ _ h ls (lv_sub hl [2, 3, 4, 5, 6, 7, 8, 9, 1, 0] rfl) H locs hP hD hS
  refine lv_if_ne (pc := 38) (tgt := 56) hx hb dL_choose_38 (by decide) (fun cc => ?_) (fun cc => ?_)
  · replace h := am_f cc h
    refine lv_aload_n (pc := 56) hx hb dL_choose_56 rfl (lv_at hl 0 rfl) ?_
    obtain ⟨r71, f72, hc72, h⟩ := am_call2_s h
    refine kc_SWi (pc := 57) ⟨hx, hb, hml, hown, hts⟩ hP hK hD hS hA [.ref bg] (c_L_noise l D cI cJ bg f51 r71 f72 hc72 _) [0] rfl rfl rfl (cwS 1 hts (gzS wl366 wl367 wl118 wl368) rfl rfl rfl ⟨rfl, hdL_noise⟩ ⟨Nat.le_of_ble_eq_true rfl, Nat.le_of_ble_eq_true rfl⟩) [.long (x50.toInt64 * x3)] rfl hl.1 rfl (Nat.le_of_ble_eq_true rfl) dL_choose_57 ⟨Nat.zero_le _, Nat.zero_le _⟩ (fun H locs hP hD hS => ?_)
    replace hP : va_P D vwCl [(bg, .inl (cI, 8, .inl f72)), (bw, .inl (cI, 12, .inl yw)), (ba, .inl (cI, 12, .inl f52))] H := hP
    replace hD : va_D A [(bg, .inl (cI, 8, .inl f72)), (bw, .inl (cI, 12, .inl yw)), (ba, .inl (cI, 12, .inl f52))] := hD
    refine lv_i2l (pc := 60) hx hb dL_choose_60 rfl ?_
    refine lv_lload (pc := 61) hx hb dL_choose_61 (lv_at hl 5 rfl) ?_
    obtain ⟨hz, h⟩ := am_nzl_s h
    refine lv_lrem (pc := 63) hx hb dL_choose_63 hz ?_
    exact hJ56 _ _ h ls (lv_sub hl [0, 1, 2, 3, 4, 5, 6] rfl) H locs hP hD hS
  replace h := am_t cc h
  refine lv_aload_n (pc := 41) hx hb dL_choose_41 rfl (lv_at hl 0 rfl) ?_
  refine lv_bipush (v := 7) (pc := 42) hx hb dL_choose_42 (by decide) ?_
  refine va_iald (pc := 44) hx hb hK.1 hP 0 0 rfl rfl (vp_in_nI (n := 7) (N := 8) (by decide) (by decide)) dL_choose_44 ?_
  refine lv_i2l (pc := 45) hx hb dL_choose_45 rfl ?_
  refine lv_lload (pc := 46) hx hb dL_choose_46 (lv_at hl 5 rfl) ?_
  refine lv_lmul (pc := 48) hx hb dL_choose_48 ?_
  refine lv_ldc2 (pc := 49) hx hb hown hk435 dL_choose_49 ?_
  refine lv_ldiv (pc := 52) hx hb dL_choose_52 (by decide) ?_
  refine lv_goto (pc := 53) (tgt := 64) hx hb dL_choose_53 (by decide) ?_
  exact hJ56 _ _ h ls (lv_sub hl [0, 1, 2, 3, 4, 5, 6] rfl) H locs hP hD hS
theorem hdL_unlike : yL_unlike.cls ≠ "java/lang/invoke/MethodHandle" ∧ yL_unlike.cls ≠ "java/lang/invoke/VarHandle" ∧ (parseMethodDescriptor yL_unlike.desc).map (fun d => d.parameters.length) = some 2 := by decide +kernel
abbrev rmL_unlike : Room := { frames := 0, cells := 0, slots := 0, locals := 0 }
set_option maxHeartbeats 20000000 in
set_option maxRecDepth 100000 in
theorem c_L_unlike (l : Launch) (D : va_G) (cI cJ : ClassId) (ba : Nat) (ya : Nat → Int32) (p1 : Int32) (r0 : Int32) (hF : F_L_unlike ya p1 = some r0) : Met l yL_unlike (wz yL_unlike cL_unlike 6 (some .int)) rmL_unlike (kPc D cI cJ [(ba, .inl (cI, 12, .inl ya))] [.ref ba, .int p1]) (vp_Si (fun r => r = r0)) 0 0 (fun _ => False) := by
  refine kM_ri cL_unlike 6 .int (by decide +kernel) rfl rfl (Nat.le_of_ble_eq_true rfl) ⟨rfl, rfl⟩ ?_
  intro p e s m args below meth c Q ls hx hb hml hown hts hP hK hl hret
  replace hl : lv_has ls 6 [(0, .ref ba), (1, .int p1)] := hl
  have h := hF
  unfold F_L_unlike at h
  refine lv_iconst (v := 0) (pc := 0) hx hb dL_unlike_0 (by decide) ?_
  refine lv_istore_n (lv' := [(2, .int (0 : Int32)), (0, .ref ba), (1, .int p1)]) (pc := 1) hx hb dL_unlike_1 rfl hl (by decide) rfl (fun ls hl => ?_)
  refine lv_iconst (v := 0) (pc := 2) hx hb dL_unlike_2 (by decide) ?_
  refine lv_istore_n (lv' := [(3, .int (0 : Int32)), (2, .int (0 : Int32)), (0, .ref ba), (1, .int p1)]) (pc := 3) hx hb dL_unlike_3 rfl hl (by decide) rfl (fun ls hl => ?_)
  refine am_join1_s (fun (x1 : Int32) => ∀ (ls : Array Slot), lv_has ls 6 [(2, .int x1)] → W p l e rmL_unlike s m args below meth c s.heap [] 0 0 Q (F0 m 70 ls [])) h (fun x1 h ls hl => ?_) (fun K2 hK2 h => ?_)
  · refine lv_iload_n (pc := 70) hx hb dL_unlike_70 rfl (lv_at hl 0 rfl) ?_
    obtain e1 := am_ret1 h
    exact hret _ _ _ dL_unlike_71 rfl e1
  refine am_loop2_s (fun (x3 : Int32) (x4 : Int32) => ∀ (ls : Array Slot), lv_has ls 6 [(0, .ref ba), (1, .int p1), (2, .int x3), (3, .int x4)] → W p l e rmL_unlike s m args below meth c s.heap [] 0 0 Q (F0 m 4 ls [])) (fun rec5 ihrec5 x3 x4 h ls hl => ?_) _ _ _ h ls (lv_sub hl [2, 3, 1, 0] rfl)
  unfold F_L_unlike_B4 at h
  refine lv_iload_n (pc := 4) hx hb dL_unlike_4 rfl (lv_at hl 3 rfl) ?_
  refine lv_iload_n (pc := 5) hx hb dL_unlike_5 rfl (lv_at hl 1 rfl) ?_
  refine lv_icmp_ge (pc := 6) (tgt := 70) hx hb dL_unlike_6 (by decide) (fun cc => ?_) (fun cc => ?_)
  · replace h := am_t cc h
    exact hK2 _ h ls (lv_sub hl [2] rfl)
  replace h := am_f cc h
  refine lv_iconst (v := 1) (pc := 9) hx hb dL_unlike_9 (by decide) ?_
  refine lv_istore (lv' := [(4, .int (1 : Int32)), (0, .ref ba), (1, .int p1), (2, .int x3), (3, .int x4)]) (pc := 10) hx hb dL_unlike_10 hl (by decide) rfl (fun ls hl => ?_)
  refine lv_iload_n (pc := 12) hx hb dL_unlike_12 rfl (lv_at hl 4 rfl) ?_
  refine lv_iconst (v := 1) (pc := 13) hx hb dL_unlike_13 (by decide) ?_
  refine lv_iadd (pc := 14) hx hb dL_unlike_14 ?_
  refine lv_topi (fun x6 ex6 => ?_)
  replace h := am_let_s ex6 h
  refine lv_istore (lv' := [(5, .int x6), (4, .int (1 : Int32)), (0, .ref ba), (1, .int p1), (2, .int x3), (3, .int x4)]) (pc := 15) hx hb dL_unlike_15 hl (by decide) rfl (fun ls hl => ?_)
  refine am_join1_s (fun (x7 : Int32) => ∀ (ls : Array Slot), lv_has ls 6 [(0, .ref ba), (1, .int p1), (2, .int x3), (3, .int x4), (4, .int x7)] → W p l e rmL_unlike s m args below meth c s.heap [] 0 0 Q (F0 m 51 ls [])) h (fun x7 h ls hl => ?_) (fun K8 hK8 h => ?_)
  · refine lv_iload_n (pc := 51) hx hb dL_unlike_51 rfl (lv_at hl 2 rfl) ?_
    refine lv_iload (pc := 52) hx hb dL_unlike_52 (lv_at hl 4 rfl) ?_
    refine lv_if_eq (pc := 54) (tgt := 61) hx hb dL_unlike_54 (by decide) (fun cc => ?_) (fun cc => ?_)
    · replace h := am_t cc h
      refine lv_iconst (v := 0) (pc := 61) hx hb dL_unlike_61 (by decide) ?_
      refine lv_iadd (pc := 62) hx hb dL_unlike_62 ?_
      refine lv_topi (fun x9 ex9 => ?_)
      replace h := am_let_s ex9 h
      refine lv_istore_n (lv' := [(2, .int x9), (0, .ref ba), (1, .int p1), (3, .int x4), (4, .int x7)]) (pc := 63) hx hb dL_unlike_63 rfl hl (by decide) rfl (fun ls hl => ?_)
      obtain ⟨x10, ex10⟩ : ∃ y : Int32, y = (x4 + (1 : Int32)) := ⟨_, rfl⟩
      replace h := am_let_s ex10 h
      refine lv_iinc (pc := 64) (v := x10) (lv' := [(3, .int x10), (2, .int x9), (0, .ref ba), (1, .int p1), (4, .int x7)]) hx hb dL_unlike_64 hl (k := 3) rfl (by rw [ex10]; rfl) (by decide) rfl (fun ls hl => ?_)
      refine lv_goto (pc := 67) (tgt := 4) hx hb dL_unlike_67 (by decide) ?_
      exact ihrec5 _ _ h ls (lv_sub hl [2, 3, 1, 0] rfl)
    replace h := am_f cc h
    refine lv_iconst (v := 1) (pc := 57) hx hb dL_unlike_57 (by decide) ?_
    refine lv_goto (pc := 58) (tgt := 62) hx hb dL_unlike_58 (by decide) ?_
    refine lv_iadd (pc := 62) hx hb dL_unlike_62 ?_
    refine lv_topi (fun x11 ex11 => ?_)
    replace h := am_let_s ex11 h
    refine lv_istore_n (lv' := [(2, .int x11), (0, .ref ba), (1, .int p1), (3, .int x4), (4, .int x7)]) (pc := 63) hx hb dL_unlike_63 rfl hl (by decide) rfl (fun ls hl => ?_)
    obtain ⟨x12, ex12⟩ : ∃ y : Int32, y = (x4 + (1 : Int32)) := ⟨_, rfl⟩
    replace h := am_let_s ex12 h
    refine lv_iinc (pc := 64) (v := x12) (lv' := [(3, .int x12), (2, .int x11), (0, .ref ba), (1, .int p1), (4, .int x7)]) hx hb dL_unlike_64 hl (k := 3) rfl (by rw [ex12]; rfl) (by decide) rfl (fun ls hl => ?_)
    refine lv_goto (pc := 67) (tgt := 4) hx hb dL_unlike_67 (by decide) ?_
    exact ihrec5 _ _ h ls (lv_sub hl [2, 3, 1, 0] rfl)
  refine am_loop2_s (fun (x13 : Int32) (x14 : Int32) => ∀ (ls : Array Slot), lv_has ls 6 [(0, .ref ba), (1, .int p1), (2, .int x3), (3, .int x4), (4, .int x13), (5, .int x14)] → W p l e rmL_unlike s m args below meth c s.heap [] 0 0 Q (F0 m 17 ls [])) (fun rec15 ihrec15 x13 x14 h ls hl => ?_) _ _ _ h ls (lv_sub hl [2, 3, 4, 5, 1, 0] rfl)
  unfold F_L_unlike_B17 at h
  refine lv_iload (pc := 17) hx hb dL_unlike_17 (lv_at hl 5 rfl) ?_
  refine lv_iload_n (pc := 19) hx hb dL_unlike_19 rfl (lv_at hl 1 rfl) ?_
  refine lv_icmp_ge (pc := 20) (tgt := 51) hx hb dL_unlike_20 (by decide) (fun cc => ?_) (fun cc => ?_)
  · replace h := am_t cc h
    exact hK8 _ h ls (lv_sub hl [0, 1, 2, 3, 4] rfl)
  replace h := am_f cc h
  refine lv_iload (pc := 23) hx hb dL_unlike_23 (lv_at hl 4 rfl) ?_
  refine lv_if_eq (pc := 25) (tgt := 42) hx hb dL_unlike_25 (by decide) (fun cc => ?_) (fun cc => ?_)
  · replace h := am_t cc h
    refine lv_iconst (v := 0) (pc := 42) hx hb dL_unlike_42 (by decide) ?_
    refine lv_istore (lv' := [(4, .int (0 : Int32)), (0, .ref ba), (1, .int p1), (2, .int x3), (3, .int x4), (5, .int x14)]) (pc := 43) hx hb dL_unlike_43 hl (by decide) rfl (fun ls hl => ?_)
    obtain ⟨x16, ex16⟩ : ∃ y : Int32, y = (x14 + (1 : Int32)) := ⟨_, rfl⟩
    replace h := am_let_s ex16 h
    refine lv_iinc (pc := 45) (v := x16) (lv' := [(5, .int x16), (4, .int (0 : Int32)), (0, .ref ba), (1, .int p1), (2, .int x3), (3, .int x4)]) hx hb dL_unlike_45 hl (k := 5) rfl (by rw [ex16]; rfl) (by decide) rfl (fun ls hl => ?_)
    refine lv_goto (pc := 48) (tgt := 17) hx hb dL_unlike_48 (by decide) ?_
    exact ihrec15 _ _ h ls (lv_sub hl [2, 3, 4, 5, 1, 0] rfl)
  replace h := am_f cc h
  refine lv_aload_n (pc := 28) hx hb dL_unlike_28 rfl (lv_at hl 0 rfl) ?_
  refine lv_iload (pc := 29) hx hb dL_unlike_29 (lv_at hl 5 rfl) ?_
  obtain ⟨hi, h⟩ := am_in_s h
  refine va_iald (pc := 31) hx hb hK.1 hP 0 0 rfl rfl hi dL_unlike_31 ?_
  refine lv_aload_n (pc := 32) hx hb dL_unlike_32 rfl (lv_at hl 0 rfl) ?_
  refine lv_iload_n (pc := 33) hx hb dL_unlike_33 rfl (lv_at hl 3 rfl) ?_
  obtain ⟨hi, h⟩ := am_in_s h
  refine va_iald (pc := 34) hx hb hK.1 hP 0 0 rfl rfl hi dL_unlike_34 ?_
  refine lv_icmp_eq (pc := 35) (tgt := 42) hx hb dL_unlike_35 (by decide) (fun cc => ?_) (fun cc => ?_)
  · replace h := am_t cc h
    refine lv_iconst (v := 0) (pc := 42) hx hb dL_unlike_42 (by decide) ?_
    refine lv_istore (lv' := [(4, .int (0 : Int32)), (0, .ref ba), (1, .int p1), (2, .int x3), (3, .int x4), (5, .int x14)]) (pc := 43) hx hb dL_unlike_43 hl (by decide) rfl (fun ls hl => ?_)
    obtain ⟨x17, ex17⟩ : ∃ y : Int32, y = (x14 + (1 : Int32)) := ⟨_, rfl⟩
    replace h := am_let_s ex17 h
    refine lv_iinc (pc := 45) (v := x17) (lv' := [(5, .int x17), (4, .int (0 : Int32)), (0, .ref ba), (1, .int p1), (2, .int x3), (3, .int x4)]) hx hb dL_unlike_45 hl (k := 5) rfl (by rw [ex17]; rfl) (by decide) rfl (fun ls hl => ?_)
    refine lv_goto (pc := 48) (tgt := 17) hx hb dL_unlike_48 (by decide) ?_
    exact ihrec15 _ _ h ls (lv_sub hl [2, 3, 4, 5, 1, 0] rfl)
  replace h := am_f cc h
  refine lv_iconst (v := 1) (pc := 38) hx hb dL_unlike_38 (by decide) ?_
  refine lv_goto (pc := 39) (tgt := 43) hx hb dL_unlike_39 (by decide) ?_
  refine lv_istore (lv' := [(4, .int (1 : Int32)), (0, .ref ba), (1, .int p1), (2, .int x3), (3, .int x4), (5, .int x14)]) (pc := 43) hx hb dL_unlike_43 hl (by decide) rfl (fun ls hl => ?_)
  obtain ⟨x18, ex18⟩ : ∃ y : Int32, y = (x14 + (1 : Int32)) := ⟨_, rfl⟩
  replace h := am_let_s ex18 h
  refine lv_iinc (pc := 45) (v := x18) (lv' := [(5, .int x18), (4, .int (1 : Int32)), (0, .ref ba), (1, .int p1), (2, .int x3), (3, .int x4)]) hx hb dL_unlike_45 hl (k := 5) rfl (by rw [ex18]; rfl) (by decide) rfl (fun ls hl => ?_)
  refine lv_goto (pc := 48) (tgt := 17) hx hb dL_unlike_48 (by decide) ?_
  exact ihrec15 _ _ h ls (lv_sub hl [2, 3, 4, 5, 1, 0] rfl)
theorem hdL_again : yL_again.cls ≠ "java/lang/invoke/MethodHandle" ∧ yL_again.cls ≠ "java/lang/invoke/VarHandle" ∧ (parseMethodDescriptor yL_again.desc).map (fun d => d.parameters.length) = some 4 := by decide +kernel
abbrev rmL_again : Room := { frames := 2, cells := 1, slots := 12, locals := 59 }
set_option maxHeartbeats 20000000 in
set_option maxRecDepth 100000 in
theorem c_L_again (l : Launch) (D : va_G) (cI cJ : ClassId) (bg : Nat) (bw : Nat) (bq : Nat) (bc : Nat) (yg : Nat → Int32) (yw : Nat → Int32) (yq : Nat → Int32) (yc : Nat → Int64)  (r0 : Int32) (zyg : Nat → Int32) (zyw : Nat → Int32) (zyq : Nat → Int32) (zyc : Nat → Int64) (hF : F_L_again yg yw yq yc = some (r0, zyg, zyw, zyq, zyc)) (sz : Nat) : Met l yL_again (wz yL_again cL_again 7 (some .int)) rmL_again (kPw D cI cJ [(bg, .inl (cI, 8, .inl yg)), (bw, .inl (cI, 12, .inl yw)), (bq, .inl (cI, 60, .inl yq)), (bc, .inl (cJ, 60, .inr (.inl yc)))] sz [.ref bg, .ref bw, .ref bq, .ref bc]) (kQX D r0 (fun w1 => w1 = [(bg, .inl (cI, 8, .inl zyg)), (bw, .inl (cI, 12, .inl zyw)), (bq, .inl (cI, 60, .inl zyq)), (bc, .inl (cJ, 60, .inr (.inl zyc)))]) (va_A [(bg, .inl (cI, 8, .inl yg)), (bw, .inl (cI, 12, .inl yw)), (bq, .inl (cI, 60, .inl yq)), (bc, .inl (cJ, 60, .inr (.inl yc)))] sz)) 1 12 (va_A [(bg, .inl (cI, 8, .inl yg)), (bw, .inl (cI, 12, .inl yw)), (bq, .inl (cI, 60, .inl yq)), (bc, .inl (cJ, 60, .inr (.inl yc)))] sz) := by
  refine kM_X cL_again 7 .int (by decide +kernel) rfl rfl (Nat.le_of_ble_eq_true rfl) ?_
  intro p e s m args below meth c Q A ls hx hb hml hown hts hP hK hD hA hS hl hret
  have hk3 := hts _ (List.mem_cons_of_mem _ wl3)
  replace hl : lv_has ls 7 [(0, .ref bg), (1, .ref bw), (2, .ref bq), (3, .ref bc)] := hl
  have h := hF
  unfold F_L_again at h
  refine lv_bipush (v := 12) (pc := 0) hx hb dL_again_0 (by decide) ?_
  refine kc_ai (pc := 2) (N := 12) hx hb hk3 hK hP hD hS hA rfl (Nat.le_of_ble_eq_true rfl) (Nat.le_of_ble_eq_true rfl) (Nat.le_of_ble_eq_true rfl) dL_again_2 (fun zq2 H hP hD hS => ?_)
  replace hP : va_P D vwCl [(zq2, .inl (cI, 12, .inl zI)), (bg, .inl (cI, 8, .inl yg)), (bw, .inl (cI, 12, .inl yw)), (bq, .inl (cI, 60, .inl yq)), (bc, .inl (cJ, 60, .inr (.inl yc)))] H := vP_sw hP
  replace hD : va_D A [(zq2, .inl (cI, 12, .inl zI)), (bg, .inl (cI, 8, .inl yg)), (bw, .inl (cI, 12, .inl yw)), (bq, .inl (cI, 60, .inl yq)), (bc, .inl (cJ, 60, .inr (.inl yc)))] := vD_sw hD
  refine W.widen (k := 1) (n := 12) (by omega) (by omega) ?_
  refine lv_astore (lv' := [(4, .ref zq2), (0, .ref bg), (1, .ref bw), (2, .ref bq), (3, .ref bc)]) (pc := 4) hx hb dL_again_4 hl (by decide) rfl (fun ls hl => ?_)
  refine lv_aload_n (pc := 6) hx hb dL_again_6 rfl (lv_at hl 1 rfl) ?_
  refine lv_iconst (v := 1) (pc := 7) hx hb dL_again_7 (by decide) ?_
  refine va_iald (pc := 8) hx hb hK.1 hP 1 0 rfl rfl (vp_in_nI (n := 1) (N := 8) (by decide) (by decide)) dL_again_8 ?_
  refine lv_topi (fun x1 ex1 => ?_)
  replace h := am_let_s ex1 h
  refine lv_istore (lv' := [(5, .int x1), (4, .ref zq2), (0, .ref bg), (1, .ref bw), (2, .ref bq), (3, .ref bc)]) (pc := 9) hx hb dL_again_9 hl (by decide) rfl (fun ls hl => ?_)
  refine lv_aload_n (pc := 11) hx hb dL_again_11 rfl (lv_at hl 2 rfl) ?_
  refine lv_aload_n (pc := 12) hx hb dL_again_12 rfl (lv_at hl 3 rfl) ?_
  refine lv_aload_n (pc := 13) hx hb dL_again_13 rfl (lv_at hl 2 rfl) ?_
  refine lv_bipush (v := 6) (pc := 14) hx hb dL_again_14 (by decide) ?_
  refine va_iald (pc := 16) hx hb hK.1 hP 1 0 rfl rfl (vp_in_nI (n := 6) (N := 8) (by decide) (by decide)) dL_again_16 ?_
  refine lv_aload (pc := 17) hx hb dL_again_17 (lv_at hl 1 rfl) ?_
  obtain ⟨f2, f3, hc3, h⟩ := am_call2_s h
  refine kc_SWv (pc := 19) ⟨hx, hb, hml, hown, hts⟩ hP hK hD hS hA [.ref bg, .ref bw, .int (yg (6 : Int32).toNatClampNeg), .ref zq2] (c_L_choose l D cI cJ bg bw zq2 yg yw zI (yg (6 : Int32).toNatClampNeg) f2 f3 hc3 _) [1, 2, 0] rfl rfl rfl (cwS 4 hts (gzS wl432 wl433 wl118 wl434) rfl rfl rfl ⟨rfl, hdL_choose⟩ ⟨Nat.le_of_ble_eq_true rfl, Nat.le_of_ble_eq_true rfl⟩) [] rfl hl.1 rfl (Nat.le_of_ble_eq_true rfl) dL_again_19 ⟨Nat.le_of_ble_eq_true rfl, Nat.le_of_ble_eq_true rfl⟩ (fun H locs hP hD hS => ?_)
  replace hP : va_P D vwCl [(zq2, .inl (cI, 12, .inl f3)), (bg, .inl (cI, 8, .inl f2)), (bw, .inl (cI, 12, .inl yw)), (bq, .inl (cI, 60, .inl yq)), (bc, .inl (cJ, 60, .inr (.inl yc)))] H := hP
  replace hD : va_D A [(zq2, .inl (cI, 12, .inl f3)), (bg, .inl (cI, 8, .inl f2)), (bw, .inl (cI, 12, .inl yw)), (bq, .inl (cI, 60, .inl yq)), (bc, .inl (cJ, 60, .inr (.inl yc)))] := hD
  refine lv_iconst (v := 0) (pc := 22) hx hb dL_again_22 (by decide) ?_
  refine lv_istore (lv' := [(6, .int (0 : Int32)), (5, .int x1), (4, .ref zq2), (0, .ref bg), (1, .ref bw), (2, .ref bq), (3, .ref bc)]) (pc := 23) hx hb dL_again_23 hl (by decide) rfl (fun ls hl => ?_)
  refine am_join2_s (fun (f4 : Nat → Int32) (f5 : Nat → Int64) => ∀ (ls : Array Slot), lv_has ls 7 [(0, .ref bg), (2, .ref bq), (4, .ref zq2), (5, .int x1)] → ∀ (H : Heap) (locs : List Loc), va_P D vwCl [(zq2, .inl (cI, 12, .inl f3)), (bg, .inl (cI, 8, .inl f2)), (bw, .inl (cI, 12, .inl f4)), (bq, .inl (cI, 60, .inl yq)), (bc, .inl (cJ, 60, .inr (.inl f5)))] H → va_D A [(zq2, .inl (cI, 12, .inl f3)), (bg, .inl (cI, 8, .inl f2)), (bw, .inl (cI, 12, .inl f4)), (bq, .inl (cI, 60, .inl yq)), (bc, .inl (cJ, 60, .inr (.inl f5)))] → va_S A s.heap H locs → W p l e rmL_again s m args below meth c H locs 1 12 Q (F0 m 74 ls [])) h (fun f4 f5 h ls hl H locs hP hD hS => ?_) (fun K6 hK6 h => ?_)
  · refine lv_aload_n (pc := 74) hx hb dL_again_74 rfl (lv_at hl 1 rfl) ?_
    refine lv_iconst (v := 3) (pc := 75) hx hb dL_again_75 (by decide) ?_
    refine lv_iload (pc := 76) hx hb dL_again_76 (lv_at hl 3 rfl) ?_
    refine lv_imul (pc := 78) hx hb dL_again_78 ?_
    refine lv_iconst (v := 2) (pc := 79) hx hb dL_again_79 (by decide) ?_
    obtain ⟨hi, h⟩ := am_in_s h
    obtain ⟨f7, ef7⟩ : ∃ y : Nat → Int32, y = (upd yq ((3 : Int32) * x1).toNatClampNeg (2 : Int32)) := ⟨_, rfl⟩
    replace h := am_let_s ef7 h
    refine va_iast (pc := 80) hx hb hK.1 hP hD hS 3 0 rfl rfl hi dL_again_80 (fun H locs hP hD hS => ?_)
    rw [← ef7] at hP hD
    replace hP : va_P D vwCl [(zq2, .inl (cI, 12, .inl f3)), (bg, .inl (cI, 8, .inl f2)), (bw, .inl (cI, 12, .inl f4)), (bq, .inl (cI, 60, .inl f7)), (bc, .inl (cJ, 60, .inr (.inl f5)))] H := hP
    replace hD : va_D A [(zq2, .inl (cI, 12, .inl f3)), (bg, .inl (cI, 8, .inl f2)), (bw, .inl (cI, 12, .inl f4)), (bq, .inl (cI, 60, .inl f7)), (bc, .inl (cJ, 60, .inr (.inl f5)))] := hD
    refine lv_aload_n (pc := 81) hx hb dL_again_81 rfl (lv_at hl 1 rfl) ?_
    refine lv_iconst (v := 3) (pc := 82) hx hb dL_again_82 (by decide) ?_
    refine lv_iload (pc := 83) hx hb dL_again_83 (lv_at hl 3 rfl) ?_
    refine lv_imul (pc := 85) hx hb dL_again_85 ?_
    refine lv_iconst (v := 2) (pc := 86) hx hb dL_again_86 (by decide) ?_
    refine lv_iadd (pc := 87) hx hb dL_again_87 ?_
    refine lv_aload_n (pc := 88) hx hb dL_again_88 rfl (lv_at hl 0 rfl) ?_
    refine lv_bipush (v := 6) (pc := 89) hx hb dL_again_89 (by decide) ?_
    refine va_iald (pc := 91) hx hb hK.1 hP 1 0 rfl rfl (vp_in_nI (n := 6) (N := 8) (by decide) (by decide)) dL_again_91 ?_
    obtain ⟨hi, h⟩ := am_in_s h
    obtain ⟨f8, ef8⟩ : ∃ y : Nat → Int32, y = (upd f7 (((3 : Int32) * x1) + (2 : Int32)).toNatClampNeg (f2 (6 : Int32).toNatClampNeg)) := ⟨_, rfl⟩
    replace h := am_let_s ef8 h
    refine va_iast (pc := 92) hx hb hK.1 hP hD hS 3 0 rfl rfl hi dL_again_92 (fun H locs hP hD hS => ?_)
    rw [← ef8] at hP hD
    replace hP : va_P D vwCl [(zq2, .inl (cI, 12, .inl f3)), (bg, .inl (cI, 8, .inl f2)), (bw, .inl (cI, 12, .inl f4)), (bq, .inl (cI, 60, .inl f8)), (bc, .inl (cJ, 60, .inr (.inl f5)))] H := hP
    replace hD : va_D A [(zq2, .inl (cI, 12, .inl f3)), (bg, .inl (cI, 8, .inl f2)), (bw, .inl (cI, 12, .inl f4)), (bq, .inl (cI, 60, .inl f8)), (bc, .inl (cJ, 60, .inr (.inl f5)))] := hD
    refine lv_aload_n (pc := 93) hx hb dL_again_93 rfl (lv_at hl 0 rfl) ?_
    refine lv_iconst (v := 1) (pc := 94) hx hb dL_again_94 (by decide) ?_
    refine lv_dup2_11 (pc := 95) hx hb dL_again_95 rfl rfl ?_
    refine va_iald (pc := 96) hx hb hK.1 hP 1 0 rfl rfl (vp_in_nI (n := 1) (N := 8) (by decide) (by decide)) dL_again_96 ?_
    refine lv_iconst (v := 1) (pc := 97) hx hb dL_again_97 (by decide) ?_
    refine lv_iadd (pc := 98) hx hb dL_again_98 ?_
    obtain ⟨f9, ef9⟩ : ∃ y : Nat → Int32, y = (upd f2 (1 : Int32).toNatClampNeg ((f2 (1 : Int32).toNatClampNeg) + (1 : Int32))) := ⟨_, rfl⟩
    replace h := am_let_s ef9 h
    refine va_iast (pc := 99) hx hb hK.1 hP hD hS 1 0 rfl rfl (vp_in_nI (n := 1) (N := 8) (by decide) (by decide)) dL_again_99 (fun H locs hP hD hS => ?_)
    rw [← ef9] at hP hD
    replace hP : va_P D vwCl [(zq2, .inl (cI, 12, .inl f3)), (bg, .inl (cI, 8, .inl f9)), (bw, .inl (cI, 12, .inl f4)), (bq, .inl (cI, 60, .inl f8)), (bc, .inl (cJ, 60, .inr (.inl f5)))] H := hP
    replace hD : va_D A [(zq2, .inl (cI, 12, .inl f3)), (bg, .inl (cI, 8, .inl f9)), (bw, .inl (cI, 12, .inl f4)), (bq, .inl (cI, 60, .inl f8)), (bc, .inl (cJ, 60, .inr (.inl f5)))] := hD
    refine lv_aload_n (pc := 100) hx hb dL_again_100 rfl (lv_at hl 0 rfl) ?_
    refine lv_iconst (v := 4) (pc := 101) hx hb dL_again_101 (by decide) ?_
    refine lv_dup2_11 (pc := 102) hx hb dL_again_102 rfl rfl ?_
    refine va_iald (pc := 103) hx hb hK.1 hP 1 0 rfl rfl (vp_in_nI (n := 4) (N := 8) (by decide) (by decide)) dL_again_103 ?_
    refine lv_iconst (v := 1) (pc := 104) hx hb dL_again_104 (by decide) ?_
    refine lv_iadd (pc := 105) hx hb dL_again_105 ?_
    obtain ⟨f10, ef10⟩ : ∃ y : Nat → Int32, y = (upd f9 (4 : Int32).toNatClampNeg ((f9 (4 : Int32).toNatClampNeg) + (1 : Int32))) := ⟨_, rfl⟩
    replace h := am_let_s ef10 h
    refine va_iast (pc := 106) hx hb hK.1 hP hD hS 1 0 rfl rfl (vp_in_nI (n := 4) (N := 8) (by decide) (by decide)) dL_again_106 (fun H locs hP hD hS => ?_)
    rw [← ef10] at hP hD
    replace hP : va_P D vwCl [(zq2, .inl (cI, 12, .inl f3)), (bg, .inl (cI, 8, .inl f10)), (bw, .inl (cI, 12, .inl f4)), (bq, .inl (cI, 60, .inl f8)), (bc, .inl (cJ, 60, .inr (.inl f5)))] H := hP
    replace hD : va_D A [(zq2, .inl (cI, 12, .inl f3)), (bg, .inl (cI, 8, .inl f10)), (bw, .inl (cI, 12, .inl f4)), (bq, .inl (cI, 60, .inl f8)), (bc, .inl (cJ, 60, .inr (.inl f5)))] := hD
    refine lv_aload (pc := 107) hx hb dL_again_107 (lv_at hl 2 rfl) ?_
    refine lv_aload_n (pc := 109) hx hb dL_again_109 rfl (lv_at hl 0 rfl) ?_
    refine lv_iconst (v := 0) (pc := 110) hx hb dL_again_110 (by decide) ?_
    refine va_iald (pc := 111) hx hb hK.1 hP 1 0 rfl rfl (vp_in_nI (n := 0) (N := 8) (by decide) (by decide)) dL_again_111 ?_
    obtain ⟨r11, hc11, h⟩ := am_bind_s h
    refine kc_Si (pc := 112) ⟨hx, hb, hml, hown, hts⟩ hP hK [.ref zq2, .int (f10 (0 : Int32).toNatClampNeg)] (c_L_unlike l D cI cJ zq2 f3 (f10 (0 : Int32).toNatClampNeg) r11 hc11) [0] rfl (cwS 2 hts (gzS wl436 wl437 wl118 wl438) rfl rfl rfl ⟨rfl, hdL_unlike⟩ ⟨Nat.le_of_ble_eq_true rfl, Nat.le_of_ble_eq_true rfl⟩) [] rfl hl.1 rfl (Nat.le_of_ble_eq_true rfl) dL_again_112 ⟨Nat.le_of_ble_eq_true rfl, Nat.le_of_ble_eq_true rfl⟩ ?_
    obtain ⟨e1, e2, e3, e4, e5⟩ := am_ret5 h
    subst e2
    subst e3
    subst e4
    subst e5
    replace hP := vP_tl hP
    replace hD := vD_tl hD
    exact hret _ _ _ _ _ _ dL_again_115 rfl e1 rfl hP hD hS
  refine am_loop3_s (fun (x12 : Int32) (f13 : Nat → Int32) (f14 : Nat → Int64) => ∀ (ls : Array Slot), lv_has ls 7 [(0, .ref bg), (1, .ref bw), (2, .ref bq), (3, .ref bc), (4, .ref zq2), (5, .int x1), (6, .int x12)] → ∀ (H : Heap) (locs : List Loc), va_P D vwCl [(zq2, .inl (cI, 12, .inl f3)), (bg, .inl (cI, 8, .inl f2)), (bw, .inl (cI, 12, .inl f13)), (bq, .inl (cI, 60, .inl yq)), (bc, .inl (cJ, 60, .inr (.inl f14)))] H → va_D A [(zq2, .inl (cI, 12, .inl f3)), (bg, .inl (cI, 8, .inl f2)), (bw, .inl (cI, 12, .inl f13)), (bq, .inl (cI, 60, .inl yq)), (bc, .inl (cJ, 60, .inr (.inl f14)))] → va_S A s.heap H locs → W p l e rmL_again s m args below meth c H locs 1 12 Q (F0 m 25 ls [])) (fun rec15 ihrec15 x12 f13 f14 h ls hl H locs hP hD hS => ?_) _ _ _ _ h ls (lv_sub hl [3, 4, 5, 6, 2, 1, 0] rfl) H locs hP hD hS
  unfold F_L_again_B25 at h
  refine lv_iload (pc := 25) hx hb dL_again_25 (lv_at hl 6 rfl) ?_
  refine lv_aload_n (pc := 27) hx hb dL_again_27 rfl (lv_at hl 0 rfl) ?_
  refine lv_iconst (v := 0) (pc := 28) hx hb dL_again_28 (by decide) ?_
  refine va_iald (pc := 29) hx hb hK.1 hP 1 0 rfl rfl (vp_in_nI (n := 0) (N := 8) (by decide) (by decide)) dL_again_29 ?_
  refine lv_icmp_ge (pc := 30) (tgt := 74) hx hb dL_again_30 (by decide) (fun cc => ?_) (fun cc => ?_)
  · replace h := am_t cc h
    exact hK6 _ _ h ls (lv_sub hl [0, 2, 4, 5] rfl) H locs hP hD hS
  replace h := am_f cc h
  refine lv_aload_n (pc := 33) hx hb dL_again_33 rfl (lv_at hl 3 rfl) ?_
  refine lv_iload (pc := 34) hx hb dL_again_34 (lv_at hl 5 rfl) ?_
  refine lv_iload (pc := 36) hx hb dL_again_36 (lv_at hl 6 rfl) ?_
  refine lv_aload_n (pc := 38) hx hb dL_again_38 rfl (lv_at hl 3 rfl) ?_
  refine lv_iload (pc := 39) hx hb dL_again_39 (lv_at hl 5 rfl) ?_
  refine lv_iconst (v := 1) (pc := 41) hx hb dL_again_41 (by decide) ?_
  refine lv_isub (pc := 42) hx hb dL_again_42 ?_
  refine lv_aload (pc := 43) hx hb dL_again_43 (lv_at hl 4 rfl) ?_
  refine lv_iload (pc := 45) hx hb dL_again_45 (lv_at hl 6 rfl) ?_
  obtain ⟨hi, h⟩ := am_in_s h
  refine va_iald (pc := 47) hx hb hK.1 hP 0 0 rfl rfl hi dL_again_47 ?_
  obtain ⟨r16, hc16, h⟩ := am_bind_s h
  refine kc_Si (pc := 48) ⟨hx, hb, hml, hown, hts⟩ hP hK [.ref bc, .int (x1 - (1 : Int32)), .int (f3 x12.toNatClampNeg)] (c_L_of l D cI cJ bc f14 (x1 - (1 : Int32)) (f3 x12.toNatClampNeg) r16 hc16) [4] rfl (cwS 3 hts (gzS wl135 wl136 wl118 wl137) rfl rfl rfl ⟨rfl, hdL_of⟩ ⟨Nat.le_of_ble_eq_true rfl, Nat.le_of_ble_eq_true rfl⟩) [.int x12, .int x1, .ref bc] rfl hl.1 rfl (Nat.le_of_ble_eq_true rfl) dL_again_48 ⟨Nat.le_of_ble_eq_true rfl, Nat.le_of_ble_eq_true rfl⟩ ?_
  refine lv_sipush (v := 256) (pc := 51) hx hb dL_again_51 (by decide) ?_
  refine lv_irem (pc := 54) hx hb dL_again_54 (by decide) ?_
  refine lv_aload (pc := 55) hx hb dL_again_55 (lv_at hl 4 rfl) ?_
  refine lv_iload (pc := 57) hx hb dL_again_57 (lv_at hl 6 rfl) ?_
  obtain ⟨hi, h⟩ := am_in_s h
  refine va_iald (pc := 59) hx hb hK.1 hP 0 0 rfl rfl hi dL_again_59 ?_
  obtain ⟨f17, hc17, h⟩ := am_bind_s h
  refine kc_SWv (pc := 60) ⟨hx, hb, hml, hown, hts⟩ hP hK hD hS hA [.ref bc, .int x1, .int x12, .int (r16 - r16 / (256 : Int32) * (256 : Int32)), .int (f3 x12.toNatClampNeg)] (c_L_put l D cI cJ bc f14 x1 x12 (r16 - r16 / (256 : Int32) * (256 : Int32)) (f3 x12.toNatClampNeg) f17 hc17 _) [4] rfl rfl rfl (cwS 5 hts (gzS wl120 wl121 wl118 wl122) rfl rfl rfl ⟨rfl, hdL_put⟩ ⟨Nat.le_of_ble_eq_true rfl, Nat.le_of_ble_eq_true rfl⟩) [] rfl hl.1 rfl (Nat.le_of_ble_eq_true rfl) dL_again_60 ⟨Nat.le_of_ble_eq_true rfl, Nat.le_of_ble_eq_true rfl⟩ (fun H locs hP hD hS => ?_)
  replace hP : va_P D vwCl [(zq2, .inl (cI, 12, .inl f3)), (bg, .inl (cI, 8, .inl f2)), (bw, .inl (cI, 12, .inl f13)), (bq, .inl (cI, 60, .inl yq)), (bc, .inl (cJ, 60, .inr (.inl f17)))] H := hP
  replace hD : va_D A [(zq2, .inl (cI, 12, .inl f3)), (bg, .inl (cI, 8, .inl f2)), (bw, .inl (cI, 12, .inl f13)), (bq, .inl (cI, 60, .inl yq)), (bc, .inl (cJ, 60, .inr (.inl f17)))] := hD
  refine lv_aload_n (pc := 63) hx hb dL_again_63 rfl (lv_at hl 1 rfl) ?_
  refine lv_iload (pc := 64) hx hb dL_again_64 (lv_at hl 6 rfl) ?_
  refine lv_iconst (v := 1) (pc := 66) hx hb dL_again_66 (by decide) ?_
  obtain ⟨hi, h⟩ := am_in_s h
  obtain ⟨f18, ef18⟩ : ∃ y : Nat → Int32, y = (upd f13 x12.toNatClampNeg (1 : Int32)) := ⟨_, rfl⟩
  replace h := am_let_s ef18 h
  refine va_iast (pc := 67) hx hb hK.1 hP hD hS 2 0 rfl rfl hi dL_again_67 (fun H locs hP hD hS => ?_)
  rw [← ef18] at hP hD
  replace hP : va_P D vwCl [(zq2, .inl (cI, 12, .inl f3)), (bg, .inl (cI, 8, .inl f2)), (bw, .inl (cI, 12, .inl f18)), (bq, .inl (cI, 60, .inl yq)), (bc, .inl (cJ, 60, .inr (.inl f17)))] H := hP
  replace hD : va_D A [(zq2, .inl (cI, 12, .inl f3)), (bg, .inl (cI, 8, .inl f2)), (bw, .inl (cI, 12, .inl f18)), (bq, .inl (cI, 60, .inl yq)), (bc, .inl (cJ, 60, .inr (.inl f17)))] := hD
  obtain ⟨x19, ex19⟩ : ∃ y : Int32, y = (x12 + (1 : Int32)) := ⟨_, rfl⟩
  replace h := am_let_s ex19 h
  refine lv_iinc (pc := 68) (v := x19) (lv' := [(6, .int x19), (0, .ref bg), (1, .ref bw), (2, .ref bq), (3, .ref bc), (4, .ref zq2), (5, .int x1)]) hx hb dL_again_68 hl (k := 6) rfl (by rw [ex19]; rfl) (by decide) rfl (fun ls hl => ?_)
  refine lv_goto (pc := 71) (tgt := 25) hx hb dL_again_71 (by decide) ?_
  exact ihrec15 _ _ _ h ls (lv_sub hl [1, 2, 3, 4, 5, 6, 0] rfl) H locs hP hD hS
