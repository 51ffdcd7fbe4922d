-- contracts, printed by wip/p23/gen23.py
theorem am_out_0_4 {x : Int32} (n0 : ¬ x = (0 : Int32)) (n1 : ¬ x = (1 : Int32)) (n2 : ¬ x = (2 : Int32)) (n3 : ¬ x = (3 : Int32)) (n4 : ¬ x = (4 : Int32)) : x.toInt < 0 ∨ 4 < x.toInt := by
  have e : ∀ v : Int32, ¬ x = v → x.toInt ≠ v.toInt := fun v hv h => hv (Int32.toInt_inj.mp h)
  have m0 := e _ n0
  have m1 := e _ n1
  have m2 := e _ n2
  have m3 := e _ n3
  have m4 := e _ n4
  rw [show (0 : Int32).toInt = 0 from rfl] at m0
  rw [show (1 : Int32).toInt = 1 from rfl] at m1
  rw [show (2 : Int32).toInt = 2 from rfl] at m2
  rw [show (3 : Int32).toInt = 3 from rfl] at m3
  rw [show (4 : Int32).toInt = 4 from rfl] at m4
  omega
theorem am_out_0_5 {x : Int32} (n0 : ¬ x = (0 : Int32)) (n1 : ¬ x = (1 : Int32)) (n2 : ¬ x = (2 : Int32)) (n3 : ¬ x = (3 : Int32)) (n4 : ¬ x = (4 : Int32)) (n5 : ¬ x = (5 : Int32)) : x.toInt < 0 ∨ 5 < x.toInt := by
  have e : ∀ v : Int32, ¬ x = v → x.toInt ≠ v.toInt := fun v hv h => hv (Int32.toInt_inj.mp h)
  have m0 := e _ n0
  have m1 := e _ n1
  have m2 := e _ n2
  have m3 := e _ n3
  have m4 := e _ n4
  have m5 := e _ n5
  rw [show (0 : Int32).toInt = 0 from rfl] at m0
  rw [show (1 : Int32).toInt = 1 from rfl] at m1
  rw [show (2 : Int32).toInt = 2 from rfl] at m2
  rw [show (3 : Int32).toInt = 3 from rfl] at m3
  rw [show (4 : Int32).toInt = 4 from rfl] at m4
  rw [show (5 : Int32).toInt = 5 from rfl] at m5
  omega
theorem am_out_0_22 {x : Int32} (n0 : ¬ x = (0 : Int32)) (n1 : ¬ x = (1 : Int32)) (n2 : ¬ x = (2 : Int32)) (n3 : ¬ x = (3 : Int32)) (n4 : ¬ x = (4 : Int32)) (n5 : ¬ x = (5 : Int32)) (n6 : ¬ x = (6 : Int32)) (n7 : ¬ x = (7 : Int32)) (n8 : ¬ x = (8 : Int32)) (n9 : ¬ x = (9 : Int32)) (n10 : ¬ x = (10 : Int32)) (n11 : ¬ x = (11 : Int32)) (n12 : ¬ x = (12 : Int32)) (n13 : ¬ x = (13 : Int32)) (n14 : ¬ x = (14 : Int32)) (n15 : ¬ x = (15 : Int32)) (n16 : ¬ x = (16 : Int32)) (n17 : ¬ x = (17 : Int32)) (n18 : ¬ x = (18 : Int32)) (n19 : ¬ x = (19 : Int32)) (n20 : ¬ x = (20 : Int32)) (n21 : ¬ x = (21 : Int32)) (n22 : ¬ x = (22 : Int32)) : x.toInt < 0 ∨ 22 < x.toInt := by
  have e : ∀ v : Int32, ¬ x = v → x.toInt ≠ v.toInt := fun v hv h => hv (Int32.toInt_inj.mp h)
  have m0 := e _ n0
  have m1 := e _ n1
  have m2 := e _ n2
  have m3 := e _ n3
  have m4 := e _ n4
  have m5 := e _ n5
  have m6 := e _ n6
  have m7 := e _ n7
  have m8 := e _ n8
  have m9 := e _ n9
  have m10 := e _ n10
  have m11 := e _ n11
  have m12 := e _ n12
  have m13 := e _ n13
  have m14 := e _ n14
  have m15 := e _ n15
  have m16 := e _ n16
  have m17 := e _ n17
  have m18 := e _ n18
  have m19 := e _ n19
  have m20 := e _ n20
  have m21 := e _ n21
  have m22 := e _ n22
  rw [show (0 : Int32).toInt = 0 from rfl] at m0
  rw [show (1 : Int32).toInt = 1 from rfl] at m1
  rw [show (2 : Int32).toInt = 2 from rfl] at m2
  rw [show (3 : Int32).toInt = 3 from rfl] at m3
  rw [show (4 : Int32).toInt = 4 from rfl] at m4
  rw [show (5 : Int32).toInt = 5 from rfl] at m5
  rw [show (6 : Int32).toInt = 6 from rfl] at m6
  rw [show (7 : Int32).toInt = 7 from rfl] at m7
  rw [show (8 : Int32).toInt = 8 from rfl] at m8
  rw [show (9 : Int32).toInt = 9 from rfl] at m9
  rw [show (10 : Int32).toInt = 10 from rfl] at m10
  rw [show (11 : Int32).toInt = 11 from rfl] at m11
  rw [show (12 : Int32).toInt = 12 from rfl] at m12
  rw [show (13 : Int32).toInt = 13 from rfl] at m13
  rw [show (14 : Int32).toInt = 14 from rfl] at m14
  rw [show (15 : Int32).toInt = 15 from rfl] at m15
  rw [show (16 : Int32).toInt = 16 from rfl] at m16
  rw [show (17 : Int32).toInt = 17 from rfl] at m17
  rw [show (18 : Int32).toInt = 18 from rfl] at m18
  rw [show (19 : Int32).toInt = 19 from rfl] at m19
  rw [show (20 : Int32).toInt = 20 from rfl] at m20
  rw [show (21 : Int32).toInt = 21 from rfl] at m21
  rw [show (22 : Int32).toInt = 22 from rfl] at m22
  omega
theorem am_look_X4_greatestSetting_1 {x : Int32} (n0 : ¬ x = (0 : Int32)) (n1 : ¬ x = (1 : Int32)) : Op.lookupswitch.offset (#[(0, 27), (1, 30)] : Array (Int × Int)).toList (32) x.toInt = (32) := by
  have e : ∀ v : Int32, ¬ x = v → x.toInt ≠ v.toInt := fun v hv h => hv (Int32.toInt_inj.mp h)
  have m0 := e _ n0
  have m1 := e _ n1
  rw [show (0 : Int32).toInt = 0 from rfl] at m0
  rw [show (1 : Int32).toInt = 1 from rfl] at m1
  simp [Op.lookupswitch.offset, List.find?, Ne.symm, m0, m1]
theorem hdX6_noiseBehind : yX6_noiseBehind.cls ≠ "java/lang/invoke/MethodHandle" ∧ yX6_noiseBehind.cls ≠ "java/lang/invoke/VarHandle" ∧ (parseMethodDescriptor yX6_noiseBehind.desc).map (fun d => d.parameters.length) = some 1 := by decide +kernel
abbrev rmX6_noiseBehind : Room := { frames := 0, cells := 0, slots := 0, locals := 0 }
set_option maxHeartbeats 20000000 in
set_option maxRecDepth 100000 in
theorem c_X6_noiseBehind (l : Launch) (D : va_G) (cI cJ : ClassId)   (p0 : Int32) (r0 : Int32) (hF : F_X6_noiseBehind p0 = some r0) : Met l yX6_noiseBehind (wz yX6_noiseBehind cX6_noiseBehind 1 (some .int)) rmX6_noiseBehind (kPc D cI cJ [] [.int p0]) (vp_Si (fun r => r = r0)) 0 0 (fun _ => False) := by
  refine kM_ri cX6_noiseBehind 1 .int (by decide +kernel) rfl rfl (Nat.le_of_ble_eq_true rfl) ⟨rfl, rfl⟩ ?_
  intro p e s m args below meth c Q ls hx hb hml hown hts hP hK hl hret
  have hk361 := hts _ (List.mem_cons_of_mem _ wl361)
  replace hl : lv_has ls 1 [(0, .int p0)] := hl
  have h := hF
  unfold F_X6_noiseBehind at h
  refine lv_iload_n (pc := 0) hx hb dX6_noiseBehind_0 rfl (lv_at hl 0 rfl) ?_
  refine lv_bipush (v := 75) (pc := 1) hx hb dX6_noiseBehind_1 (by decide) ?_
  refine lv_imul (pc := 3) hx hb dX6_noiseBehind_3 ?_
  refine lv_bipush (v := 74) (pc := 4) hx hb dX6_noiseBehind_4 (by decide) ?_
  refine lv_iadd (pc := 6) hx hb dX6_noiseBehind_6 ?_
  refine lv_ldc (pc := 7) hx hb hown hk361 dX6_noiseBehind_7 ?_
  refine lv_irem (pc := 9) hx hb dX6_noiseBehind_9 (by decide) ?_
  obtain e1 := am_ret1 h
  exact hret _ _ _ dX6_noiseBehind_10 rfl e1
theorem hdX6_nearestPlace : yX6_nearestPlace.cls ≠ "java/lang/invoke/MethodHandle" ∧ yX6_nearestPlace.cls ≠ "java/lang/invoke/VarHandle" ∧ (parseMethodDescriptor yX6_nearestPlace.desc).map (fun d => d.parameters.length) = some 1 := by decide +kernel
abbrev rmX6_nearestPlace : Room := { frames := 1, cells := 0, slots := 0, locals := 14 }
set_option maxHeartbeats 20000000 in
set_option maxRecDepth 100000 in
theorem c_X6_nearestPlace (l : Launch) (D : va_G) (cI cJ : ClassId)   (p0 : Int32) (r0 : Int32) (hF : F_X6_nearestPlace p0 = some r0) : Met l yX6_nearestPlace (wz yX6_nearestPlace cX6_nearestPlace 1 (some .int)) rmX6_nearestPlace (kPc D cI cJ [] [.int p0]) (vp_Si (fun r => r = r0)) 0 0 (fun _ => False) := by
  refine kM_ri cX6_nearestPlace 1 .int (by decide +kernel) rfl rfl (Nat.le_of_ble_eq_true rfl) ⟨rfl, rfl⟩ ?_
  intro p e s m args below meth c Q ls hx hb hml hown hts hP hK hl hret
  have hk101 := hts _ (List.mem_cons_of_mem _ wl101)
  have hk102 := hts _ (List.mem_cons_of_mem _ wl102)
  have hk103 := hts _ (List.mem_cons_of_mem _ wl103)
  have hk104 := hts _ (List.mem_cons_of_mem _ wl104)
  have hk72 := hts _ (List.mem_cons_of_mem _ wl72)
  have hk73 := hts _ (List.mem_cons_of_mem _ wl73)
  have hk74 := hts _ (List.mem_cons_of_mem _ wl74)
  replace hl : lv_has ls 1 [(0, .int p0)] := hl
  have h := hF
  unfold F_X6_nearestPlace at h
  refine lv_iconst (v := 0) (pc := 0) hx hb dX6_nearestPlace_0 (by decide) ?_
  refine lv_bipush (v := 99) (pc := 1) hx hb dX6_nearestPlace_1 (by decide) ?_
  refine lv_iload_n (pc := 3) hx hb dX6_nearestPlace_3 rfl (lv_at hl 0 rfl) ?_
  refine va_mmin hx hb (hml.trans hl.1.symm) (pc := 4) hown hk101 hk102 hk73 hk103 (Nat.le_of_ble_eq_true rfl) (Nat.le_of_ble_eq_true rfl) (Nat.zero_le _) (Nat.zero_le _) dX6_nearestPlace_4 ?_
  refine lv_topi (fun x1 ex1 => ?_)
  replace h := am_let_s ex1 h
  refine va_mmax hx hb (hml.trans hl.1.symm) (pc := 7) hown hk104 hk72 hk73 hk74 (Nat.le_of_ble_eq_true rfl) (Nat.le_of_ble_eq_true rfl) (Nat.zero_le _) (Nat.zero_le _) dX6_nearestPlace_7 ?_
  refine lv_topi (fun x2 ex2 => ?_)
  replace h := am_let_s ex2 h
  obtain e1 := am_ret1 h
  exact hret _ _ _ dX6_nearestPlace_10 rfl e1
theorem hdJ6_bitCount_0f7a4 : yJ6_bitCount_0f7a4.cls ≠ "java/lang/invoke/MethodHandle" ∧ yJ6_bitCount_0f7a4.cls ≠ "java/lang/invoke/VarHandle" ∧ (parseMethodDescriptor yJ6_bitCount_0f7a4.desc).map (fun d => d.parameters.length) = some 1 := by decide +kernel
abbrev rmJ6_bitCount_0f7a4 : Room := { frames := 0, cells := 0, slots := 0, locals := 0 }
set_option maxHeartbeats 20000000 in
set_option maxRecDepth 100000 in
theorem c_J6_bitCount_0f7a4 (l : Launch) (D : va_G) (cI cJ : ClassId)   (p0 : Int32) (r0 : Int32) (hF : F_J6_bitCount_0f7a4 p0 = some r0) : Met l yJ6_bitCount_0f7a4 (wz yJ6_bitCount_0f7a4 cJ6_bitCount_0f7a4 1 (some .int)) rmJ6_bitCount_0f7a4 (kPc D cI cJ [] [.int p0]) (vp_Si (fun r => r = r0)) 0 0 (fun _ => False) := by
  refine kM_ri cJ6_bitCount_0f7a4 1 .int (by decide +kernel) rfl rfl (Nat.le_of_ble_eq_true rfl) ⟨rfl, rfl⟩ ?_
  intro p e s m args below meth c Q ls hx hb hml hown hts hP hK hl hret
  have hk277 := hts _ (List.mem_cons_of_mem _ wl277)
  have hk278 := hts _ (List.mem_cons_of_mem _ wl278)
  have hk279 := hts _ (List.mem_cons_of_mem _ wl279)
  replace hl : lv_has ls 1 [(0, .int p0)] := hl
  have h := hF
  unfold F_J6_bitCount_0f7a4 at h
  refine lv_iload_n (pc := 0) hx hb dJ6_bitCount_0f7a4_0 rfl (lv_at hl 0 rfl) ?_
  refine lv_iload_n (pc := 1) hx hb dJ6_bitCount_0f7a4_1 rfl (lv_at hl 0 rfl) ?_
  refine lv_iconst (v := 1) (pc := 2) hx hb dJ6_bitCount_0f7a4_2 (by decide) ?_
  refine lv_iushr (pc := 3) hx hb dJ6_bitCount_0f7a4_3 rfl ?_
  refine lv_ldcw (pc := 4) hx hb hown hk277 dJ6_bitCount_0f7a4_4 ?_
  refine lv_iand (pc := 7) hx hb dJ6_bitCount_0f7a4_7 ?_
  refine lv_isub (pc := 8) hx hb dJ6_bitCount_0f7a4_8 ?_
  refine lv_topi (fun x1 ex1 => ?_)
  replace h := am_let_s ex1 h
  refine lv_istore_n (lv' := [(0, .int x1)]) (pc := 9) hx hb dJ6_bitCount_0f7a4_9 rfl hl (by decide) rfl (fun ls hl => ?_)
  refine lv_iload_n (pc := 10) hx hb dJ6_bitCount_0f7a4_10 rfl (lv_at hl 0 rfl) ?_
  refine lv_ldcw (pc := 11) hx hb hown hk278 dJ6_bitCount_0f7a4_11 ?_
  refine lv_iand (pc := 14) hx hb dJ6_bitCount_0f7a4_14 ?_
  refine lv_iload_n (pc := 15) hx hb dJ6_bitCount_0f7a4_15 rfl (lv_at hl 0 rfl) ?_
  refine lv_iconst (v := 2) (pc := 16) hx hb dJ6_bitCount_0f7a4_16 (by decide) ?_
  refine lv_iushr (pc := 17) hx hb dJ6_bitCount_0f7a4_17 rfl ?_
  refine lv_ldcw (pc := 18) hx hb hown hk278 dJ6_bitCount_0f7a4_18 ?_
  refine lv_iand (pc := 21) hx hb dJ6_bitCount_0f7a4_21 ?_
  refine lv_iadd (pc := 22) hx hb dJ6_bitCount_0f7a4_22 ?_
  refine lv_topi (fun x2 ex2 => ?_)
  replace h := am_let_s ex2 h
  refine lv_istore_n (lv' := [(0, .int x2)]) (pc := 23) hx hb dJ6_bitCount_0f7a4_23 rfl hl (by decide) rfl (fun ls hl => ?_)
  refine lv_iload_n (pc := 24) hx hb dJ6_bitCount_0f7a4_24 rfl (lv_at hl 0 rfl) ?_
  refine lv_iload_n (pc := 25) hx hb dJ6_bitCount_0f7a4_25 rfl (lv_at hl 0 rfl) ?_
  refine lv_iconst (v := 4) (pc := 26) hx hb dJ6_bitCount_0f7a4_26 (by decide) ?_
  refine lv_iushr (pc := 27) hx hb dJ6_bitCount_0f7a4_27 rfl ?_
  refine lv_iadd (pc := 28) hx hb dJ6_bitCount_0f7a4_28 ?_
  refine lv_ldcw (pc := 29) hx hb hown hk279 dJ6_bitCount_0f7a4_29 ?_
  refine lv_iand (pc := 32) hx hb dJ6_bitCount_0f7a4_32 ?_
  refine lv_topi (fun x3 ex3 => ?_)
  replace h := am_let_s ex3 h
  refine lv_istore_n (lv' := [(0, .int x3)]) (pc := 33) hx hb dJ6_bitCount_0f7a4_33 rfl hl (by decide) rfl (fun ls hl => ?_)
  refine lv_iload_n (pc := 34) hx hb dJ6_bitCount_0f7a4_34 rfl (lv_at hl 0 rfl) ?_
  refine lv_iload_n (pc := 35) hx hb dJ6_bitCount_0f7a4_35 rfl (lv_at hl 0 rfl) ?_
  refine lv_bipush (v := 8) (pc := 36) hx hb dJ6_bitCount_0f7a4_36 (by decide) ?_
  refine lv_iushr (pc := 38) hx hb dJ6_bitCount_0f7a4_38 rfl ?_
  refine lv_iadd (pc := 39) hx hb dJ6_bitCount_0f7a4_39 ?_
  refine lv_topi (fun x4 ex4 => ?_)
  replace h := am_let_s ex4 h
  refine lv_istore_n (lv' := [(0, .int x4)]) (pc := 40) hx hb dJ6_bitCount_0f7a4_40 rfl hl (by decide) rfl (fun ls hl => ?_)
  refine lv_iload_n (pc := 41) hx hb dJ6_bitCount_0f7a4_41 rfl (lv_at hl 0 rfl) ?_
  refine lv_iload_n (pc := 42) hx hb dJ6_bitCount_0f7a4_42 rfl (lv_at hl 0 rfl) ?_
  refine lv_bipush (v := 16) (pc := 43) hx hb dJ6_bitCount_0f7a4_43 (by decide) ?_
  refine lv_iushr (pc := 45) hx hb dJ6_bitCount_0f7a4_45 rfl ?_
  refine lv_iadd (pc := 46) hx hb dJ6_bitCount_0f7a4_46 ?_
  refine lv_topi (fun x5 ex5 => ?_)
  replace h := am_let_s ex5 h
  refine lv_istore_n (lv' := [(0, .int x5)]) (pc := 47) hx hb dJ6_bitCount_0f7a4_47 rfl hl (by decide) rfl (fun ls hl => ?_)
  refine lv_iload_n (pc := 48) hx hb dJ6_bitCount_0f7a4_48 rfl (lv_at hl 0 rfl) ?_
  refine lv_bipush (v := 63) (pc := 49) hx hb dJ6_bitCount_0f7a4_49 (by decide) ?_
  refine lv_iand (pc := 51) hx hb dJ6_bitCount_0f7a4_51 ?_
  obtain e1 := am_ret1 h
  exact hret _ _ _ dJ6_bitCount_0f7a4_52 rfl e1
theorem hdX6_isWithin : yX6_isWithin.cls ≠ "java/lang/invoke/MethodHandle" ∧ yX6_isWithin.cls ≠ "java/lang/invoke/VarHandle" ∧ (parseMethodDescriptor yX6_isWithin.desc).map (fun d => d.parameters.length) = some 3 := by decide +kernel
abbrev rmX6_isWithin : Room := { frames := 0, cells := 0, slots := 0, locals := 0 }
set_option maxHeartbeats 20000000 in
set_option maxRecDepth 100000 in
theorem c_X6_isWithin (l : Launch) (D : va_G) (cI cJ : ClassId)   (p0 : Int32) (p1 : Int32) (p2 : Int32) (r0 : Int32) (hF : F_X6_isWithin p0 p1 p2 = some r0) : Met l yX6_isWithin (wz yX6_isWithin cX6_isWithin 3 (some .boolean)) rmX6_isWithin (kPc D cI cJ [] [.int p0, .int p1, .int p2]) (vp_Si (fun r => r = r0)) 0 0 (fun _ => False) := by
  refine kM_ri cX6_isWithin 3 .boolean (by decide +kernel) rfl rfl (Nat.le_of_ble_eq_true rfl) ⟨rfl, rfl⟩ ?_
  intro p e s m args below meth c Q ls hx hb hml hown hts hP hK hl hret
  replace hl : lv_has ls 3 [(0, .int p0), (1, .int p1), (2, .int p2)] := hl
  have h := hF
  unfold F_X6_isWithin at h
  refine lv_iload_n (pc := 0) hx hb dX6_isWithin_0 rfl (lv_at hl 0 rfl) ?_
  refine lv_iload_n (pc := 1) hx hb dX6_isWithin_1 rfl (lv_at hl 1 rfl) ?_
  refine lv_icmp_lt (pc := 2) (tgt := 14) hx hb dX6_isWithin_2 (by decide) (fun cc => ?_) (fun cc => ?_)
  · replace h := am_t cc h
    refine lv_iconst (v := 0) (pc := 14) hx hb dX6_isWithin_14 (by decide) ?_
    obtain e1 := am_ret1 h
    exact hret _ _ _ dX6_isWithin_15 rfl e1
  replace h := am_f cc h
  refine lv_iload_n (pc := 5) hx hb dX6_isWithin_5 rfl (lv_at hl 0 rfl) ?_
  refine lv_iload_n (pc := 6) hx hb dX6_isWithin_6 rfl (lv_at hl 2 rfl) ?_
  refine lv_icmp_gt (pc := 7) (tgt := 14) hx hb dX6_isWithin_7 (by decide) (fun cc => ?_) (fun cc => ?_)
  · replace h := am_t cc h
    refine lv_iconst (v := 0) (pc := 14) hx hb dX6_isWithin_14 (by decide) ?_
    obtain e1 := am_ret1 h
    exact hret _ _ _ dX6_isWithin_15 rfl e1
  replace h := am_f cc h
  refine lv_iconst (v := 1) (pc := 10) hx hb dX6_isWithin_10 (by decide) ?_
  refine lv_goto (pc := 11) (tgt := 15) hx hb dX6_isWithin_11 (by decide) ?_
  obtain e1 := am_ret1 h
  exact hret _ _ _ dX6_isWithin_15 rfl e1
theorem hdX6_commonDivisor : yX6_commonDivisor.cls ≠ "java/lang/invoke/MethodHandle" ∧ yX6_commonDivisor.cls ≠ "java/lang/invoke/VarHandle" ∧ (parseMethodDescriptor yX6_commonDivisor.desc).map (fun d => d.parameters.length) = some 2 := by decide +kernel
abbrev rmX6_commonDivisor : Room := { frames := 0, cells := 0, slots := 0, locals := 0 }
set_option maxHeartbeats 20000000 in
set_option maxRecDepth 100000 in
theorem c_X6_commonDivisor (l : Launch) (D : va_G) (cI cJ : ClassId)   (p0 : Int64) (p1 : Int64) (r0 : Int64) (hF : F_X6_commonDivisor p0 p1 = some r0) : Met l yX6_commonDivisor (wz yX6_commonDivisor cX6_commonDivisor 11 (some .long)) rmX6_commonDivisor (kPc D cI cJ [] [.long p0, .long p1]) (vp_Sl (fun r => r = r0)) 0 0 (fun _ => False) := by
  refine kM_rl cX6_commonDivisor 11 (by decide +kernel) rfl rfl (Nat.le_of_ble_eq_true rfl) ⟨rfl, rfl⟩ ?_
  intro p e s m args below meth c Q ls hx hb hml hown hts hP hK hl hret
  replace hl : lv_has ls 11 [(0, .long p0), (2, .long p1)] := hl
  have h := hF
  unfold F_X6_commonDivisor at h
  refine lv_lload_n (pc := 0) hx hb dX6_commonDivisor_0 rfl (lv_at hl 0 rfl) ?_
  refine lv_lstore (lv' := [(4, .long p0), (0, .long p0), (2, .long p1)]) (pc := 1) hx hb dX6_commonDivisor_1 hl (by decide) rfl (fun ls hl => ?_)
  refine lv_lload_n (pc := 3) hx hb dX6_commonDivisor_3 rfl (lv_at hl 2 rfl) ?_
  refine lv_lstore (lv' := [(6, .long p1), (4, .long p0), (0, .long p0), (2, .long p1)]) (pc := 4) hx hb dX6_commonDivisor_4 hl (by decide) rfl (fun ls hl => ?_)
  refine lv_iconst (v := 0) (pc := 6) hx hb dX6_commonDivisor_6 (by decide) ?_
  refine lv_istore (lv' := [(8, .int (0 : Int32)), (6, .long p1), (4, .long p0), (0, .long p0), (2, .long p1)]) (pc := 7) hx hb dX6_commonDivisor_7 hl (by decide) rfl (fun ls hl => ?_)
  refine am_join1_s (fun (x1 : Int64) => ∀ (ls : Array Slot), lv_has ls 11 [(4, .long x1)] → W p l e rmX6_commonDivisor s m args below meth c s.heap [] 0 0 Q (F0 m 45 ls [])) h (fun x1 h ls hl => ?_) (fun K2 hK2 h => ?_)
  · refine lv_lload (pc := 45) hx hb dX6_commonDivisor_45 (lv_at hl 0 rfl) ?_
    obtain e1 := am_ret1 h
    exact hret _ _ _ dX6_commonDivisor_47 e1
  refine am_loop3_s (fun (x3 : Int64) (x4 : Int64) (x5 : Int32) => ∀ (ls : Array Slot), lv_has ls 11 [(4, .long x3), (6, .long x4), (8, .int x5)] → W p l e rmX6_commonDivisor s m args below meth c s.heap [] 0 0 Q (F0 m 9 ls [])) (fun rec6 ihrec6 x3 x4 x5 h ls hl => ?_) _ _ _ _ h ls (lv_sub hl [2, 1, 0] rfl)
  unfold F_X6_commonDivisor_B9 at h
  refine lv_iload (pc := 9) hx hb dX6_commonDivisor_9 (lv_at hl 2 rfl) ?_
  refine lv_sipush (v := 200) (pc := 11) hx hb dX6_commonDivisor_11 (by decide) ?_
  refine lv_icmp_ge (pc := 14) (tgt := 45) hx hb dX6_commonDivisor_14 (by decide) (fun cc => ?_) (fun cc => ?_)
  · replace h := am_t cc h
    exact hK2 _ h ls (lv_sub hl [0] rfl)
  replace h := am_f cc h
  refine lv_lload (pc := 17) hx hb dX6_commonDivisor_17 (lv_at hl 1 rfl) ?_
  refine lv_lconst (v := 0) (pc := 19) hx hb dX6_commonDivisor_19 rfl ?_
  refine W.lcmp (pc := 20) hx hb dX6_commonDivisor_20 ?_
  refine lv_if_le (pc := 21) (tgt := 45) hx hb dX6_commonDivisor_21 (by decide) (fun cc => ?_) (fun cc => ?_)
  · replace h := am_t cc h
    exact hK2 _ h ls (lv_sub hl [0] rfl)
  replace h := am_f cc h
  refine lv_lload (pc := 24) hx hb dX6_commonDivisor_24 (lv_at hl 0 rfl) ?_
  refine lv_lload (pc := 26) hx hb dX6_commonDivisor_26 (lv_at hl 1 rfl) ?_
  obtain ⟨hz, h⟩ := am_nzl_s h
  refine lv_lrem (pc := 28) hx hb dX6_commonDivisor_28 hz ?_
  refine lv_topl (fun x7 ex7 => ?_)
  replace h := am_let_s ex7 h
  refine lv_lstore (lv' := [(9, .long x7), (4, .long x3), (6, .long x4), (8, .int x5)]) (pc := 29) hx hb dX6_commonDivisor_29 hl (by decide) rfl (fun ls hl => ?_)
  refine lv_lload (pc := 31) hx hb dX6_commonDivisor_31 (lv_at hl 2 rfl) ?_
  refine lv_lstore (lv' := [(4, .long x4), (9, .long x7), (6, .long x4), (8, .int x5)]) (pc := 33) hx hb dX6_commonDivisor_33 hl (by decide) rfl (fun ls hl => ?_)
  refine lv_lload (pc := 35) hx hb dX6_commonDivisor_35 (lv_at hl 1 rfl) ?_
  refine lv_lstore (lv' := [(6, .long x7), (4, .long x4), (9, .long x7), (8, .int x5)]) (pc := 37) hx hb dX6_commonDivisor_37 hl (by decide) rfl (fun ls hl => ?_)
  obtain ⟨x8, ex8⟩ : ∃ y : Int32, y = (x5 + (1 : Int32)) := ⟨_, rfl⟩
  replace h := am_let_s ex8 h
  refine lv_iinc (pc := 39) (v := x8) (lv' := [(8, .int x8), (6, .long x7), (4, .long x4), (9, .long x7)]) hx hb dX6_commonDivisor_39 hl (k := 3) rfl (by rw [ex8]; rfl) (by decide) rfl (fun ls hl => ?_)
  refine lv_goto (pc := 42) (tgt := 9) hx hb dX6_commonDivisor_42 (by decide) ?_
  exact ihrec6 _ _ _ h ls (lv_sub hl [2, 1, 0] rfl)
theorem hdX6_partInLowestTerms : yX6_partInLowestTerms.cls ≠ "java/lang/invoke/MethodHandle" ∧ yX6_partInLowestTerms.cls ≠ "java/lang/invoke/VarHandle" ∧ (parseMethodDescriptor yX6_partInLowestTerms.desc).map (fun d => d.parameters.length) = some 3 := by decide +kernel
abbrev rmX6_partInLowestTerms : Room := { frames := 1, cells := 0, slots := 0, locals := 30 }
set_option maxHeartbeats 20000000 in
set_option maxRecDepth 100000 in
theorem c_X6_partInLowestTerms (l : Launch) (D : va_G) (cI cJ : ClassId)   (p0 : Int64) (p1 : Int64) (p2 : Int32) (r0 : Int32) (hF : F_X6_partInLowestTerms p0 p1 p2 = some r0) : Met l yX6_partInLowestTerms (wz yX6_partInLowestTerms cX6_partInLowestTerms 7 (some .int)) rmX6_partInLowestTerms (kPc D cI cJ [] [.long p0, .long p1, .int p2]) (vp_Si (fun r => r = r0)) 0 0 (fun _ => False) := by
  refine kM_ri cX6_partInLowestTerms 7 .int (by decide +kernel) rfl rfl (Nat.le_of_ble_eq_true rfl) ⟨rfl, rfl⟩ ?_
  intro p e s m args below meth c Q ls hx hb hml hown hts hP hK hl hret
  replace hl : lv_has ls 7 [(0, .long p0), (2, .long p1), (4, .int p2)] := hl
  have h := hF
  unfold F_X6_partInLowestTerms at h
  refine lv_lload_n (pc := 0) hx hb dX6_partInLowestTerms_0 rfl (lv_at hl 0 rfl) ?_
  refine lv_lload_n (pc := 1) hx hb dX6_partInLowestTerms_1 rfl (lv_at hl 1 rfl) ?_
  obtain ⟨r1, hc1, h⟩ := am_bind_s h
  refine kc_Sl (pc := 2) ⟨hx, hb, hml, hown, hts⟩ hP hK [.long p0, .long p1] (c_X6_commonDivisor l D cI cJ p0 p1 r1 hc1) [] rfl (cwS 2 hts (gzS wl190 wl191 wl2 wl192) rfl rfl rfl ⟨rfl, hdX6_commonDivisor⟩ ⟨Nat.le_of_ble_eq_true rfl, Nat.le_of_ble_eq_true rfl⟩) [] rfl hl.1 rfl (Nat.le_of_ble_eq_true rfl) dX6_partInLowestTerms_2 ⟨Nat.zero_le _, Nat.zero_le _⟩ ?_
  refine lv_lstore (lv' := [(5, .long r1), (0, .long p0), (2, .long p1), (4, .int p2)]) (pc := 5) hx hb dX6_partInLowestTerms_5 hl (by decide) rfl (fun ls hl => ?_)
  refine lv_lload (pc := 7) hx hb dX6_partInLowestTerms_7 (lv_at hl 0 rfl) ?_
  refine lv_lconst (v := 0) (pc := 9) hx hb dX6_partInLowestTerms_9 rfl ?_
  refine W.lcmp (pc := 10) hx hb dX6_partInLowestTerms_10 ?_
  refine lv_if_gt (pc := 11) (tgt := 16) hx hb dX6_partInLowestTerms_11 (by decide) (fun cc => ?_) (fun cc => ?_)
  · replace h := am_t cc h
    refine lv_iload (pc := 16) hx hb dX6_partInLowestTerms_16 (lv_at hl 3 rfl) ?_
    refine lv_if_ne (pc := 18) (tgt := 25) hx hb dX6_partInLowestTerms_18 (by decide) (fun cc => ?_) (fun cc => ?_)
    · replace h := am_f cc h
      refine lv_lload_n (pc := 25) hx hb dX6_partInLowestTerms_25 rfl (lv_at hl 2 rfl) ?_
      refine lv_lload (pc := 26) hx hb dX6_partInLowestTerms_26 (lv_at hl 0 rfl) ?_
      obtain ⟨hz, h⟩ := am_nzl_s h
      refine lv_ldiv (pc := 28) hx hb dX6_partInLowestTerms_28 hz ?_
      refine lv_l2i (pc := 29) hx hb dX6_partInLowestTerms_29 rfl ?_
      obtain e1 := am_ret1 h
      exact hret _ _ _ dX6_partInLowestTerms_30 rfl e1
    replace h := am_t cc h
    refine lv_lload_n (pc := 21) hx hb dX6_partInLowestTerms_21 rfl (lv_at hl 1 rfl) ?_
    refine lv_goto (pc := 22) (tgt := 26) hx hb dX6_partInLowestTerms_22 (by decide) ?_
    refine lv_lload (pc := 26) hx hb dX6_partInLowestTerms_26 (lv_at hl 0 rfl) ?_
    obtain ⟨hz, h⟩ := am_nzl_s h
    refine lv_ldiv (pc := 28) hx hb dX6_partInLowestTerms_28 hz ?_
    refine lv_l2i (pc := 29) hx hb dX6_partInLowestTerms_29 rfl ?_
    obtain e1 := am_ret1 h
    exact hret _ _ _ dX6_partInLowestTerms_30 rfl e1
  replace h := am_f cc h
  refine lv_iconst (v := 0) (pc := 14) hx hb dX6_partInLowestTerms_14 (by decide) ?_
  obtain e1 := am_ret1 h
  exact hret _ _ _ dX6_partInLowestTerms_15 rfl e1
