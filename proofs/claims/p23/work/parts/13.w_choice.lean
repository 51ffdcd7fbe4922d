-- contracts, printed by wip/p23/gen23.py
theorem hdX0_chosenFor : yX0_chosenFor.cls ≠ "java/lang/invoke/MethodHandle" ∧ yX0_chosenFor.cls ≠ "java/lang/invoke/VarHandle" ∧ (parseMethodDescriptor yX0_chosenFor.desc).map (fun d => d.parameters.length) = some 1 := by decide +kernel
abbrev rmX0_chosenFor : Room := { frames := 0, cells := 0, slots := 0, locals := 0 }
set_option maxHeartbeats 20000000 in
set_option maxRecDepth 100000 in
theorem c_X0_chosenFor (l : Launch) (D : va_G) (cI cJ : ClassId) (self : Nat) (a : Nat) (b : Nat) (noi : Int32) (anc : Nat → Int32) (rst : Nat → Int64) (p0 : Int32) (r0 : Int32) (hF : F_X0_chosenFor anc p0 = some r0) : Met l yX0_chosenFor (wz yX0_chosenFor cX0_chosenFor 2 (some .int)) rmX0_chosenFor (kPc D cI cJ [(self, .inr (0, [.ref a, .ref b, .int noi])), (a, .inl (cI, 12, .inl anc)), (b, .inl (cJ, 12, .inr (.inl rst)))] [.ref self, .int p0]) (vp_Si (fun r => r = r0)) 0 0 (fun _ => False) := by
  refine kM_ri cX0_chosenFor 2 .int (by decide +kernel) rfl rfl (Nat.le_of_ble_eq_true rfl) ⟨rfl, rfl⟩ ?_
  intro p e s m args below meth c Q ls hx hb hml hown hts hP hK hl hret
  have hk34 := hts _ (List.mem_cons_of_mem _ wl34)
  have hnX0 : ∀ w ∈ u_ws RX0 TX0 3, w ∈ wz yX0_chosenFor cX0_chosenFor 2 (some .int) := fun w h => List.mem_cons_of_mem _ (inlX0 w h)
  replace hl : lv_has ls 2 [(0, .ref self), (1, .int p0)] := hl
  have h := hF
  unfold F_X0_chosenFor at h
  refine lv_iload_n (pc := 0) hx hb dX0_chosenFor_0 rfl (lv_at hl 1 rfl) ?_
  refine lv_if_lt (pc := 1) (tgt := 13) hx hb dX0_chosenFor_1 (by decide) (fun cc => ?_) (fun cc => ?_)
  · replace h := am_t cc h
    refine lv_iconst (v := 0) (pc := 13) hx hb dX0_chosenFor_13 (by decide) ?_
    obtain e1 := am_ret1 h
    exact hret _ _ _ dX0_chosenFor_14 rfl e1
  replace h := am_f cc h
  refine lv_iload_n (pc := 4) hx hb dX0_chosenFor_4 rfl (lv_at hl 1 rfl) ?_
  refine lv_aload_n (pc := 5) hx hb dX0_chosenFor_5 rfl (lv_at hl 0 rfl) ?_
  refine va_get (pc := 6) (D := D) (ci := 0) (v := .ref a) (C := RX0) (T := TX0) (N := 3) hx hb hts hnX0 hown hK.1 hP 0 rfl rfl 0 (Nat.le_of_ble_eq_true rfl) hk34 (fun _ h9 => h9) rfl dX0_chosenFor_6 ?_
  refine va_alen (pc := 9) (v := (12 : Int32)) hx hb hK.1 hP 1 0 rfl rfl rfl dX0_chosenFor_9 ?_
  refine lv_icmp_lt (pc := 10) (tgt := 15) hx hb dX0_chosenFor_10 (by decide) (fun cc => ?_) (fun cc => ?_)
  · replace h := am_t cc h
    refine lv_aload_n (pc := 15) hx hb dX0_chosenFor_15 rfl (lv_at hl 0 rfl) ?_
    refine va_get (pc := 16) (D := D) (ci := 0) (v := .ref a) (C := RX0) (T := TX0) (N := 3) hx hb hts hnX0 hown hK.1 hP 0 rfl rfl 0 (Nat.le_of_ble_eq_true rfl) hk34 (fun _ h9 => h9) rfl dX0_chosenFor_16 ?_
    refine lv_iload_n (pc := 19) hx hb dX0_chosenFor_19 rfl (lv_at hl 1 rfl) ?_
    obtain ⟨hi, h⟩ := am_in_s h
    refine va_iald (pc := 20) hx hb hK.1 hP 1 0 rfl rfl hi dX0_chosenFor_20 ?_
    obtain e1 := am_ret1 h
    exact hret _ _ _ dX0_chosenFor_21 rfl e1
  replace h := am_f cc h
  refine lv_iconst (v := 0) (pc := 13) hx hb dX0_chosenFor_13 (by decide) ?_
  obtain e1 := am_ret1 h
  exact hret _ _ _ dX0_chosenFor_14 rfl e1
theorem hdX0_noise : yX0_noise.cls ≠ "java/lang/invoke/MethodHandle" ∧ yX0_noise.cls ≠ "java/lang/invoke/VarHandle" ∧ (parseMethodDescriptor yX0_noise.desc).map (fun d => d.parameters.length) = some 0 := by decide +kernel
abbrev rmX0_noise : Room := { frames := 0, cells := 0, slots := 0, locals := 0 }
set_option maxHeartbeats 20000000 in
set_option maxRecDepth 100000 in
theorem c_X0_noise (l : Launch) (D : va_G) (cI cJ : ClassId) (self : Nat) (a : Nat) (b : Nat) (noi : Int32) (anc : Nat → Int32) (rst : Nat → Int64)  (r0 : Int32) (hF : F_X0_noise noi = some r0) : Met l yX0_noise (wz yX0_noise cX0_noise 1 (some .int)) rmX0_noise (kPc D cI cJ [(self, .inr (0, [.ref a, .ref b, .int noi])), (a, .inl (cI, 12, .inl anc)), (b, .inl (cJ, 12, .inr (.inl rst)))] [.ref self]) (vp_Si (fun r => r = r0)) 0 0 (fun _ => False) := by
  refine kM_ri cX0_noise 1 .int (by decide +kernel) rfl rfl (Nat.le_of_ble_eq_true rfl) ⟨rfl, rfl⟩ ?_
  intro p e s m args below meth c Q ls hx hb hml hown hts hP hK hl hret
  have hk36 := hts _ (List.mem_cons_of_mem _ wl36)
  have hnX0 : ∀ w ∈ u_ws RX0 TX0 3, w ∈ wz yX0_noise cX0_noise 1 (some .int) := fun w h => List.mem_cons_of_mem _ (inlX0 w h)
  replace hl : lv_has ls 1 [(0, .ref self)] := hl
  have h := hF
  unfold F_X0_noise at h
  refine lv_aload_n (pc := 0) hx hb dX0_noise_0 rfl (lv_at hl 0 rfl) ?_
  refine va_get (pc := 1) (D := D) (ci := 0) (v := .int noi) (C := RX0) (T := TX0) (N := 3) hx hb hts hnX0 hown hK.1 hP 0 rfl rfl 2 (Nat.le_of_ble_eq_true rfl) hk36 (fun _ h9 => h9) rfl dX0_noise_1 ?_
  obtain e1 := am_ret1 h
  exact hret _ _ _ dX0_noise_4 rfl e1
theorem hdX0_chooseByNoises : yX0_chooseByNoises.cls ≠ "java/lang/invoke/MethodHandle" ∧ yX0_chooseByNoises.cls ≠ "java/lang/invoke/VarHandle" ∧ (parseMethodDescriptor yX0_chooseByNoises.desc).map (fun d => d.parameters.length) = some 1 := by decide +kernel
abbrev rmX0_chooseByNoises : Room := { frames := 1, cells := 0, slots := 0, locals := 25 }
set_option maxHeartbeats 20000000 in
set_option maxRecDepth 100000 in
theorem c_X0_chooseByNoises (l : Launch) (D : va_G) (cI cJ : ClassId) (self : Nat) (a : Nat) (b : Nat) (wself : Nat) (wa : Nat) (noi : Int32) (anc : Nat → Int32) (rst : Nat → Int64) (wmany : Int32) (wf : Nat → Int32)  (znoi : Int32) (zanc : Nat → Int32) (hF : F_X0_chooseByNoises noi anc wmany wf = some (znoi, zanc)) (sz : Nat) : Met l yX0_chooseByNoises (wz yX0_chooseByNoises cX0_chooseByNoises 5 none) rmX0_chooseByNoises (kPw D cI cJ [(self, .inr (0, [.ref a, .ref b, .int noi])), (a, .inl (cI, 12, .inl anc)), (b, .inl (cJ, 12, .inr (.inl rst))), (wself, .inr (5, [.ref wa, .int wmany])), (wa, .inl (cI, 12, .inl wf))] sz [.ref self, .ref wself]) (kQv D [(self, .inr (0, [.ref a, .ref b, .int znoi])), (a, .inl (cI, 12, .inl zanc)), (b, .inl (cJ, 12, .inr (.inl rst))), (wself, .inr (5, [.ref wa, .int wmany])), (wa, .inl (cI, 12, .inl wf))] (va_A [(self, .inr (0, [.ref a, .ref b, .int noi])), (a, .inl (cI, 12, .inl anc)), (b, .inl (cJ, 12, .inr (.inl rst))), (wself, .inr (5, [.ref wa, .int wmany])), (wa, .inl (cI, 12, .inl wf))] sz)) 0 0 (va_A [(self, .inr (0, [.ref a, .ref b, .int noi])), (a, .inl (cI, 12, .inl anc)), (b, .inl (cJ, 12, .inr (.inl rst))), (wself, .inr (5, [.ref wa, .int wmany])), (wa, .inl (cI, 12, .inl wf))] sz) := by
  refine kM_wv cX0_chooseByNoises 5 (by decide +kernel) rfl rfl (Nat.le_of_ble_eq_true rfl) ⟨rfl, rfl⟩ ?_
  intro p e s m args below meth c Q A ls hx hb hml hown hts hP hK hD hA hS hl hret
  have hk2 := hts _ (List.mem_cons_of_mem _ wl2)
  have hk34 := hts _ (List.mem_cons_of_mem _ wl34)
  have hk359 := hts _ (List.mem_cons_of_mem _ wl359)
  have hk36 := hts _ (List.mem_cons_of_mem _ wl36)
  have hnX0 : ∀ w ∈ u_ws RX0 TX0 3, w ∈ wz yX0_chooseByNoises cX0_chooseByNoises 5 none := fun w h => List.mem_cons_of_mem _ (inlX0 w h)
  have hnX5 : ∀ w ∈ u_ws RX5 TX5 2, w ∈ wz yX0_chooseByNoises cX0_chooseByNoises 5 none := fun w h => List.mem_cons_of_mem _ (inlX5 w h)
  replace hl : lv_has ls 5 [(0, .ref self), (1, .ref wself)] := hl
  have h := hF
  unfold F_X0_chooseByNoises at h
  refine lv_aload_n (pc := 0) hx hb dX0_chooseByNoises_0 rfl (lv_at hl 1 rfl) ?_
  obtain ⟨r1, hc1, h⟩ := am_bind_s h
  refine kc_Vl (pc := 1) (ci := 5) ⟨hx, hb, hml, hown, hts⟩ hP hK [] (c_X5_sum l D cI cJ wself wa wmany wf r1 hc1) [3, 4] rfl (cwV 0 hts (gzV wl399 wl185 wl186 wl47 wl187) rfl rfl rfl ⟨rfl, hdX5_sum⟩ ⟨Nat.le_of_ble_eq_true rfl, Nat.le_of_ble_eq_true rfl⟩) rfl rfl [] rfl hl.1 rfl (Nat.le_of_ble_eq_true rfl) dX0_chooseByNoises_1 ⟨Nat.zero_le _, Nat.zero_le _⟩ ?_
  refine lv_lstore_n (lv' := [(2, .long r1), (0, .ref self), (1, .ref wself)]) (pc := 4) hx hb dX0_chooseByNoises_4 rfl hl (by decide) rfl (fun ls hl => ?_)
  refine lv_lload_n (pc := 5) hx hb dX0_chooseByNoises_5 rfl (lv_at hl 0 rfl) ?_
  refine lv_lconst (v := 0) (pc := 6) hx hb dX0_chooseByNoises_6 rfl ?_
  refine W.lcmp (pc := 7) hx hb dX0_chooseByNoises_7 ?_
  refine lv_if_gt (pc := 8) (tgt := 12) hx hb dX0_chooseByNoises_8 (by decide) (fun cc => ?_) (fun cc => ?_)
  · replace h := am_t cc h
    refine lv_iconst (v := 0) (pc := 12) hx hb dX0_chooseByNoises_12 (by decide) ?_
    refine lv_istore (lv' := [(4, .int (0 : Int32)), (2, .long r1), (0, .ref self), (1, .ref wself)]) (pc := 13) hx hb dX0_chooseByNoises_13 hl (by decide) rfl (fun ls hl => ?_)
    refine am_join2_s (fun (u2 : Int32) (f3 : Nat → Int32) => ∀ (ls : Array Slot), lv_has ls 5 [] → ∀ (H : Heap) (locs : List Loc), va_P D vwCl [(self, .inr (0, [.ref a, .ref b, .int u2])), (a, .inl (cI, 12, .inl f3)), (b, .inl (cJ, 12, .inr (.inl rst))), (wself, .inr (5, [.ref wa, .int wmany])), (wa, .inl (cI, 12, .inl wf))] H → va_D A [(self, .inr (0, [.ref a, .ref b, .int u2])), (a, .inl (cI, 12, .inl f3)), (b, .inl (cJ, 12, .inr (.inl rst))), (wself, .inr (5, [.ref wa, .int wmany])), (wa, .inl (cI, 12, .inl wf))] → va_S A s.heap H locs → W p l e rmX0_chooseByNoises s m args below meth c H locs 0 0 Q (F0 m 75 ls [])) h (fun u2 f3 h ls hl H locs hP hD hS => ?_) (fun K4 hK4 h => ?_)
    · obtain ⟨e1, e2⟩ := am_ret2 h
      exact hret _ _ _ _ dX0_chooseByNoises_75 (by rw [← e1, ← e2]; exact hP) hS
    refine am_loop3_s (fun (x5 : Int32) (u6 : Int32) (f7 : Nat → Int32) => ∀ (ls : Array Slot), lv_has ls 5 [(0, .ref self), (1, .ref wself), (2, .long r1), (4, .int x5)] → ∀ (H : Heap) (locs : List Loc), va_P D vwCl [(self, .inr (0, [.ref a, .ref b, .int u6])), (a, .inl (cI, 12, .inl f7)), (b, .inl (cJ, 12, .inr (.inl rst))), (wself, .inr (5, [.ref wa, .int wmany])), (wa, .inl (cI, 12, .inl wf))] H → va_D A [(self, .inr (0, [.ref a, .ref b, .int u6])), (a, .inl (cI, 12, .inl f7)), (b, .inl (cJ, 12, .inr (.inl rst))), (wself, .inr (5, [.ref wa, .int wmany])), (wa, .inl (cI, 12, .inl wf))] → va_S A s.heap H locs → W p l e rmX0_chooseByNoises s m args below meth c H locs 0 0 Q (F0 m 15 ls [])) (fun rec8 ihrec8 x5 u6 f7 h ls hl H locs hP hD hS => ?_) _ _ _ _ h ls (lv_sub hl [2, 3, 1, 0] rfl) s.heap [] hP hD hS
    unfold F_X0_chooseByNoises_B15 at h
    refine lv_iload (pc := 15) hx hb dX0_chooseByNoises_15 (lv_at hl 3 rfl) ?_
    refine lv_aload_n (pc := 17) hx hb dX0_chooseByNoises_17 rfl (lv_at hl 1 rfl) ?_
    refine va_getN (pc := 18) (D := D) (ci := 5) (v := .int wmany) (C := RX5) (T := TX5) (N := 2) hx hb hts hnX5 hown hK.1 hP 3 rfl rfl 1 (Nat.le_of_ble_eq_true rfl) (va_Nw.use rfl hK.2.2.2.2.2.2.2.2) (fun _ h9 => h9) rfl dX0_chooseByNoises_18 ?_
    refine lv_icmp_ge (pc := 21) (tgt := 75) hx hb dX0_chooseByNoises_21 (by decide) (fun cc => ?_) (fun cc => ?_)
    · replace h := am_t cc h
      exact hK4 _ _ h ls (lv_sub hl [] rfl) H locs hP hD hS
    replace h := am_f cc h
    refine lv_iload (pc := 24) hx hb dX0_chooseByNoises_24 (lv_at hl 3 rfl) ?_
    refine lv_aload_n (pc := 26) hx hb dX0_chooseByNoises_26 rfl (lv_at hl 0 rfl) ?_
    refine va_get (pc := 27) (D := D) (ci := 0) (v := .ref a) (C := RX0) (T := TX0) (N := 3) hx hb hts hnX0 hown hK.1 hP 0 rfl rfl 0 (Nat.le_of_ble_eq_true rfl) hk34 (fun _ h9 => h9) rfl dX0_chooseByNoises_27 ?_
    refine va_alen (pc := 30) (v := (12 : Int32)) hx hb hK.1 hP 1 0 rfl rfl rfl dX0_chooseByNoises_30 ?_
    refine lv_icmp_ge (pc := 31) (tgt := 75) hx hb dX0_chooseByNoises_31 (by decide) (fun cc => ?_) (fun cc => ?_)
    · replace h := am_t cc h
      exact hK4 _ _ h ls (lv_sub hl [] rfl) H locs hP hD hS
    replace h := am_f cc h
    refine lv_aload_n (pc := 34) hx hb dX0_chooseByNoises_34 rfl (lv_at hl 0 rfl) ?_
    refine lv_aload_n (pc := 35) hx hb dX0_chooseByNoises_35 rfl (lv_at hl 0 rfl) ?_
    refine va_get (pc := 36) (D := D) (ci := 0) (v := .int u6) (C := RX0) (T := TX0) (N := 3) hx hb hts hnX0 hown hK.1 hP 0 rfl rfl 2 (Nat.le_of_ble_eq_true rfl) hk36 (fun _ h9 => h9) rfl dX0_chooseByNoises_36 ?_
    obtain ⟨r9, hc9, h⟩ := am_bind_s h
    refine kc_Ni (pc := 39) ⟨hx, hb, hml, hown, hts⟩ hP hK [.int u6] (c_X6_noiseBehind l D cI cJ u6 r9 hc9) [] rfl ⟨va_cnB 1 hts (gzN wl360) rfl rfl rfl hK.2.2.2.2.2.2.1 hk2 hdX6_noiseBehind ⟨Nat.le_of_ble_eq_true rfl, Nat.le_of_ble_eq_true rfl⟩, hk359, trivial⟩ [.ref self] rfl hl.1 rfl (Nat.le_of_ble_eq_true rfl) dX0_chooseByNoises_39 ⟨Nat.zero_le _, Nat.zero_le _⟩ ?_
    refine va_put (pc := 42) (D := D) (ci := 0) (v := .int r9) (ty := .int) (C := RX0) (T := TX0) (N := 3) hx hb hts hnX0 tyX0 tyX0_ok nmX0 hown hK.1 hP hD hS 0 rfl rfl 2 (Nat.le_of_ble_eq_true rfl) hk36 (fun _ h9 => h9) rfl (by decide +kernel) rfl rfl (Nat.le_of_ble_eq_true rfl) dX0_chooseByNoises_42 (fun H locs hP hD hS => ?_)
    replace hP : va_P D vwCl [(self, .inr (0, [.ref a, .ref b, .int r9])), (a, .inl (cI, 12, .inl f7)), (b, .inl (cJ, 12, .inr (.inl rst))), (wself, .inr (5, [.ref wa, .int wmany])), (wa, .inl (cI, 12, .inl wf))] H := hP
    replace hD : va_D A [(self, .inr (0, [.ref a, .ref b, .int r9])), (a, .inl (cI, 12, .inl f7)), (b, .inl (cJ, 12, .inr (.inl rst))), (wself, .inr (5, [.ref wa, .int wmany])), (wa, .inl (cI, 12, .inl wf))] := hD
    refine lv_aload_n (pc := 45) hx hb dX0_chooseByNoises_45 rfl (lv_at hl 0 rfl) ?_
    refine va_get (pc := 46) (D := D) (ci := 0) (v := .ref a) (C := RX0) (T := TX0) (N := 3) hx hb hts hnX0 hown hK.1 hP 0 rfl rfl 0 (Nat.le_of_ble_eq_true rfl) hk34 (fun _ h9 => h9) rfl dX0_chooseByNoises_46 ?_
    refine lv_iload (pc := 49) hx hb dX0_chooseByNoises_49 (lv_at hl 3 rfl) ?_
    refine lv_aload_n (pc := 51) hx hb dX0_chooseByNoises_51 rfl (lv_at hl 1 rfl) ?_
    refine lv_iload (pc := 52) hx hb dX0_chooseByNoises_52 (lv_at hl 3 rfl) ?_
    refine lv_i2l (pc := 54) hx hb dX0_chooseByNoises_54 rfl ?_
    refine lv_lload_n (pc := 55) hx hb dX0_chooseByNoises_55 rfl (lv_at hl 2 rfl) ?_
    refine lv_lmul (pc := 56) hx hb dX0_chooseByNoises_56 ?_
    refine lv_aload_n (pc := 57) hx hb dX0_chooseByNoises_57 rfl (lv_at hl 0 rfl) ?_
    refine va_get (pc := 58) (D := D) (ci := 0) (v := .int r9) (C := RX0) (T := TX0) (N := 3) hx hb hts hnX0 hown hK.1 hP 0 rfl rfl 2 (Nat.le_of_ble_eq_true rfl) hk36 (fun _ h9 => h9) rfl dX0_chooseByNoises_58 ?_
    refine lv_i2l (pc := 61) hx hb dX0_chooseByNoises_61 rfl ?_
    refine lv_lload_n (pc := 62) hx hb dX0_chooseByNoises_62 rfl (lv_at hl 2 rfl) ?_
    obtain ⟨hz, h⟩ := am_nzl_s h
    refine lv_lrem (pc := 63) hx hb dX0_chooseByNoises_63 hz ?_
    refine lv_ladd (pc := 64) hx hb dX0_chooseByNoises_64 ?_
    obtain ⟨r10, hc10, h⟩ := am_bind_s h
    refine kc_Vi (pc := 65) (ci := 5) ⟨hx, hb, hml, hown, hts⟩ hP hK [.long ((x5.toInt64 * r1) + (r9.toInt64 - r9.toInt64 / r1 * r1))] (c_X5_firstAbove l D cI cJ wself wa wmany wf ((x5.toInt64 * r1) + (r9.toInt64 - r9.toInt64 / r1 * r1)) r10 hc10) [3, 4] rfl (cwV 1 hts (gzV wl400 wl401 wl402 wl47 wl403) rfl rfl rfl ⟨rfl, hdX5_firstAbove⟩ ⟨Nat.le_of_ble_eq_true rfl, Nat.le_of_ble_eq_true rfl⟩) rfl rfl [.int x5, .ref a] rfl hl.1 rfl (Nat.le_of_ble_eq_true rfl) dX0_chooseByNoises_65 ⟨Nat.zero_le _, Nat.zero_le _⟩ ?_
    obtain ⟨hi, h⟩ := am_in_s h
    obtain ⟨f11, ef11⟩ : ∃ y : Nat → Int32, y = (upd f7 x5.toNatClampNeg r10) := ⟨_, rfl⟩
    replace h := am_let_s ef11 h
    refine va_iast (pc := 68) hx hb hK.1 hP hD hS 1 0 rfl rfl hi dX0_chooseByNoises_68 (fun H locs hP hD hS => ?_)
    rw [← ef11] at hP hD
    replace hP : va_P D vwCl [(self, .inr (0, [.ref a, .ref b, .int r9])), (a, .inl (cI, 12, .inl f11)), (b, .inl (cJ, 12, .inr (.inl rst))), (wself, .inr (5, [.ref wa, .int wmany])), (wa, .inl (cI, 12, .inl wf))] H := hP
    replace hD : va_D A [(self, .inr (0, [.ref a, .ref b, .int r9])), (a, .inl (cI, 12, .inl f11)), (b, .inl (cJ, 12, .inr (.inl rst))), (wself, .inr (5, [.ref wa, .int wmany])), (wa, .inl (cI, 12, .inl wf))] := hD
    obtain ⟨x12, ex12⟩ : ∃ y : Int32, y = (x5 + (1 : Int32)) := ⟨_, rfl⟩
    replace h := am_let_s ex12 h
    refine lv_iinc (pc := 69) (v := x12) (lv' := [(4, .int x12), (0, .ref self), (1, .ref wself), (2, .long r1)]) hx hb dX0_chooseByNoises_69 hl (k := 3) rfl (by rw [ex12]; rfl) (by decide) rfl (fun ls hl => ?_)
    refine lv_goto (pc := 72) (tgt := 15) hx hb dX0_chooseByNoises_72 (by decide) ?_
    exact ihrec8 _ _ _ h ls (lv_sub hl [1, 2, 3, 0] rfl) H locs hP hD hS
  replace h := am_f cc h
  obtain ⟨e1, e2⟩ := am_ret2 h
  exact hret _ _ _ _ dX0_chooseByNoises_11 (by rw [← e1, ← e2]; exact hP) hS
theorem hdX0_chooseByOffset : yX0_chooseByOffset.cls ≠ "java/lang/invoke/MethodHandle" ∧ yX0_chooseByOffset.cls ≠ "java/lang/invoke/VarHandle" ∧ (parseMethodDescriptor yX0_chooseByOffset.desc).map (fun d => d.parameters.length) = some 2 := by decide +kernel
abbrev rmX0_chooseByOffset : Room := { frames := 1, cells := 0, slots := 0, locals := 25 }
set_option maxHeartbeats 20000000 in
set_option maxRecDepth 100000 in
theorem c_X0_chooseByOffset (l : Launch) (D : va_G) (cI cJ : ClassId) (self : Nat) (a : Nat) (b : Nat) (wself : Nat) (wa : Nat) (noi : Int32) (anc : Nat → Int32) (rst : Nat → Int64) (wmany : Int32) (wf : Nat → Int32) (p1 : Int32) (zanc : Nat → Int32) (hF : F_X0_chooseByOffset anc wmany wf p1 = some zanc) (sz : Nat) : Met l yX0_chooseByOffset (wz yX0_chooseByOffset cX0_chooseByOffset 8 none) rmX0_chooseByOffset (kPw D cI cJ [(self, .inr (0, [.ref a, .ref b, .int noi])), (a, .inl (cI, 12, .inl anc)), (b, .inl (cJ, 12, .inr (.inl rst))), (wself, .inr (5, [.ref wa, .int wmany])), (wa, .inl (cI, 12, .inl wf))] sz [.ref self, .ref wself, .int p1]) (kQv D [(self, .inr (0, [.ref a, .ref b, .int noi])), (a, .inl (cI, 12, .inl zanc)), (b, .inl (cJ, 12, .inr (.inl rst))), (wself, .inr (5, [.ref wa, .int wmany])), (wa, .inl (cI, 12, .inl wf))] (va_A [(self, .inr (0, [.ref a, .ref b, .int noi])), (a, .inl (cI, 12, .inl anc)), (b, .inl (cJ, 12, .inr (.inl rst))), (wself, .inr (5, [.ref wa, .int wmany])), (wa, .inl (cI, 12, .inl wf))] sz)) 0 0 (va_A [(self, .inr (0, [.ref a, .ref b, .int noi])), (a, .inl (cI, 12, .inl anc)), (b, .inl (cJ, 12, .inr (.inl rst))), (wself, .inr (5, [.ref wa, .int wmany])), (wa, .inl (cI, 12, .inl wf))] sz) := by
  refine kM_wv cX0_chooseByOffset 8 (by decide +kernel) rfl rfl (Nat.le_of_ble_eq_true rfl) ⟨rfl, rfl⟩ ?_
  intro p e s m args below meth c Q A ls hx hb hml hown hts hP hK hD hA hS hl hret
  have hk34 := hts _ (List.mem_cons_of_mem _ wl34)
  have hk398 := hts _ (List.mem_cons_of_mem _ wl398)
  have hnX0 : ∀ w ∈ u_ws RX0 TX0 3, w ∈ wz yX0_chooseByOffset cX0_chooseByOffset 8 none := fun w h => List.mem_cons_of_mem _ (inlX0 w h)
  have hnX5 : ∀ w ∈ u_ws RX5 TX5 2, w ∈ wz yX0_chooseByOffset cX0_chooseByOffset 8 none := fun w h => List.mem_cons_of_mem _ (inlX5 w h)
  replace hl : lv_has ls 8 [(0, .ref self), (1, .ref wself), (2, .int p1)] := hl
  have h := hF
  unfold F_X0_chooseByOffset at h
  refine lv_aload_n (pc := 0) hx hb dX0_chooseByOffset_0 rfl (lv_at hl 1 rfl) ?_
  obtain ⟨r1, hc1, h⟩ := am_bind_s h
  refine kc_Vl (pc := 1) (ci := 5) ⟨hx, hb, hml, hown, hts⟩ hP hK [] (c_X5_sum l D cI cJ wself wa wmany wf r1 hc1) [3, 4] rfl (cwV 0 hts (gzV wl399 wl185 wl186 wl47 wl187) rfl rfl rfl ⟨rfl, hdX5_sum⟩ ⟨Nat.le_of_ble_eq_true rfl, Nat.le_of_ble_eq_true rfl⟩) rfl rfl [] rfl hl.1 rfl (Nat.le_of_ble_eq_true rfl) dX0_chooseByOffset_1 ⟨Nat.zero_le _, Nat.zero_le _⟩ ?_
  refine lv_lstore_n (lv' := [(3, .long r1), (0, .ref self), (1, .ref wself), (2, .int p1)]) (pc := 4) hx hb dX0_chooseByOffset_4 rfl hl (by decide) rfl (fun ls hl => ?_)
  refine lv_iload_n (pc := 5) hx hb dX0_chooseByOffset_5 rfl (lv_at hl 3 rfl) ?_
  refine lv_i2l (pc := 6) hx hb dX0_chooseByOffset_6 rfl ?_
  refine lv_lload_n (pc := 7) hx hb dX0_chooseByOffset_7 rfl (lv_at hl 0 rfl) ?_
  refine lv_lmul (pc := 8) hx hb dX0_chooseByOffset_8 ?_
  refine lv_ldc2 (pc := 9) hx hb hown hk398 dX0_chooseByOffset_9 ?_
  refine lv_ldiv (pc := 12) hx hb dX0_chooseByOffset_12 (by decide) ?_
  refine lv_topl (fun x2 ex2 => ?_)
  replace h := am_let_s ex2 h
  refine lv_lstore (lv' := [(5, .long x2), (3, .long r1), (0, .ref self), (1, .ref wself), (2, .int p1)]) (pc := 13) hx hb dX0_chooseByOffset_13 hl (by decide) rfl (fun ls hl => ?_)
  refine lv_iconst (v := 0) (pc := 15) hx hb dX0_chooseByOffset_15 (by decide) ?_
  refine lv_istore (lv' := [(7, .int (0 : Int32)), (5, .long x2), (3, .long r1), (0, .ref self), (1, .ref wself), (2, .int p1)]) (pc := 16) hx hb dX0_chooseByOffset_16 hl (by decide) rfl (fun ls hl => ?_)
  refine am_join1_s (fun (f3 : Nat → Int32) => ∀ (ls : Array Slot), lv_has ls 8 [] → ∀ (H : Heap) (locs : List Loc), va_P D vwCl [(self, .inr (0, [.ref a, .ref b, .int noi])), (a, .inl (cI, 12, .inl f3)), (b, .inl (cJ, 12, .inr (.inl rst))), (wself, .inr (5, [.ref wa, .int wmany])), (wa, .inl (cI, 12, .inl wf))] H → va_D A [(self, .inr (0, [.ref a, .ref b, .int noi])), (a, .inl (cI, 12, .inl f3)), (b, .inl (cJ, 12, .inr (.inl rst))), (wself, .inr (5, [.ref wa, .int wmany])), (wa, .inl (cI, 12, .inl wf))] → va_S A s.heap H locs → W p l e rmX0_chooseByOffset s m args below meth c H locs 0 0 Q (F0 m 62 ls [])) h (fun f3 h ls hl H locs hP hD hS => ?_) (fun K4 hK4 h => ?_)
  · obtain e1 := am_ret1 h
    exact hret _ _ _ _ dX0_chooseByOffset_62 (by rw [← e1]; exact hP) hS
  refine am_loop2_s (fun (x5 : Int32) (f6 : Nat → Int32) => ∀ (ls : Array Slot), lv_has ls 8 [(0, .ref self), (1, .ref wself), (3, .long r1), (5, .long x2), (7, .int x5)] → ∀ (H : Heap) (locs : List Loc), va_P D vwCl [(self, .inr (0, [.ref a, .ref b, .int noi])), (a, .inl (cI, 12, .inl f6)), (b, .inl (cJ, 12, .inr (.inl rst))), (wself, .inr (5, [.ref wa, .int wmany])), (wa, .inl (cI, 12, .inl wf))] H → va_D A [(self, .inr (0, [.ref a, .ref b, .int noi])), (a, .inl (cI, 12, .inl f6)), (b, .inl (cJ, 12, .inr (.inl rst))), (wself, .inr (5, [.ref wa, .int wmany])), (wa, .inl (cI, 12, .inl wf))] → va_S A s.heap H locs → W p l e rmX0_chooseByOffset s m args below meth c H locs 0 0 Q (F0 m 18 ls [])) (fun rec7 ihrec7 x5 f6 h ls hl H locs hP hD hS => ?_) _ _ _ h ls (lv_sub hl [3, 4, 2, 1, 0] rfl) s.heap [] hP hD hS
  unfold F_X0_chooseByOffset_B18 at h
  refine lv_iload (pc := 18) hx hb dX0_chooseByOffset_18 (lv_at hl 4 rfl) ?_
  refine lv_aload_n (pc := 20) hx hb dX0_chooseByOffset_20 rfl (lv_at hl 1 rfl) ?_
  refine va_getN (pc := 21) (D := D) (ci := 5) (v := .int wmany) (C := RX5) (T := TX5) (N := 2) hx hb hts hnX5 hown hK.1 hP 3 rfl rfl 1 (Nat.le_of_ble_eq_true rfl) (va_Nw.use rfl hK.2.2.2.2.2.2.2.2) (fun _ h9 => h9) rfl dX0_chooseByOffset_21 ?_
  refine lv_icmp_ge (pc := 24) (tgt := 62) hx hb dX0_chooseByOffset_24 (by decide) (fun cc => ?_) (fun cc => ?_)
  · replace h := am_t cc h
    exact hK4 _ h ls (lv_sub hl [] rfl) H locs hP hD hS
  replace h := am_f cc h
  refine lv_iload (pc := 27) hx hb dX0_chooseByOffset_27 (lv_at hl 4 rfl) ?_
  refine lv_aload_n (pc := 29) hx hb dX0_chooseByOffset_29 rfl (lv_at hl 0 rfl) ?_
  refine va_get (pc := 30) (D := D) (ci := 0) (v := .ref a) (C := RX0) (T := TX0) (N := 3) hx hb hts hnX0 hown hK.1 hP 0 rfl rfl 0 (Nat.le_of_ble_eq_true rfl) hk34 (fun _ h9 => h9) rfl dX0_chooseByOffset_30 ?_
  refine va_alen (pc := 33) (v := (12 : Int32)) hx hb hK.1 hP 1 0 rfl rfl rfl dX0_chooseByOffset_33 ?_
  refine lv_icmp_ge (pc := 34) (tgt := 62) hx hb dX0_chooseByOffset_34 (by decide) (fun cc => ?_) (fun cc => ?_)
  · replace h := am_t cc h
    exact hK4 _ h ls (lv_sub hl [] rfl) H locs hP hD hS
  replace h := am_f cc h
  refine lv_aload_n (pc := 37) hx hb dX0_chooseByOffset_37 rfl (lv_at hl 0 rfl) ?_
  refine va_get (pc := 38) (D := D) (ci := 0) (v := .ref a) (C := RX0) (T := TX0) (N := 3) hx hb hts hnX0 hown hK.1 hP 0 rfl rfl 0 (Nat.le_of_ble_eq_true rfl) hk34 (fun _ h9 => h9) rfl dX0_chooseByOffset_38 ?_
  refine lv_iload (pc := 41) hx hb dX0_chooseByOffset_41 (lv_at hl 4 rfl) ?_
  refine lv_aload_n (pc := 43) hx hb dX0_chooseByOffset_43 rfl (lv_at hl 1 rfl) ?_
  refine lv_iload (pc := 44) hx hb dX0_chooseByOffset_44 (lv_at hl 4 rfl) ?_
  refine lv_i2l (pc := 46) hx hb dX0_chooseByOffset_46 rfl ?_
  refine lv_lload_n (pc := 47) hx hb dX0_chooseByOffset_47 rfl (lv_at hl 2 rfl) ?_
  refine lv_lmul (pc := 48) hx hb dX0_chooseByOffset_48 ?_
  refine lv_lload (pc := 49) hx hb dX0_chooseByOffset_49 (lv_at hl 3 rfl) ?_
  refine lv_ladd (pc := 51) hx hb dX0_chooseByOffset_51 ?_
  obtain ⟨r8, hc8, h⟩ := am_bind_s h
  refine kc_Vi (pc := 52) (ci := 5) ⟨hx, hb, hml, hown, hts⟩ hP hK [.long ((x5.toInt64 * r1) + x2)] (c_X5_firstAbove l D cI cJ wself wa wmany wf ((x5.toInt64 * r1) + x2) r8 hc8) [3, 4] rfl (cwV 1 hts (gzV wl400 wl401 wl402 wl47 wl403) rfl rfl rfl ⟨rfl, hdX5_firstAbove⟩ ⟨Nat.le_of_ble_eq_true rfl, Nat.le_of_ble_eq_true rfl⟩) rfl rfl [.int x5, .ref a] rfl hl.1 rfl (Nat.le_of_ble_eq_true rfl) dX0_chooseByOffset_52 ⟨Nat.zero_le _, Nat.zero_le _⟩ ?_
  obtain ⟨hi, h⟩ := am_in_s h
  obtain ⟨f9, ef9⟩ : ∃ y : Nat → Int32, y = (upd f6 x5.toNatClampNeg r8) := ⟨_, rfl⟩
  replace h := am_let_s ef9 h
  refine va_iast (pc := 55) hx hb hK.1 hP hD hS 1 0 rfl rfl hi dX0_chooseByOffset_55 (fun H locs hP hD hS => ?_)
  rw [← ef9] at hP hD
  replace hP : va_P D vwCl [(self, .inr (0, [.ref a, .ref b, .int noi])), (a, .inl (cI, 12, .inl f9)), (b, .inl (cJ, 12, .inr (.inl rst))), (wself, .inr (5, [.ref wa, .int wmany])), (wa, .inl (cI, 12, .inl wf))] H := hP
  replace hD : va_D A [(self, .inr (0, [.ref a, .ref b, .int noi])), (a, .inl (cI, 12, .inl f9)), (b, .inl (cJ, 12, .inr (.inl rst))), (wself, .inr (5, [.ref wa, .int wmany])), (wa, .inl (cI, 12, .inl wf))] := hD
  obtain ⟨x10, ex10⟩ : ∃ y : Int32, y = (x5 + (1 : Int32)) := ⟨_, rfl⟩
  replace h := am_let_s ex10 h
  refine lv_iinc (pc := 56) (v := x10) (lv' := [(7, .int x10), (0, .ref self), (1, .ref wself), (3, .long r1), (5, .long x2)]) hx hb dX0_chooseByOffset_56 hl (k := 4) rfl (by rw [ex10]; rfl) (by decide) rfl (fun ls hl => ?_)
  refine lv_goto (pc := 59) (tgt := 18) hx hb dX0_chooseByOffset_59 (by decide) ?_
  exact ihrec7 _ _ h ls (lv_sub hl [1, 2, 3, 4, 0] rfl) H locs hP hD hS
theorem hdX0_restsAheadOf : yX0_restsAheadOf.cls ≠ "java/lang/invoke/MethodHandle" ∧ yX0_restsAheadOf.cls ≠ "java/lang/invoke/VarHandle" ∧ (parseMethodDescriptor yX0_restsAheadOf.desc).map (fun d => d.parameters.length) = some 2 := by decide +kernel
abbrev rmX0_restsAheadOf : Room := { frames := 0, cells := 0, slots := 0, locals := 0 }
set_option maxHeartbeats 20000000 in
set_option maxRecDepth 100000 in
theorem c_X0_restsAheadOf (l : Launch) (D : va_G) (cI cJ : ClassId) (self : Nat) (a : Nat) (b : Nat) (noi : Int32) (anc : Nat → Int32) (rst : Nat → Int64) (p0 : Int32) (p1 : Int64) (r0 : Int32) (hF : F_X0_restsAheadOf rst p0 p1 = some r0) : Met l yX0_restsAheadOf (wz yX0_restsAheadOf cX0_restsAheadOf 8 (some .int)) rmX0_restsAheadOf (kPc D cI cJ [(self, .inr (0, [.ref a, .ref b, .int noi])), (a, .inl (cI, 12, .inl anc)), (b, .inl (cJ, 12, .inr (.inl rst)))] [.ref self, .int p0, .long p1]) (vp_Si (fun r => r = r0)) 0 0 (fun _ => False) := by
  refine kM_ri cX0_restsAheadOf 8 .int (by decide +kernel) rfl rfl (Nat.le_of_ble_eq_true rfl) ⟨rfl, rfl⟩ ?_
  intro p e s m args below meth c Q ls hx hb hml hown hts hP hK hl hret
  have hk35 := hts _ (List.mem_cons_of_mem _ wl35)
  have hnX0 : ∀ w ∈ u_ws RX0 TX0 3, w ∈ wz yX0_restsAheadOf cX0_restsAheadOf 8 (some .int) := fun w h => List.mem_cons_of_mem _ (inlX0 w h)
  replace hl : lv_has ls 8 [(0, .ref self), (1, .int p0), (2, .long p1)] := hl
  have h := hF
  unfold F_X0_restsAheadOf at h
  refine lv_iconst (v := 0) (pc := 0) hx hb dX0_restsAheadOf_0 (by decide) ?_
  refine lv_istore (lv' := [(4, .int (0 : Int32)), (0, .ref self), (1, .int p0), (2, .long p1)]) (pc := 1) hx hb dX0_restsAheadOf_1 hl (by decide) rfl (fun ls hl => ?_)
  refine lv_iload_n (pc := 3) hx hb dX0_restsAheadOf_3 rfl (lv_at hl 2 rfl) ?_
  refine lv_if_lt (pc := 4) (tgt := 16) hx hb dX0_restsAheadOf_4 (by decide) (fun cc => ?_) (fun cc => ?_)
  · replace h := am_t cc h
    refine lv_iload (pc := 16) hx hb dX0_restsAheadOf_16 (lv_at hl 0 rfl) ?_
    obtain e1 := am_ret1 h
    exact hret _ _ _ dX0_restsAheadOf_18 rfl e1
  replace h := am_f cc h
  refine lv_iload_n (pc := 7) hx hb dX0_restsAheadOf_7 rfl (lv_at hl 2 rfl) ?_
  refine lv_aload_n (pc := 8) hx hb dX0_restsAheadOf_8 rfl (lv_at hl 1 rfl) ?_
  refine va_get (pc := 9) (D := D) (ci := 0) (v := .ref b) (C := RX0) (T := TX0) (N := 3) hx hb hts hnX0 hown hK.1 hP 0 rfl rfl 1 (Nat.le_of_ble_eq_true rfl) hk35 (fun _ h9 => h9) rfl dX0_restsAheadOf_9 ?_
  refine va_alen (pc := 12) (v := (12 : Int32)) hx hb hK.1 hP 2 1 rfl rfl rfl dX0_restsAheadOf_12 ?_
  refine lv_icmp_lt (pc := 13) (tgt := 19) hx hb dX0_restsAheadOf_13 (by decide) (fun cc => ?_) (fun cc => ?_)
  · replace h := am_t cc h
    refine lv_aload_n (pc := 19) hx hb dX0_restsAheadOf_19 rfl (lv_at hl 1 rfl) ?_
    refine va_get (pc := 20) (D := D) (ci := 0) (v := .ref b) (C := RX0) (T := TX0) (N := 3) hx hb hts hnX0 hown hK.1 hP 0 rfl rfl 1 (Nat.le_of_ble_eq_true rfl) hk35 (fun _ h9 => h9) rfl dX0_restsAheadOf_20 ?_
    refine lv_iload_n (pc := 23) hx hb dX0_restsAheadOf_23 rfl (lv_at hl 2 rfl) ?_
    obtain ⟨hi, h⟩ := am_in_s h
    refine va_lald (pc := 24) hx hb hK.1 hP 2 1 rfl rfl hi dX0_restsAheadOf_24 ?_
    refine lv_topl (fun x1 ex1 => ?_)
    replace h := am_let_s ex1 h
    refine lv_lstore (lv' := [(5, .long x1), (4, .int (0 : Int32)), (0, .ref self), (1, .int p0), (2, .long p1)]) (pc := 25) hx hb dX0_restsAheadOf_25 hl (by decide) rfl (fun ls hl => ?_)
    refine lv_iconst (v := 0) (pc := 27) hx hb dX0_restsAheadOf_27 (by decide) ?_
    refine lv_istore (lv' := [(7, .int (0 : Int32)), (5, .long x1), (4, .int (0 : Int32)), (0, .ref self), (1, .int p0), (2, .long p1)]) (pc := 28) hx hb dX0_restsAheadOf_28 hl (by decide) rfl (fun ls hl => ?_)
    refine am_join1_s (fun (x2 : Int32) => ∀ (ls : Array Slot), lv_has ls 8 [(4, .int x2)] → W p l e rmX0_restsAheadOf s m args below meth c s.heap [] 0 0 Q (F0 m 89 ls [])) h (fun x2 h ls hl => ?_) (fun K3 hK3 h => ?_)
    · refine lv_iload (pc := 89) hx hb dX0_restsAheadOf_89 (lv_at hl 0 rfl) ?_
      obtain e1 := am_ret1 h
      exact hret _ _ _ dX0_restsAheadOf_91 rfl e1
    refine am_loop2_s (fun (x4 : Int32) (x5 : Int32) => ∀ (ls : Array Slot), lv_has ls 8 [(0, .ref self), (1, .int p0), (2, .long p1), (4, .int x4), (5, .long x1), (7, .int x5)] → W p l e rmX0_restsAheadOf s m args below meth c s.heap [] 0 0 Q (F0 m 30 ls [])) (fun rec6 ihrec6 x4 x5 h ls hl => ?_) _ _ _ h ls (lv_sub hl [3, 4, 5, 2, 1, 0] rfl)
    unfold F_X0_restsAheadOf_B30 at h
    refine lv_iload (pc := 30) hx hb dX0_restsAheadOf_30 (lv_at hl 5 rfl) ?_
    refine lv_i2l (pc := 32) hx hb dX0_restsAheadOf_32 rfl ?_
    refine lv_lload_n (pc := 33) hx hb dX0_restsAheadOf_33 rfl (lv_at hl 2 rfl) ?_
    refine W.lcmp (pc := 34) hx hb dX0_restsAheadOf_34 ?_
    refine lv_if_ge (pc := 35) (tgt := 89) hx hb dX0_restsAheadOf_35 (by decide) (fun cc => ?_) (fun cc => ?_)
    · replace h := am_t cc h
      exact hK3 _ h ls (lv_sub hl [3] rfl)
    replace h := am_f cc h
    refine lv_iload (pc := 38) hx hb dX0_restsAheadOf_38 (lv_at hl 5 rfl) ?_
    refine lv_aload_n (pc := 40) hx hb dX0_restsAheadOf_40 rfl (lv_at hl 0 rfl) ?_
    refine va_get (pc := 41) (D := D) (ci := 0) (v := .ref b) (C := RX0) (T := TX0) (N := 3) hx hb hts hnX0 hown hK.1 hP 0 rfl rfl 1 (Nat.le_of_ble_eq_true rfl) hk35 (fun _ h9 => h9) rfl dX0_restsAheadOf_41 ?_
    refine va_alen (pc := 44) (v := (12 : Int32)) hx hb hK.1 hP 2 1 rfl rfl rfl dX0_restsAheadOf_44 ?_
    refine lv_icmp_ge (pc := 45) (tgt := 89) hx hb dX0_restsAheadOf_45 (by decide) (fun cc => ?_) (fun cc => ?_)
    · replace h := am_t cc h
      exact hK3 _ h ls (lv_sub hl [3] rfl)
    replace h := am_f cc h
    refine lv_aload_n (pc := 48) hx hb dX0_restsAheadOf_48 rfl (lv_at hl 0 rfl) ?_
    refine va_get (pc := 49) (D := D) (ci := 0) (v := .ref b) (C := RX0) (T := TX0) (N := 3) hx hb hts hnX0 hown hK.1 hP 0 rfl rfl 1 (Nat.le_of_ble_eq_true rfl) hk35 (fun _ h9 => h9) rfl dX0_restsAheadOf_49 ?_
    refine lv_iload (pc := 52) hx hb dX0_restsAheadOf_52 (lv_at hl 5 rfl) ?_
    obtain ⟨hi, h⟩ := am_in_s h
    refine va_lald (pc := 54) hx hb hK.1 hP 2 1 rfl rfl hi dX0_restsAheadOf_54 ?_
    refine lv_lload (pc := 55) hx hb dX0_restsAheadOf_55 (lv_at hl 4 rfl) ?_
    refine W.lcmp (pc := 57) hx hb dX0_restsAheadOf_57 ?_
    refine lv_if_gt (pc := 58) (tgt := 80) hx hb dX0_restsAheadOf_58 (by decide) (fun cc => ?_) (fun cc => ?_)
    · replace h := am_t cc h
      obtain ⟨x7, ex7⟩ : ∃ y : Int32, y = (x4 + (1 : Int32)) := ⟨_, rfl⟩
      replace h := am_let_s ex7 h
      refine lv_iinc (pc := 80) (v := x7) (lv' := [(4, .int x7), (0, .ref self), (1, .int p0), (2, .long p1), (5, .long x1), (7, .int x5)]) hx hb dX0_restsAheadOf_80 hl (k := 3) rfl (by rw [ex7]; rfl) (by decide) rfl (fun ls hl => ?_)
      obtain ⟨x8, ex8⟩ : ∃ y : Int32, y = (x5 + (1 : Int32)) := ⟨_, rfl⟩
      replace h := am_let_s ex8 h
      refine lv_iinc (pc := 83) (v := x8) (lv' := [(7, .int x8), (4, .int x7), (0, .ref self), (1, .int p0), (2, .long p1), (5, .long x1)]) hx hb dX0_restsAheadOf_83 hl (k := 5) rfl (by rw [ex8]; rfl) (by decide) rfl (fun ls hl => ?_)
      refine lv_goto (pc := 86) (tgt := 30) hx hb dX0_restsAheadOf_86 (by decide) ?_
      exact ihrec6 _ _ h ls (lv_sub hl [2, 3, 4, 1, 5, 0] rfl)
    replace h := am_f cc h
    refine lv_aload_n (pc := 61) hx hb dX0_restsAheadOf_61 rfl (lv_at hl 0 rfl) ?_
    refine va_get (pc := 62) (D := D) (ci := 0) (v := .ref b) (C := RX0) (T := TX0) (N := 3) hx hb hts hnX0 hown hK.1 hP 0 rfl rfl 1 (Nat.le_of_ble_eq_true rfl) hk35 (fun _ h9 => h9) rfl dX0_restsAheadOf_62 ?_
    refine lv_iload (pc := 65) hx hb dX0_restsAheadOf_65 (lv_at hl 5 rfl) ?_
    obtain ⟨hi, h⟩ := am_in_s h
    refine va_lald (pc := 67) hx hb hK.1 hP 2 1 rfl rfl hi dX0_restsAheadOf_67 ?_
    refine lv_lload (pc := 68) hx hb dX0_restsAheadOf_68 (lv_at hl 4 rfl) ?_
    refine W.lcmp (pc := 70) hx hb dX0_restsAheadOf_70 ?_
    refine lv_if_ne (pc := 71) (tgt := 83) hx hb dX0_restsAheadOf_71 (by decide) (fun cc => ?_) (fun cc => ?_)
    · replace h := am_f cc h
      obtain ⟨x9, ex9⟩ : ∃ y : Int32, y = (x5 + (1 : Int32)) := ⟨_, rfl⟩
      replace h := am_let_s ex9 h
      refine lv_iinc (pc := 83) (v := x9) (lv' := [(7, .int x9), (0, .ref self), (1, .int p0), (2, .long p1), (4, .int x4), (5, .long x1)]) hx hb dX0_restsAheadOf_83 hl (k := 5) rfl (by rw [ex9]; rfl) (by decide) rfl (fun ls hl => ?_)
      refine lv_goto (pc := 86) (tgt := 30) hx hb dX0_restsAheadOf_86 (by decide) ?_
      exact ihrec6 _ _ h ls (lv_sub hl [1, 2, 3, 4, 5, 0] rfl)
    replace h := am_t cc h
    refine lv_iload (pc := 74) hx hb dX0_restsAheadOf_74 (lv_at hl 5 rfl) ?_
    refine lv_iload_n (pc := 76) hx hb dX0_restsAheadOf_76 rfl (lv_at hl 1 rfl) ?_
    refine lv_icmp_ge (pc := 77) (tgt := 83) hx hb dX0_restsAheadOf_77 (by decide) (fun cc => ?_) (fun cc => ?_)
    · replace h := am_t cc h
      obtain ⟨x10, ex10⟩ : ∃ y : Int32, y = (x5 + (1 : Int32)) := ⟨_, rfl⟩
      replace h := am_let_s ex10 h
      refine lv_iinc (pc := 83) (v := x10) (lv' := [(7, .int x10), (0, .ref self), (1, .int p0), (2, .long p1), (4, .int x4), (5, .long x1)]) hx hb dX0_restsAheadOf_83 hl (k := 5) rfl (by rw [ex10]; rfl) (by decide) rfl (fun ls hl => ?_)
      refine lv_goto (pc := 86) (tgt := 30) hx hb dX0_restsAheadOf_86 (by decide) ?_
      exact ihrec6 _ _ h ls (lv_sub hl [1, 2, 3, 4, 5, 0] rfl)
    replace h := am_f cc h
    obtain ⟨x11, ex11⟩ : ∃ y : Int32, y = (x4 + (1 : Int32)) := ⟨_, rfl⟩
    replace h := am_let_s ex11 h
    refine lv_iinc (pc := 80) (v := x11) (lv' := [(4, .int x11), (0, .ref self), (1, .int p0), (2, .long p1), (5, .long x1), (7, .int x5)]) hx hb dX0_restsAheadOf_80 hl (k := 3) rfl (by rw [ex11]; rfl) (by decide) rfl (fun ls hl => ?_)
    obtain ⟨x12, ex12⟩ : ∃ y : Int32, y = (x5 + (1 : Int32)) := ⟨_, rfl⟩
    replace h := am_let_s ex12 h
    refine lv_iinc (pc := 83) (v := x12) (lv' := [(7, .int x12), (4, .int x11), (0, .ref self), (1, .int p0), (2, .long p1), (5, .long x1)]) hx hb dX0_restsAheadOf_83 hl (k := 5) rfl (by rw [ex12]; rfl) (by decide) rfl (fun ls hl => ?_)
    refine lv_goto (pc := 86) (tgt := 30) hx hb dX0_restsAheadOf_86 (by decide) ?_
    exact ihrec6 _ _ h ls (lv_sub hl [2, 3, 4, 1, 5, 0] rfl)
  replace h := am_f cc h
  refine lv_iload (pc := 16) hx hb dX0_restsAheadOf_16 (lv_at hl 0 rfl) ?_
  obtain e1 := am_ret1 h
  exact hret _ _ _ dX0_restsAheadOf_18 rfl e1
theorem hdX0_chooseByShares : yX0_chooseByShares.cls ≠ "java/lang/invoke/MethodHandle" ∧ yX0_chooseByShares.cls ≠ "java/lang/invoke/VarHandle" ∧ (parseMethodDescriptor yX0_chooseByShares.desc).map (fun d => d.parameters.length) = some 1 := by decide +kernel
abbrev rmX0_chooseByShares : Room := { frames := 1, cells := 0, slots := 0, locals := 27 }
set_option maxHeartbeats 20000000 in
set_option maxRecDepth 100000 in
theorem c_X0_chooseByShares (l : Launch) (D : va_G) (cI cJ : ClassId) (self : Nat) (a : Nat) (b : Nat) (wself : Nat) (wa : Nat) (noi : Int32) (anc : Nat → Int32) (rst : Nat → Int64) (wmany : Int32) (wf : Nat → Int32)  (zanc : Nat → Int32) (zrst : Nat → Int64) (hF : F_X0_chooseByShares anc rst wmany wf = some (zanc, zrst)) (sz : Nat) : Met l yX0_chooseByShares (wz yX0_chooseByShares cX0_chooseByShares 13 none) rmX0_chooseByShares (kPw D cI cJ [(self, .inr (0, [.ref a, .ref b, .int noi])), (a, .inl (cI, 12, .inl anc)), (b, .inl (cJ, 12, .inr (.inl rst))), (wself, .inr (5, [.ref wa, .int wmany])), (wa, .inl (cI, 12, .inl wf))] sz [.ref self, .ref wself]) (kQv D [(self, .inr (0, [.ref a, .ref b, .int noi])), (a, .inl (cI, 12, .inl zanc)), (b, .inl (cJ, 12, .inr (.inl zrst))), (wself, .inr (5, [.ref wa, .int wmany])), (wa, .inl (cI, 12, .inl wf))] (va_A [(self, .inr (0, [.ref a, .ref b, .int noi])), (a, .inl (cI, 12, .inl anc)), (b, .inl (cJ, 12, .inr (.inl rst))), (wself, .inr (5, [.ref wa, .int wmany])), (wa, .inl (cI, 12, .inl wf))] sz)) 0 0 (va_A [(self, .inr (0, [.ref a, .ref b, .int noi])), (a, .inl (cI, 12, .inl anc)), (b, .inl (cJ, 12, .inr (.inl rst))), (wself, .inr (5, [.ref wa, .int wmany])), (wa, .inl (cI, 12, .inl wf))] sz) := by
  refine kM_wv cX0_chooseByShares 13 (by decide +kernel) rfl rfl (Nat.le_of_ble_eq_true rfl) ⟨rfl, rfl⟩ ?_
  intro p e s m args below meth c Q A ls hx hb hml hown hts hP hK hD hA hS hl hret
  have hk34 := hts _ (List.mem_cons_of_mem _ wl34)
  have hk35 := hts _ (List.mem_cons_of_mem _ wl35)
  have hnX0 : ∀ w ∈ u_ws RX0 TX0 3, w ∈ wz yX0_chooseByShares cX0_chooseByShares 13 none := fun w h => List.mem_cons_of_mem _ (inlX0 w h)
  have hnX5 : ∀ w ∈ u_ws RX5 TX5 2, w ∈ wz yX0_chooseByShares cX0_chooseByShares 13 none := fun w h => List.mem_cons_of_mem _ (inlX5 w h)
  replace hl : lv_has ls 13 [(0, .ref self), (1, .ref wself)] := hl
  have h := hF
  unfold F_X0_chooseByShares at h
  refine lv_aload_n (pc := 0) hx hb dX0_chooseByShares_0 rfl (lv_at hl 1 rfl) ?_
  obtain ⟨r1, hc1, h⟩ := am_bind_s h
  refine kc_Vl (pc := 1) (ci := 5) ⟨hx, hb, hml, hown, hts⟩ hP hK [] (c_X5_sum l D cI cJ wself wa wmany wf r1 hc1) [3, 4] rfl (cwV 0 hts (gzV wl399 wl185 wl186 wl47 wl187) rfl rfl rfl ⟨rfl, hdX5_sum⟩ ⟨Nat.le_of_ble_eq_true rfl, Nat.le_of_ble_eq_true rfl⟩) rfl rfl [] rfl hl.1 rfl (Nat.le_of_ble_eq_true rfl) dX0_chooseByShares_1 ⟨Nat.zero_le _, Nat.zero_le _⟩ ?_
  refine lv_lstore_n (lv' := [(2, .long r1), (0, .ref self), (1, .ref wself)]) (pc := 4) hx hb dX0_chooseByShares_4 rfl hl (by decide) rfl (fun ls hl => ?_)
  refine lv_lload_n (pc := 5) hx hb dX0_chooseByShares_5 rfl (lv_at hl 0 rfl) ?_
  refine lv_lconst (v := 0) (pc := 6) hx hb dX0_chooseByShares_6 rfl ?_
  refine W.lcmp (pc := 7) hx hb dX0_chooseByShares_7 ?_
  refine lv_if_gt (pc := 8) (tgt := 12) hx hb dX0_chooseByShares_8 (by decide) (fun cc => ?_) (fun cc => ?_)
  · replace h := am_t cc h
    refine lv_aload_n (pc := 12) hx hb dX0_chooseByShares_12 rfl (lv_at hl 2 rfl) ?_
    refine va_getN (pc := 13) (D := D) (ci := 5) (v := .int wmany) (C := RX5) (T := TX5) (N := 2) hx hb hts hnX5 hown hK.1 hP 3 rfl rfl 1 (Nat.le_of_ble_eq_true rfl) (va_Nw.use rfl hK.2.2.2.2.2.2.2.2) (fun _ h9 => h9) rfl dX0_chooseByShares_13 ?_
    refine lv_i2l (pc := 16) hx hb dX0_chooseByShares_16 rfl ?_
    refine lv_topl (fun x2 ex2 => ?_)
    replace h := am_let_s ex2 h
    refine lv_lstore (lv' := [(4, .long x2), (2, .long r1), (0, .ref self), (1, .ref wself)]) (pc := 17) hx hb dX0_chooseByShares_17 hl (by decide) rfl (fun ls hl => ?_)
    refine lv_lload (pc := 19) hx hb dX0_chooseByShares_19 (lv_at hl 0 rfl) ?_
    refine lv_lstore (lv' := [(6, .long x2), (4, .long x2), (2, .long r1), (0, .ref self), (1, .ref wself)]) (pc := 21) hx hb dX0_chooseByShares_21 hl (by decide) rfl (fun ls hl => ?_)
    refine lv_iconst (v := 0) (pc := 23) hx hb dX0_chooseByShares_23 (by decide) ?_
    refine lv_istore (lv' := [(8, .int (0 : Int32)), (6, .long x2), (4, .long x2), (2, .long r1), (0, .ref self), (1, .ref wself)]) (pc := 24) hx hb dX0_chooseByShares_24 hl (by decide) rfl (fun ls hl => ?_)
    refine am_join2_s (fun (x3 : Int64) (f4 : Nat → Int64) => ∀ (ls : Array Slot), lv_has ls 13 [(0, .ref self), (1, .ref wself), (2, .long r1), (4, .long x2), (6, .long x3)] → ∀ (H : Heap) (locs : List Loc), va_P D vwCl [(self, .inr (0, [.ref a, .ref b, .int noi])), (a, .inl (cI, 12, .inl anc)), (b, .inl (cJ, 12, .inr (.inl f4))), (wself, .inr (5, [.ref wa, .int wmany])), (wa, .inl (cI, 12, .inl wf))] H → va_D A [(self, .inr (0, [.ref a, .ref b, .int noi])), (a, .inl (cI, 12, .inl anc)), (b, .inl (cJ, 12, .inr (.inl f4))), (wself, .inr (5, [.ref wa, .int wmany])), (wa, .inl (cI, 12, .inl wf))] → va_S A s.heap H locs → W p l e rmX0_chooseByShares s m args below meth c H locs 0 0 Q (F0 m 83 ls [])) h (fun x3 f4 h ls hl H locs hP hD hS => ?_) (fun K5 hK5 h => ?_)
    · refine lv_iconst (v := 0) (pc := 83) hx hb dX0_chooseByShares_83 (by decide) ?_
      refine lv_istore (lv' := [(8, .int (0 : Int32)), (0, .ref self), (1, .ref wself), (2, .long r1), (4, .long x2), (6, .long x3)]) (pc := 84) hx hb dX0_chooseByShares_84 hl (by decide) rfl (fun ls hl => ?_)
      refine lv_iconst (v := 0) (pc := 86) hx hb dX0_chooseByShares_86 (by decide) ?_
      refine lv_istore (lv' := [(9, .int (0 : Int32)), (8, .int (0 : Int32)), (0, .ref self), (1, .ref wself), (2, .long r1), (4, .long x2), (6, .long x3)]) (pc := 87) hx hb dX0_chooseByShares_87 hl (by decide) rfl (fun ls hl => ?_)
      refine am_join1_s (fun (f6 : Nat → Int32) => ∀ (ls : Array Slot), lv_has ls 13 [] → ∀ (H : Heap) (locs : List Loc), va_P D vwCl [(self, .inr (0, [.ref a, .ref b, .int noi])), (a, .inl (cI, 12, .inl f6)), (b, .inl (cJ, 12, .inr (.inl f4))), (wself, .inr (5, [.ref wa, .int wmany])), (wa, .inl (cI, 12, .inl wf))] H → va_D A [(self, .inr (0, [.ref a, .ref b, .int noi])), (a, .inl (cI, 12, .inl f6)), (b, .inl (cJ, 12, .inr (.inl f4))), (wself, .inr (5, [.ref wa, .int wmany])), (wa, .inl (cI, 12, .inl wf))] → va_S A s.heap H locs → W p l e rmX0_chooseByShares s m args below meth c H locs 0 0 Q (F0 m 189 ls [])) h (fun f6 h ls hl H locs hP hD hS => ?_) (fun K7 hK7 h => ?_)
      · obtain ⟨e1, e2⟩ := am_ret2 h
        exact hret _ _ _ _ dX0_chooseByShares_189 (by rw [← e1, ← e2]; exact hP) hS
      refine am_loop3_s (fun (x8 : Int32) (x9 : Int32) (f10 : Nat → Int32) => ∀ (ls : Array Slot), lv_has ls 13 [(0, .ref self), (1, .ref wself), (2, .long r1), (4, .long x2), (6, .long x3), (8, .int x8), (9, .int x9)] → ∀ (H : Heap) (locs : List Loc), va_P D vwCl [(self, .inr (0, [.ref a, .ref b, .int noi])), (a, .inl (cI, 12, .inl f10)), (b, .inl (cJ, 12, .inr (.inl f4))), (wself, .inr (5, [.ref wa, .int wmany])), (wa, .inl (cI, 12, .inl wf))] H → va_D A [(self, .inr (0, [.ref a, .ref b, .int noi])), (a, .inl (cI, 12, .inl f10)), (b, .inl (cJ, 12, .inr (.inl f4))), (wself, .inr (5, [.ref wa, .int wmany])), (wa, .inl (cI, 12, .inl wf))] → va_S A s.heap H locs → W p l e rmX0_chooseByShares s m args below meth c H locs 0 0 Q (F0 m 89 ls [])) (fun rec11 ihrec11 x8 x9 f10 h ls hl H locs hP hD hS => ?_) _ _ _ _ h ls (lv_sub hl [2, 3, 4, 5, 6, 1, 0] rfl) H locs hP hD hS
      unfold F_X0_chooseByShares_B89 at h
      refine lv_iload (pc := 89) hx hb dX0_chooseByShares_89 (lv_at hl 6 rfl) ?_
      refine lv_i2l (pc := 91) hx hb dX0_chooseByShares_91 rfl ?_
      refine lv_lload (pc := 92) hx hb dX0_chooseByShares_92 (lv_at hl 3 rfl) ?_
      refine W.lcmp (pc := 94) hx hb dX0_chooseByShares_94 ?_
      refine lv_if_ge (pc := 95) (tgt := 189) hx hb dX0_chooseByShares_95 (by decide) (fun cc => ?_) (fun cc => ?_)
      · replace h := am_t cc h
        exact hK7 _ h ls (lv_sub hl [] rfl) H locs hP hD hS
      replace h := am_f cc h
      refine lv_iload (pc := 98) hx hb dX0_chooseByShares_98 (lv_at hl 6 rfl) ?_
      refine lv_aload_n (pc := 100) hx hb dX0_chooseByShares_100 rfl (lv_at hl 0 rfl) ?_
      refine va_get (pc := 101) (D := D) (ci := 0) (v := .ref b) (C := RX0) (T := TX0) (N := 3) hx hb hts hnX0 hown hK.1 hP 0 rfl rfl 1 (Nat.le_of_ble_eq_true rfl) hk35 (fun _ h9 => h9) rfl dX0_chooseByShares_101 ?_
      refine va_alen (pc := 104) (v := (12 : Int32)) hx hb hK.1 hP 2 1 rfl rfl rfl dX0_chooseByShares_104 ?_
      refine lv_icmp_ge (pc := 105) (tgt := 189) hx hb dX0_chooseByShares_105 (by decide) (fun cc => ?_) (fun cc => ?_)
      · replace h := am_t cc h
        exact hK7 _ h ls (lv_sub hl [] rfl) H locs hP hD hS
      replace h := am_f cc h
      refine lv_lload (pc := 108) hx hb dX0_chooseByShares_108 (lv_at hl 3 rfl) ?_
      refine lv_aload_n (pc := 110) hx hb dX0_chooseByShares_110 rfl (lv_at hl 1 rfl) ?_
      refine lv_iload (pc := 111) hx hb dX0_chooseByShares_111 (lv_at hl 6 rfl) ?_
      obtain ⟨r12, hc12, h⟩ := am_bind_s h
      refine kc_Vi (pc := 113) (ci := 5) ⟨hx, hb, hml, hown, hts⟩ hP hK [.int x9] (c_X5_weightOf l D cI cJ wself wa wmany wf x9 r12 hc12) [3, 4] rfl (cwV 1 hts (gzV wl412 wl172 wl173 wl47 wl174) rfl rfl rfl ⟨rfl, hdX5_weightOf⟩ ⟨Nat.le_of_ble_eq_true rfl, Nat.le_of_ble_eq_true rfl⟩) rfl rfl [.long x2] rfl hl.1 rfl (Nat.le_of_ble_eq_true rfl) dX0_chooseByShares_113 ⟨Nat.zero_le _, Nat.zero_le _⟩ ?_
      refine lv_i2l (pc := 116) hx hb dX0_chooseByShares_116 rfl ?_
      refine lv_lmul (pc := 117) hx hb dX0_chooseByShares_117 ?_
      refine lv_lload_n (pc := 118) hx hb dX0_chooseByShares_118 rfl (lv_at hl 2 rfl) ?_
      obtain ⟨hz, h⟩ := am_nzl_s h
      refine lv_ldiv (pc := 119) hx hb dX0_chooseByShares_119 hz ?_
      refine lv_topl (fun x13 ex13 => ?_)
      replace h := am_let_s ex13 h
      refine lv_lstore (lv' := [(10, .long x13), (0, .ref self), (1, .ref wself), (2, .long r1), (4, .long x2), (6, .long x3), (8, .int x8), (9, .int x9)]) (pc := 120) hx hb dX0_chooseByShares_120 hl (by decide) rfl (fun ls hl => ?_)
      refine lv_aload_n (pc := 122) hx hb dX0_chooseByShares_122 rfl (lv_at hl 1 rfl) ?_
      refine lv_iload (pc := 123) hx hb dX0_chooseByShares_123 (lv_at hl 7 rfl) ?_
      refine lv_lload (pc := 125) hx hb dX0_chooseByShares_125 (lv_at hl 4 rfl) ?_
      obtain ⟨r14, hc14, h⟩ := am_bind_s h
      refine kc_Vi (pc := 127) (ci := 0) ⟨hx, hb, hml, hown, hts⟩ hP hK [.int x9, .long x2] (c_X0_restsAheadOf l D cI cJ self a b noi f10 f4 x9 x2 r14 hc14) [0, 1, 2] rfl (cwV 2 hts (gzV wl413 wl414 wl415 wl15 wl416) rfl rfl rfl ⟨rfl, hdX0_restsAheadOf⟩ ⟨Nat.le_of_ble_eq_true rfl, Nat.le_of_ble_eq_true rfl⟩) rfl rfl [] rfl hl.1 rfl (Nat.le_of_ble_eq_true rfl) dX0_chooseByShares_127 ⟨Nat.zero_le _, Nat.zero_le _⟩ ?_
      refine lv_i2l (pc := 130) hx hb dX0_chooseByShares_130 rfl ?_
      refine lv_lload (pc := 131) hx hb dX0_chooseByShares_131 (lv_at hl 5 rfl) ?_
      refine W.lcmp (pc := 133) hx hb dX0_chooseByShares_133 ?_
      refine am_join1_s (fun (x15 : Int64) => ∀ (ls : Array Slot), lv_has ls 13 [(0, .ref self), (1, .ref wself), (2, .long r1), (4, .long x2), (6, .long x3), (8, .int x8), (9, .int x9), (10, .long x15)] → W p l e rmX0_chooseByShares s m args below meth c H locs 0 0 Q (F0 m 143 ls [])) h (fun x15 h ls hl => ?_) (fun J16 hJ16 h => ?_)
      · refine lv_iconst (v := 0) (pc := 143) hx hb dX0_chooseByShares_143 (by decide) ?_
        refine lv_istore (lv' := [(12, .int (0 : Int32)), (0, .ref self), (1, .ref wself), (2, .long r1), (4, .long x2), (6, .long x3), (8, .int x8), (9, .int x9), (10, .long x15)]) (pc := 144) hx hb dX0_chooseByShares_144 hl (by decide) rfl (fun ls hl => ?_)
        refine am_join2_s (fun (x17 : Int32) (f18 : Nat → Int32) => ∀ (ls : Array Slot), lv_has ls 13 [(0, .ref self), (1, .ref wself), (2, .long r1), (4, .long x2), (6, .long x3), (8, .int x17), (9, .int x9)] → ∀ (H : Heap) (locs : List Loc), va_P D vwCl [(self, .inr (0, [.ref a, .ref b, .int noi])), (a, .inl (cI, 12, .inl f18)), (b, .inl (cJ, 12, .inr (.inl f4))), (wself, .inr (5, [.ref wa, .int wmany])), (wa, .inl (cI, 12, .inl wf))] H → va_D A [(self, .inr (0, [.ref a, .ref b, .int noi])), (a, .inl (cI, 12, .inl f18)), (b, .inl (cJ, 12, .inr (.inl f4))), (wself, .inr (5, [.ref wa, .int wmany])), (wa, .inl (cI, 12, .inl wf))] → va_S A s.heap H locs → W p l e rmX0_chooseByShares s m args below meth c H locs 0 0 Q (F0 m 183 ls [])) h (fun x17 f18 h ls hl H locs hP hD hS => ?_) (fun K19 hK19 h => ?_)
        · obtain ⟨x20, ex20⟩ : ∃ y : Int32, y = (x9 + (1 : Int32)) := ⟨_, rfl⟩
          replace h := am_let_s ex20 h
          refine lv_iinc (pc := 183) (v := x20) (lv' := [(9, .int x20), (0, .ref self), (1, .ref wself), (2, .long r1), (4, .long x2), (6, .long x3), (8, .int x17)]) hx hb dX0_chooseByShares_183 hl (k := 6) rfl (by rw [ex20]; rfl) (by decide) rfl (fun ls hl => ?_)
          refine lv_goto (pc := 186) (tgt := 89) hx hb dX0_chooseByShares_186 (by decide) ?_
          exact ihrec11 _ _ _ h ls (lv_sub hl [1, 2, 3, 4, 5, 6, 0] rfl) H locs hP hD hS
        refine am_loop3_s (fun (x21 : Int32) (x22 : Int32) (f23 : Nat → Int32) => ∀ (ls : Array Slot), lv_has ls 13 [(0, .ref self), (1, .ref wself), (2, .long r1), (4, .long x2), (6, .long x3), (8, .int x21), (9, .int x9), (10, .long x15), (12, .int x22)] → ∀ (H : Heap) (locs : List Loc), va_P D vwCl [(self, .inr (0, [.ref a, .ref b, .int noi])), (a, .inl (cI, 12, .inl f23)), (b, .inl (cJ, 12, .inr (.inl f4))), (wself, .inr (5, [.ref wa, .int wmany])), (wa, .inl (cI, 12, .inl wf))] H → va_D A [(self, .inr (0, [.ref a, .ref b, .int noi])), (a, .inl (cI, 12, .inl f23)), (b, .inl (cJ, 12, .inr (.inl f4))), (wself, .inr (5, [.ref wa, .int wmany])), (wa, .inl (cI, 12, .inl wf))] → va_S A s.heap H locs → W p l e rmX0_chooseByShares s m args below meth c H locs 0 0 Q (F0 m 146 ls [])) (fun rec24 ihrec24 x21 x22 f23 h ls hl H locs hP hD hS => ?_) _ _ _ _ h ls (lv_sub hl [1, 2, 3, 4, 5, 6, 7, 8, 0] rfl) H locs hP hD hS
        unfold F_X0_chooseByShares_B146 at h
        refine lv_iload (pc := 146) hx hb dX0_chooseByShares_146 (lv_at hl 8 rfl) ?_
        refine lv_i2l (pc := 148) hx hb dX0_chooseByShares_148 rfl ?_
        refine lv_lload (pc := 149) hx hb dX0_chooseByShares_149 (lv_at hl 7 rfl) ?_
        refine W.lcmp (pc := 151) hx hb dX0_chooseByShares_151 ?_
        refine lv_if_ge (pc := 152) (tgt := 183) hx hb dX0_chooseByShares_152 (by decide) (fun cc => ?_) (fun cc => ?_)
        · replace h := am_t cc h
          exact hK19 _ _ h ls (lv_sub hl [0, 1, 2, 3, 4, 5, 6] rfl) H locs hP hD hS
        replace h := am_f cc h
        refine lv_iload (pc := 155) hx hb dX0_chooseByShares_155 (lv_at hl 5 rfl) ?_
        refine lv_aload_n (pc := 157) hx hb dX0_chooseByShares_157 rfl (lv_at hl 0 rfl) ?_
        refine va_get (pc := 158) (D := D) (ci := 0) (v := .ref a) (C := RX0) (T := TX0) (N := 3) hx hb hts hnX0 hown hK.1 hP 0 rfl rfl 0 (Nat.le_of_ble_eq_true rfl) hk34 (fun _ h9 => h9) rfl dX0_chooseByShares_158 ?_
        refine va_alen (pc := 161) (v := (12 : Int32)) hx hb hK.1 hP 1 0 rfl rfl rfl dX0_chooseByShares_161 ?_
        refine lv_icmp_ge (pc := 162) (tgt := 183) hx hb dX0_chooseByShares_162 (by decide) (fun cc => ?_) (fun cc => ?_)
        · replace h := am_t cc h
          exact hK19 _ _ h ls (lv_sub hl [0, 1, 2, 3, 4, 5, 6] rfl) H locs hP hD hS
        replace h := am_f cc h
        refine lv_aload_n (pc := 165) hx hb dX0_chooseByShares_165 rfl (lv_at hl 0 rfl) ?_
        refine va_get (pc := 166) (D := D) (ci := 0) (v := .ref a) (C := RX0) (T := TX0) (N := 3) hx hb hts hnX0 hown hK.1 hP 0 rfl rfl 0 (Nat.le_of_ble_eq_true rfl) hk34 (fun _ h9 => h9) rfl dX0_chooseByShares_166 ?_
        refine lv_iload (pc := 169) hx hb dX0_chooseByShares_169 (lv_at hl 5 rfl) ?_
        refine lv_iload (pc := 171) hx hb dX0_chooseByShares_171 (lv_at hl 6 rfl) ?_
        obtain ⟨hi, h⟩ := am_in_s h
        obtain ⟨f25, ef25⟩ : ∃ y : Nat → Int32, y = (upd f23 x21.toNatClampNeg x9) := ⟨_, rfl⟩
        replace h := am_let_s ef25 h
        refine va_iast (pc := 173) hx hb hK.1 hP hD hS 1 0 rfl rfl hi dX0_chooseByShares_173 (fun H locs hP hD hS => ?_)
        rw [← ef25] at hP hD
        replace hP : va_P D vwCl [(self, .inr (0, [.ref a, .ref b, .int noi])), (a, .inl (cI, 12, .inl f25)), (b, .inl (cJ, 12, .inr (.inl f4))), (wself, .inr (5, [.ref wa, .int wmany])), (wa, .inl (cI, 12, .inl wf))] H := hP
        replace hD : va_D A [(self, .inr (0, [.ref a, .ref b, .int noi])), (a, .inl (cI, 12, .inl f25)), (b, .inl (cJ, 12, .inr (.inl f4))), (wself, .inr (5, [.ref wa, .int wmany])), (wa, .inl (cI, 12, .inl wf))] := hD
        obtain ⟨x26, ex26⟩ : ∃ y : Int32, y = (x21 + (1 : Int32)) := ⟨_, rfl⟩
        replace h := am_let_s ex26 h
        refine lv_iinc (pc := 174) (v := x26) (lv' := [(8, .int x26), (0, .ref self), (1, .ref wself), (2, .long r1), (4, .long x2), (6, .long x3), (9, .int x9), (10, .long x15), (12, .int x22)]) hx hb dX0_chooseByShares_174 hl (k := 5) rfl (by rw [ex26]; rfl) (by decide) rfl (fun ls hl => ?_)
        obtain ⟨x27, ex27⟩ : ∃ y : Int32, y = (x22 + (1 : Int32)) := ⟨_, rfl⟩
        replace h := am_let_s ex27 h
        refine lv_iinc (pc := 177) (v := x27) (lv' := [(12, .int x27), (8, .int x26), (0, .ref self), (1, .ref wself), (2, .long r1), (4, .long x2), (6, .long x3), (9, .int x9), (10, .long x15)]) hx hb dX0_chooseByShares_177 hl (k := 8) rfl (by rw [ex27]; rfl) (by decide) rfl (fun ls hl => ?_)
        refine lv_goto (pc := 180) (tgt := 146) hx hb dX0_chooseByShares_180 (by decide) ?_
        exact ihrec24 _ _ _ h ls (lv_sub hl [2, 3, 4, 5, 6, 1, 7, 8, 0] rfl) H locs hP hD hS
      refine lv_if_ge (pc := 134) (tgt := 143) hx hb dX0_chooseByShares_134 (by decide) (fun cc => ?_) (fun cc => ?_)
      · replace h := am_t cc h
        exact hJ16 _ h ls (lv_sub hl [1, 2, 3, 4, 5, 6, 7, 0] rfl)
      replace h := am_f cc h
      refine lv_lload (pc := 137) hx hb dX0_chooseByShares_137 (lv_at hl 0 rfl) ?_
      refine lv_lconst (v := 1) (pc := 139) hx hb dX0_chooseByShares_139 rfl ?_
      refine lv_ladd (pc := 140) hx hb dX0_chooseByShares_140 ?_
      refine lv_topl (fun x28 ex28 => ?_)
      replace h := am_let_s ex28 h
      refine lv_lstore (lv' := [(10, .long x28), (0, .ref self), (1, .ref wself), (2, .long r1), (4, .long x2), (6, .long x3), (8, .int x8), (9, .int x9)]) (pc := 141) hx hb dX0_chooseByShares_141 hl (by decide) rfl (fun ls hl => ?_)
      exact hJ16 _ h ls (lv_sub hl [1, 2, 3, 4, 5, 6, 7, 0] rfl)
    refine am_loop3_s (fun (x29 : Int64) (x30 : Int32) (f31 : Nat → Int64) => ∀ (ls : Array Slot), lv_has ls 13 [(0, .ref self), (1, .ref wself), (2, .long r1), (4, .long x2), (6, .long x29), (8, .int x30)] → ∀ (H : Heap) (locs : List Loc), va_P D vwCl [(self, .inr (0, [.ref a, .ref b, .int noi])), (a, .inl (cI, 12, .inl anc)), (b, .inl (cJ, 12, .inr (.inl f31))), (wself, .inr (5, [.ref wa, .int wmany])), (wa, .inl (cI, 12, .inl wf))] H → va_D A [(self, .inr (0, [.ref a, .ref b, .int noi])), (a, .inl (cI, 12, .inl anc)), (b, .inl (cJ, 12, .inr (.inl f31))), (wself, .inr (5, [.ref wa, .int wmany])), (wa, .inl (cI, 12, .inl wf))] → va_S A s.heap H locs → W p l e rmX0_chooseByShares s m args below meth c H locs 0 0 Q (F0 m 26 ls [])) (fun rec32 ihrec32 x29 x30 f31 h ls hl H locs hP hD hS => ?_) _ _ _ _ h ls (lv_sub hl [4, 5, 3, 2, 1, 0] rfl) s.heap [] hP hD hS
    unfold F_X0_chooseByShares_B26 at h
    refine lv_iload (pc := 26) hx hb dX0_chooseByShares_26 (lv_at hl 5 rfl) ?_
    refine lv_i2l (pc := 28) hx hb dX0_chooseByShares_28 rfl ?_
    refine lv_lload (pc := 29) hx hb dX0_chooseByShares_29 (lv_at hl 3 rfl) ?_
    refine W.lcmp (pc := 31) hx hb dX0_chooseByShares_31 ?_
    refine lv_if_ge (pc := 32) (tgt := 83) hx hb dX0_chooseByShares_32 (by decide) (fun cc => ?_) (fun cc => ?_)
    · replace h := am_t cc h
      exact hK5 _ _ h ls (lv_sub hl [0, 1, 2, 3, 4] rfl) H locs hP hD hS
    replace h := am_f cc h
    refine lv_iload (pc := 35) hx hb dX0_chooseByShares_35 (lv_at hl 5 rfl) ?_
    refine lv_aload_n (pc := 37) hx hb dX0_chooseByShares_37 rfl (lv_at hl 0 rfl) ?_
    refine va_get (pc := 38) (D := D) (ci := 0) (v := .ref b) (C := RX0) (T := TX0) (N := 3) hx hb hts hnX0 hown hK.1 hP 0 rfl rfl 1 (Nat.le_of_ble_eq_true rfl) hk35 (fun _ h9 => h9) rfl dX0_chooseByShares_38 ?_
    refine va_alen (pc := 41) (v := (12 : Int32)) hx hb hK.1 hP 2 1 rfl rfl rfl dX0_chooseByShares_41 ?_
    refine lv_icmp_ge (pc := 42) (tgt := 83) hx hb dX0_chooseByShares_42 (by decide) (fun cc => ?_) (fun cc => ?_)
    · replace h := am_t cc h
      exact hK5 _ _ h ls (lv_sub hl [0, 1, 2, 3, 4] rfl) H locs hP hD hS
    replace h := am_f cc h
    refine lv_lload (pc := 45) hx hb dX0_chooseByShares_45 (lv_at hl 3 rfl) ?_
    refine lv_aload_n (pc := 47) hx hb dX0_chooseByShares_47 rfl (lv_at hl 1 rfl) ?_
    refine lv_iload (pc := 48) hx hb dX0_chooseByShares_48 (lv_at hl 5 rfl) ?_
    obtain ⟨r33, hc33, h⟩ := am_bind_s h
    refine kc_Vi (pc := 50) (ci := 5) ⟨hx, hb, hml, hown, hts⟩ hP hK [.int x30] (c_X5_weightOf l D cI cJ wself wa wmany wf x30 r33 hc33) [3, 4] rfl (cwV 1 hts (gzV wl412 wl172 wl173 wl47 wl174) rfl rfl rfl ⟨rfl, hdX5_weightOf⟩ ⟨Nat.le_of_ble_eq_true rfl, Nat.le_of_ble_eq_true rfl⟩) rfl rfl [.long x2] rfl hl.1 rfl (Nat.le_of_ble_eq_true rfl) dX0_chooseByShares_50 ⟨Nat.zero_le _, Nat.zero_le _⟩ ?_
    refine lv_i2l (pc := 53) hx hb dX0_chooseByShares_53 rfl ?_
    refine lv_lmul (pc := 54) hx hb dX0_chooseByShares_54 ?_
    refine lv_topl (fun x34 ex34 => ?_)
    replace h := am_let_s ex34 h
    refine lv_lstore (lv' := [(9, .long x34), (0, .ref self), (1, .ref wself), (2, .long r1), (4, .long x2), (6, .long x29), (8, .int x30)]) (pc := 55) hx hb dX0_chooseByShares_55 hl (by decide) rfl (fun ls hl => ?_)
    refine lv_lload (pc := 57) hx hb dX0_chooseByShares_57 (lv_at hl 5 rfl) ?_
    refine lv_lload (pc := 59) hx hb dX0_chooseByShares_59 (lv_at hl 0 rfl) ?_
    refine lv_lload_n (pc := 61) hx hb dX0_chooseByShares_61 rfl (lv_at hl 3 rfl) ?_
    obtain ⟨hz, h⟩ := am_nzl_s h
    refine lv_ldiv (pc := 62) hx hb dX0_chooseByShares_62 hz ?_
    refine lv_lsub (pc := 63) hx hb dX0_chooseByShares_63 ?_
    refine lv_topl (fun x35 ex35 => ?_)
    replace h := am_let_s ex35 h
    refine lv_lstore (lv' := [(6, .long x35), (9, .long x34), (0, .ref self), (1, .ref wself), (2, .long r1), (4, .long x2), (8, .int x30)]) (pc := 64) hx hb dX0_chooseByShares_64 hl (by decide) rfl (fun ls hl => ?_)
    refine lv_aload_n (pc := 66) hx hb dX0_chooseByShares_66 rfl (lv_at hl 2 rfl) ?_
    refine va_get (pc := 67) (D := D) (ci := 0) (v := .ref b) (C := RX0) (T := TX0) (N := 3) hx hb hts hnX0 hown hK.1 hP 0 rfl rfl 1 (Nat.le_of_ble_eq_true rfl) hk35 (fun _ h9 => h9) rfl dX0_chooseByShares_67 ?_
    refine lv_iload (pc := 70) hx hb dX0_chooseByShares_70 (lv_at hl 6 rfl) ?_
    refine lv_lload (pc := 72) hx hb dX0_chooseByShares_72 (lv_at hl 1 rfl) ?_
    refine lv_lload_n (pc := 74) hx hb dX0_chooseByShares_74 rfl (lv_at hl 4 rfl) ?_
    obtain ⟨hz, h⟩ := am_nzl_s h
    refine lv_lrem (pc := 75) hx hb dX0_chooseByShares_75 hz ?_
    obtain ⟨hi, h⟩ := am_in_s h
    obtain ⟨f36, ef36⟩ : ∃ y : Nat → Int64, y = (vp_updL f31 x30.toNatClampNeg (x34 - x34 / r1 * r1)) := ⟨_, rfl⟩
    replace h := am_let_s ef36 h
    refine va_last (pc := 76) hx hb hK.1 hP hD hS 2 1 rfl rfl hi dX0_chooseByShares_76 (fun H locs hP hD hS => ?_)
    rw [← ef36] at hP hD
    replace hP : va_P D vwCl [(self, .inr (0, [.ref a, .ref b, .int noi])), (a, .inl (cI, 12, .inl anc)), (b, .inl (cJ, 12, .inr (.inl f36))), (wself, .inr (5, [.ref wa, .int wmany])), (wa, .inl (cI, 12, .inl wf))] H := hP
    replace hD : va_D A [(self, .inr (0, [.ref a, .ref b, .int noi])), (a, .inl (cI, 12, .inl anc)), (b, .inl (cJ, 12, .inr (.inl f36))), (wself, .inr (5, [.ref wa, .int wmany])), (wa, .inl (cI, 12, .inl wf))] := hD
    obtain ⟨x37, ex37⟩ : ∃ y : Int32, y = (x30 + (1 : Int32)) := ⟨_, rfl⟩
    replace h := am_let_s ex37 h
    refine lv_iinc (pc := 77) (v := x37) (lv' := [(8, .int x37), (6, .long x35), (9, .long x34), (0, .ref self), (1, .ref wself), (2, .long r1), (4, .long x2)]) hx hb dX0_chooseByShares_77 hl (k := 6) rfl (by rw [ex37]; rfl) (by decide) rfl (fun ls hl => ?_)
    refine lv_goto (pc := 80) (tgt := 26) hx hb dX0_chooseByShares_80 (by decide) ?_
    exact ihrec32 _ _ _ h ls (lv_sub hl [3, 4, 5, 6, 1, 0] rfl) H locs hP hD hS
  replace h := am_f cc h
  obtain ⟨e1, e2⟩ := am_ret2 h
  exact hret _ _ _ _ dX0_chooseByShares_11 (by rw [← e1, ← e2]; exact hP) hS
theorem hdX0_choose : yX0_choose.cls ≠ "java/lang/invoke/MethodHandle" ∧ yX0_choose.cls ≠ "java/lang/invoke/VarHandle" ∧ (parseMethodDescriptor yX0_choose.desc).map (fun d => d.parameters.length) = some 4 := by decide +kernel
abbrev rmX0_choose : Room := { frames := 2, cells := 0, slots := 0, locals := 59 }
set_option maxHeartbeats 20000000 in
set_option maxRecDepth 100000 in
theorem c_X0_choose (l : Launch) (D : va_G) (cI cJ : ClassId) (self : Nat) (a : Nat) (b : Nat) (wself : Nat) (wa : Nat) (noi : Int32) (anc : Nat → Int32) (rst : Nat → Int64) (wmany : Int32) (wf : Nat → Int32) (p0 : Int32) (p2 : Int32) (p3 : Int32) (znoi : Int32) (zanc : Nat → Int32) (zrst : Nat → Int64) (hF : F_X0_choose noi anc rst wmany wf p0 p2 p3 = some (znoi, zanc, zrst)) (sz : Nat) : Met l yX0_choose (wz yX0_choose cX0_choose 5 none) rmX0_choose (kPw D cI cJ [(self, .inr (0, [.ref a, .ref b, .int noi])), (a, .inl (cI, 12, .inl anc)), (b, .inl (cJ, 12, .inr (.inl rst))), (wself, .inr (5, [.ref wa, .int wmany])), (wa, .inl (cI, 12, .inl wf))] sz [.ref self, .int p0, .ref wself, .int p2, .int p3]) (kQv D [(self, .inr (0, [.ref a, .ref b, .int znoi])), (a, .inl (cI, 12, .inl zanc)), (b, .inl (cJ, 12, .inr (.inl zrst))), (wself, .inr (5, [.ref wa, .int wmany])), (wa, .inl (cI, 12, .inl wf))] (va_A [(self, .inr (0, [.ref a, .ref b, .int noi])), (a, .inl (cI, 12, .inl anc)), (b, .inl (cJ, 12, .inr (.inl rst))), (wself, .inr (5, [.ref wa, .int wmany])), (wa, .inl (cI, 12, .inl wf))] sz)) 0 0 (va_A [(self, .inr (0, [.ref a, .ref b, .int noi])), (a, .inl (cI, 12, .inl anc)), (b, .inl (cJ, 12, .inr (.inl rst))), (wself, .inr (5, [.ref wa, .int wmany])), (wa, .inl (cI, 12, .inl wf))] sz) := by
  refine kM_wv cX0_choose 5 (by decide +kernel) rfl rfl (Nat.le_of_ble_eq_true rfl) ⟨rfl, rfl⟩ ?_
  intro p e s m args below meth c Q A ls hx hb hml hown hts hP hK hD hA hS hl hret
  have hk36 := hts _ (List.mem_cons_of_mem _ wl36)
  have hnX0 : ∀ w ∈ u_ws RX0 TX0 3, w ∈ wz yX0_choose cX0_choose 5 none := fun w h => List.mem_cons_of_mem _ (inlX0 w h)
  replace hl : lv_has ls 5 [(0, .ref self), (1, .int p0), (2, .ref wself), (3, .int p2), (4, .int p3)] := hl
  have h := hF
  unfold F_X0_choose at h
  refine lv_aload_n (pc := 0) hx hb dX0_choose_0 rfl (lv_at hl 0 rfl) ?_
  refine lv_iload (pc := 1) hx hb dX0_choose_1 (lv_at hl 4 rfl) ?_
  refine va_put (pc := 3) (D := D) (ci := 0) (v := .int p3) (ty := .int) (C := RX0) (T := TX0) (N := 3) hx hb hts hnX0 tyX0 tyX0_ok nmX0 hown hK.1 hP hD hS 0 rfl rfl 2 (Nat.le_of_ble_eq_true rfl) hk36 (fun _ h9 => h9) rfl (by decide +kernel) rfl rfl (Nat.le_of_ble_eq_true rfl) dX0_choose_3 (fun H locs hP hD hS => ?_)
  replace hP : va_P D vwCl [(self, .inr (0, [.ref a, .ref b, .int p3])), (a, .inl (cI, 12, .inl anc)), (b, .inl (cJ, 12, .inr (.inl rst))), (wself, .inr (5, [.ref wa, .int wmany])), (wa, .inl (cI, 12, .inl wf))] H := hP
  replace hD : va_D A [(self, .inr (0, [.ref a, .ref b, .int p3])), (a, .inl (cI, 12, .inl anc)), (b, .inl (cJ, 12, .inr (.inl rst))), (wself, .inr (5, [.ref wa, .int wmany])), (wa, .inl (cI, 12, .inl wf))] := hD
  refine lv_iload_n (pc := 6) hx hb dX0_choose_6 rfl (lv_at hl 1 rfl) ?_
  refine lv_if_ne (pc := 7) (tgt := 19) hx hb dX0_choose_7 (by decide) (fun cc => ?_) (fun cc => ?_)
  · replace h := am_f cc h
    refine lv_iload_n (pc := 19) hx hb dX0_choose_19 rfl (lv_at hl 1 rfl) ?_
    refine lv_iconst (v := 1) (pc := 20) hx hb dX0_choose_20 (by decide) ?_
    refine lv_icmp_ne (pc := 21) (tgt := 32) hx hb dX0_choose_21 (by decide) (fun cc => ?_) (fun cc => ?_)
    · replace h := am_f cc h
      refine lv_aload_n (pc := 32) hx hb dX0_choose_32 rfl (lv_at hl 0 rfl) ?_
      refine lv_aload_n (pc := 33) hx hb dX0_choose_33 rfl (lv_at hl 2 rfl) ?_
      obtain ⟨f1, f2, hc2, h⟩ := am_call2_s h
      refine kc_Wv (pc := 34) (ci := 0) ⟨hx, hb, hml, hown, hts⟩ hP hK hD hS hA [.ref wself] (c_X0_chooseByShares l D cI cJ self a b wself wa p3 anc rst wmany wf f1 f2 hc2 _) [0, 1, 2, 3, 4] rfl rfl rfl (cwV 1 hts (gzV wl408 wl409 wl410 wl15 wl411) rfl rfl rfl ⟨rfl, hdX0_chooseByShares⟩ ⟨Nat.le_of_ble_eq_true rfl, Nat.le_of_ble_eq_true rfl⟩) rfl rfl [] rfl hl.1 rfl (Nat.le_of_ble_eq_true rfl) dX0_choose_34 ⟨Nat.zero_le _, Nat.zero_le _⟩ (fun H locs hP hD hS => ?_)
      replace hP : va_P D vwCl [(self, .inr (0, [.ref a, .ref b, .int p3])), (a, .inl (cI, 12, .inl f1)), (b, .inl (cJ, 12, .inr (.inl f2))), (wself, .inr (5, [.ref wa, .int wmany])), (wa, .inl (cI, 12, .inl wf))] H := hP
      replace hD : va_D A [(self, .inr (0, [.ref a, .ref b, .int p3])), (a, .inl (cI, 12, .inl f1)), (b, .inl (cJ, 12, .inr (.inl f2))), (wself, .inr (5, [.ref wa, .int wmany])), (wa, .inl (cI, 12, .inl wf))] := hD
      obtain ⟨e1, e2, e3⟩ := am_ret3 h
      exact hret _ _ _ _ dX0_choose_37 (by rw [← e1, ← e2, ← e3]; exact hP) hS
    replace h := am_t cc h
    refine lv_aload_n (pc := 24) hx hb dX0_choose_24 rfl (lv_at hl 0 rfl) ?_
    refine lv_aload_n (pc := 25) hx hb dX0_choose_25 rfl (lv_at hl 2 rfl) ?_
    obtain ⟨u3, f4, hc4, h⟩ := am_call2_s h
    refine kc_Wv (pc := 26) (ci := 0) ⟨hx, hb, hml, hown, hts⟩ hP hK hD hS hA [.ref wself] (c_X0_chooseByNoises l D cI cJ self a b wself wa p3 anc rst wmany wf u3 f4 hc4 _) [0, 1, 2, 3, 4] rfl rfl rfl (cwV 1 hts (gzV wl404 wl405 wl406 wl15 wl407) rfl rfl rfl ⟨rfl, hdX0_chooseByNoises⟩ ⟨Nat.le_of_ble_eq_true rfl, Nat.le_of_ble_eq_true rfl⟩) rfl rfl [] rfl hl.1 rfl (Nat.le_of_ble_eq_true rfl) dX0_choose_26 ⟨Nat.zero_le _, Nat.zero_le _⟩ (fun H locs hP hD hS => ?_)
    replace hP : va_P D vwCl [(self, .inr (0, [.ref a, .ref b, .int u3])), (a, .inl (cI, 12, .inl f4)), (b, .inl (cJ, 12, .inr (.inl rst))), (wself, .inr (5, [.ref wa, .int wmany])), (wa, .inl (cI, 12, .inl wf))] H := hP
    replace hD : va_D A [(self, .inr (0, [.ref a, .ref b, .int u3])), (a, .inl (cI, 12, .inl f4)), (b, .inl (cJ, 12, .inr (.inl rst))), (wself, .inr (5, [.ref wa, .int wmany])), (wa, .inl (cI, 12, .inl wf))] := hD
    refine lv_goto (pc := 29) (tgt := 37) hx hb dX0_choose_29 (by decide) ?_
    obtain ⟨e1, e2, e3⟩ := am_ret3 h
    exact hret _ _ _ _ dX0_choose_37 (by rw [← e1, ← e2, ← e3]; exact hP) hS
  replace h := am_t cc h
  refine lv_aload_n (pc := 10) hx hb dX0_choose_10 rfl (lv_at hl 0 rfl) ?_
  refine lv_aload_n (pc := 11) hx hb dX0_choose_11 rfl (lv_at hl 2 rfl) ?_
  refine lv_iload_n (pc := 12) hx hb dX0_choose_12 rfl (lv_at hl 3 rfl) ?_
  obtain ⟨f5, hc5, h⟩ := am_bind_s h
  refine kc_Wv (pc := 13) (ci := 0) ⟨hx, hb, hml, hown, hts⟩ hP hK hD hS hA [.ref wself, .int p2] (c_X0_chooseByOffset l D cI cJ self a b wself wa p3 anc rst wmany wf p2 f5 hc5 _) [0, 1, 2, 3, 4] rfl rfl rfl (cwV 2 hts (gzV wl394 wl395 wl396 wl15 wl397) rfl rfl rfl ⟨rfl, hdX0_chooseByOffset⟩ ⟨Nat.le_of_ble_eq_true rfl, Nat.le_of_ble_eq_true rfl⟩) rfl rfl [] rfl hl.1 rfl (Nat.le_of_ble_eq_true rfl) dX0_choose_13 ⟨Nat.zero_le _, Nat.zero_le _⟩ (fun H locs hP hD hS => ?_)
  replace hP : va_P D vwCl [(self, .inr (0, [.ref a, .ref b, .int p3])), (a, .inl (cI, 12, .inl f5)), (b, .inl (cJ, 12, .inr (.inl rst))), (wself, .inr (5, [.ref wa, .int wmany])), (wa, .inl (cI, 12, .inl wf))] H := hP
  replace hD : va_D A [(self, .inr (0, [.ref a, .ref b, .int p3])), (a, .inl (cI, 12, .inl f5)), (b, .inl (cJ, 12, .inr (.inl rst))), (wself, .inr (5, [.ref wa, .int wmany])), (wa, .inl (cI, 12, .inl wf))] := hD
  refine lv_goto (pc := 16) (tgt := 37) hx hb dX0_choose_16 (by decide) ?_
  obtain ⟨e1, e2, e3⟩ := am_ret3 h
  exact hret _ _ _ _ dX0_choose_37 (by rw [← e1, ← e2, ← e3]; exact hP) hS
