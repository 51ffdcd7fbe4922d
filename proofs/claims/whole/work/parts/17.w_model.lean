-- contracts, printed by wip/whole/gen.py
theorem hdX7_in : yX7_in.cls ≠ "java/lang/invoke/MethodHandle" ∧ yX7_in.cls ≠ "java/lang/invoke/VarHandle" ∧ (parseMethodDescriptor yX7_in.desc).map (fun d => d.parameters.length) = some 3 := by decide +kernel
abbrev rmX7_in : Room := { frames := 0, cells := 0, slots := 0, locals := 0 }
set_option maxHeartbeats 20000000 in
set_option maxRecDepth 100000 in
theorem c_X7_in (l : Launch) (D : va_G) (cI cJ : ClassId)   (p0 : Int32) (p1 : Int32) (p2 : Int32) (r0 : Int32) (hF : F_X7_in p0 p1 p2 = some r0) : Met l yX7_in (wz yX7_in cX7_in 3 (some .boolean)) rmX7_in (kPc D cI cJ [] [.int p0, .int p1, .int p2]) (vp_Si (fun r => r = r0)) 0 0 (fun _ => False) := by
  refine kM_ri cX7_in 3 .boolean (by decide +kernel) rfl rfl (Nat.le_of_ble_eq_true rfl) ⟨rfl, rfl⟩ ?_
  intro p e s m args below meth c Q ls hx hb hml hown hts hP hK hl hret
  replace hl : lv_has ls 3 [(0, .int p0), (1, .int p1), (2, .int p2)] := hl
  have h := hF
  unfold F_X7_in at h
  refine lv_iload_n (pc := 0) hx hb dX7_in_0 rfl (lv_at hl 0 rfl) ?_
  refine lv_iload_n (pc := 1) hx hb dX7_in_1 rfl (lv_at hl 1 rfl) ?_
  refine lv_icmp_lt (pc := 2) (tgt := 14) hx hb dX7_in_2 (by decide) (fun cc => ?_) (fun cc => ?_)
  · replace h := am_t cc h
    refine lv_iconst (v := 0) (pc := 14) hx hb dX7_in_14 (by decide) ?_
    obtain e1 := am_ret1 h
    exact hret _ _ _ dX7_in_15 rfl e1
  replace h := am_f cc h
  refine lv_iload_n (pc := 5) hx hb dX7_in_5 rfl (lv_at hl 0 rfl) ?_
  refine lv_iload_n (pc := 6) hx hb dX7_in_6 rfl (lv_at hl 2 rfl) ?_
  refine lv_icmp_gt (pc := 7) (tgt := 14) hx hb dX7_in_7 (by decide) (fun cc => ?_) (fun cc => ?_)
  · replace h := am_t cc h
    refine lv_iconst (v := 0) (pc := 14) hx hb dX7_in_14 (by decide) ?_
    obtain e1 := am_ret1 h
    exact hret _ _ _ dX7_in_15 rfl e1
  replace h := am_f cc h
  refine lv_iconst (v := 1) (pc := 10) hx hb dX7_in_10 (by decide) ?_
  refine lv_goto (pc := 11) (tgt := 15) hx hb dX7_in_11 (by decide) ?_
  obtain e1 := am_ret1 h
  exact hret _ _ _ dX7_in_15 rfl e1
theorem hdX7_copies : yX7_copies.cls ≠ "java/lang/invoke/MethodHandle" ∧ yX7_copies.cls ≠ "java/lang/invoke/VarHandle" ∧ (parseMethodDescriptor yX7_copies.desc).map (fun d => d.parameters.length) = some 2 := by decide +kernel
abbrev rmX7_copies : Room := { frames := 0, cells := 0, slots := 0, locals := 0 }
set_option maxHeartbeats 20000000 in
set_option maxRecDepth 100000 in
theorem c_X7_copies (l : Launch) (D : va_G) (cI cJ : ClassId) (qa0 : Nat) (qa1 : Nat) (q0 : Nat → Int32) (q1 : Nat → Int32)  (zq1 : Nat → Int32) (hF : F_X7_copies q0 q1 = some zq1) (sz : Nat) : Met l yX7_copies (wz yX7_copies cX7_copies 3 none) rmX7_copies (kPw D cI cJ [(qa0, .inl (cI, 580, .inl q0)), (qa1, .inl (cI, 580, .inl q1))] sz [.ref qa0, .ref qa1]) (kQv D [(qa0, .inl (cI, 580, .inl q0)), (qa1, .inl (cI, 580, .inl zq1))] (va_A [(qa0, .inl (cI, 580, .inl q0)), (qa1, .inl (cI, 580, .inl q1))] sz)) 0 0 (va_A [(qa0, .inl (cI, 580, .inl q0)), (qa1, .inl (cI, 580, .inl q1))] sz) := by
  refine kM_wv cX7_copies 3 (by decide +kernel) rfl rfl (Nat.le_of_ble_eq_true rfl) ⟨rfl, rfl⟩ ?_
  intro p e s m args below meth c Q A ls hx hb hml hown hts hP hK hD hA hS hl hret
  replace hl : lv_has ls 3 [(0, .ref qa0), (1, .ref qa1)] := hl
  have h := hF
  unfold F_X7_copies at h
  refine lv_iconst (v := 0) (pc := 0) hx hb dX7_copies_0 (by decide) ?_
  refine lv_istore_n (lv' := [(2, .int (0 : Int32)), (0, .ref qa0), (1, .ref qa1)]) (pc := 1) hx hb dX7_copies_1 rfl hl (by decide) rfl (fun ls hl => ?_)
  refine am_join1_s (fun (f1 : Nat → Int32) => ∀ (ls : Array Slot), lv_has ls 3 [] → ∀ (H : Heap) (locs : List Loc), va_P D vwCl [(qa0, .inl (cI, 580, .inl q0)), (qa1, .inl (cI, 580, .inl f1))] H → va_D A [(qa0, .inl (cI, 580, .inl q0)), (qa1, .inl (cI, 580, .inl f1))] → va_S A s.heap H locs → W p l e rmX7_copies s m args below meth c H locs 0 0 Q (F0 m 21 ls [])) h (fun f1 h ls hl H locs hP hD hS => ?_) (fun K2 hK2 h => ?_)
  · obtain e1 := am_ret1 h
    exact hret _ _ _ _ dX7_copies_21 (by rw [← e1]; exact hP) hS
  refine am_loop2_s (fun (x3 : Int32) (f4 : Nat → Int32) => ∀ (ls : Array Slot), lv_has ls 3 [(0, .ref qa0), (1, .ref qa1), (2, .int x3)] → ∀ (H : Heap) (locs : List Loc), va_P D vwCl [(qa0, .inl (cI, 580, .inl q0)), (qa1, .inl (cI, 580, .inl f4))] H → va_D A [(qa0, .inl (cI, 580, .inl q0)), (qa1, .inl (cI, 580, .inl f4))] → va_S A s.heap H locs → W p l e rmX7_copies s m args below meth c H locs 0 0 Q (F0 m 2 ls [])) (fun rec5 ihrec5 x3 f4 h ls hl H locs hP hD hS => ?_) _ _ _ h ls (lv_sub hl [1, 2, 0] rfl) s.heap [] hP hD hS
  unfold F_X7_copies_B2 at h
  refine lv_iload_n (pc := 2) hx hb dX7_copies_2 rfl (lv_at hl 2 rfl) ?_
  refine lv_sipush (v := 580) (pc := 3) hx hb dX7_copies_3 (by decide) ?_
  refine lv_icmp_ge (pc := 6) (tgt := 21) hx hb dX7_copies_6 (by decide) (fun cc => ?_) (fun cc => ?_)
  · replace h := am_t cc h
    exact hK2 _ h ls (lv_sub hl [] rfl) H locs hP hD hS
  replace h := am_f cc h
  refine lv_aload_n (pc := 9) hx hb dX7_copies_9 rfl (lv_at hl 1 rfl) ?_
  refine lv_iload_n (pc := 10) hx hb dX7_copies_10 rfl (lv_at hl 2 rfl) ?_
  refine lv_aload_n (pc := 11) hx hb dX7_copies_11 rfl (lv_at hl 0 rfl) ?_
  refine lv_iload_n (pc := 12) hx hb dX7_copies_12 rfl (lv_at hl 2 rfl) ?_
  obtain ⟨hi, h⟩ := am_in_s h
  refine va_iald (pc := 13) hx hb hK.1 hP 0 0 rfl rfl hi dX7_copies_13 ?_
  obtain ⟨hi, h⟩ := am_in_s h
  obtain ⟨f6, ef6⟩ : ∃ y : Nat → Int32, y = (upd f4 x3.toNatClampNeg (q0 x3.toNatClampNeg)) := ⟨_, rfl⟩
  replace h := am_let_s ef6 h
  refine va_iast (pc := 14) hx hb hK.1 hP hD hS 1 0 rfl rfl hi dX7_copies_14 (fun H locs hP hD hS => ?_)
  rw [← ef6] at hP hD
  replace hP : va_P D vwCl [(qa0, .inl (cI, 580, .inl q0)), (qa1, .inl (cI, 580, .inl f6))] H := hP
  replace hD : va_D A [(qa0, .inl (cI, 580, .inl q0)), (qa1, .inl (cI, 580, .inl f6))] := hD
  obtain ⟨x7, ex7⟩ : ∃ y : Int32, y = (x3 + (1 : Int32)) := ⟨_, rfl⟩
  replace h := am_let_s ex7 h
  refine lv_iinc (pc := 15) (v := x7) (lv' := [(2, .int x7), (0, .ref qa0), (1, .ref qa1)]) hx hb dX7_copies_15 hl (k := 2) rfl (by rw [ex7]; rfl) (by decide) rfl (fun ls hl => ?_)
  refine lv_goto (pc := 18) (tgt := 2) hx hb dX7_copies_18 (by decide) ?_
  exact ihrec5 _ _ h ls (lv_sub hl [1, 2, 0] rfl) H locs hP hD hS
theorem hdX7_changes : yX7_changes.cls ≠ "java/lang/invoke/MethodHandle" ∧ yX7_changes.cls ≠ "java/lang/invoke/VarHandle" ∧ (parseMethodDescriptor yX7_changes.desc).map (fun d => d.parameters.length) = some 0 := by decide +kernel
abbrev rmX7_changes : Room := { frames := 0, cells := 0, slots := 0, locals := 0 }
set_option maxHeartbeats 20000000 in
set_option maxRecDepth 100000 in
theorem c_X7_changes (l : Launch) (D : va_G) (cI cJ : ClassId) (mself : Nat) (msa : Nat) (mpasta : Nat) (mhelda : Nat) (mtexta : Nat) (mchosena : Nat) (mtimesa : Nat) (mrestsa : Nat) (mbeforea : Nat) (mtolda : Nat) (mpasts : Int32) (mruns : Int32) (mtyped : Int32) (mspot : Int32) (mfrom : Int32) (mreason : Int32) (mcause : Int32) (morders : Int32) (mkind : Int32) (ms : Nat → Int32) (mpast : Nat → Int32) (mheld : Nat → Int32) (mtext : Nat → Int32) (mchosen : Nat → Int32) (mtimes : Nat → Int32) (mrests : Nat → Int64) (mbefore : Nat → Int32) (mtold : Nat → Int32)  (zmpasts : Int32) (zmpast : Nat → Int32) (hF : F_X7_changes mpasts mruns ms mpast = some (zmpasts, zmpast)) (sz : Nat) : Met l yX7_changes (wz yX7_changes cX7_changes 2 none) rmX7_changes (kPw D cI cJ [(mself, .inr (7, [.ref msa, .ref mpasta, .ref mhelda, .int mpasts, .int mruns, .ref mtexta, .int mtyped, .ref mchosena, .ref mtimesa, .ref mrestsa, .ref mbeforea, .int mspot, .int mfrom, .int mreason, .int mcause, .int morders, .int mkind, .ref mtolda])), (msa, .inl (cI, 580, .inl ms)), (mpasta, .inl (cI, 2320, .inl mpast)), (mhelda, .inl (cI, 580, .inl mheld)), (mtexta, .inl (cI, 60, .inl mtext)), (mchosena, .inl (cI, 12, .inl mchosen)), (mtimesa, .inl (cI, 12, .inl mtimes)), (mrestsa, .inl (cJ, 12, .inr (.inl mrests))), (mbeforea, .inl (cI, 12, .inl mbefore)), (mtolda, .inl (cI, 2, .inl mtold))] sz [.ref mself]) (kQv D [(mself, .inr (7, [.ref msa, .ref mpasta, .ref mhelda, .int zmpasts, .int mruns, .ref mtexta, .int mtyped, .ref mchosena, .ref mtimesa, .ref mrestsa, .ref mbeforea, .int mspot, .int mfrom, .int mreason, .int mcause, .int morders, .int mkind, .ref mtolda])), (msa, .inl (cI, 580, .inl ms)), (mpasta, .inl (cI, 2320, .inl zmpast)), (mhelda, .inl (cI, 580, .inl mheld)), (mtexta, .inl (cI, 60, .inl mtext)), (mchosena, .inl (cI, 12, .inl mchosen)), (mtimesa, .inl (cI, 12, .inl mtimes)), (mrestsa, .inl (cJ, 12, .inr (.inl mrests))), (mbeforea, .inl (cI, 12, .inl mbefore)), (mtolda, .inl (cI, 2, .inl mtold))] (va_A [(mself, .inr (7, [.ref msa, .ref mpasta, .ref mhelda, .int mpasts, .int mruns, .ref mtexta, .int mtyped, .ref mchosena, .ref mtimesa, .ref mrestsa, .ref mbeforea, .int mspot, .int mfrom, .int mreason, .int mcause, .int morders, .int mkind, .ref mtolda])), (msa, .inl (cI, 580, .inl ms)), (mpasta, .inl (cI, 2320, .inl mpast)), (mhelda, .inl (cI, 580, .inl mheld)), (mtexta, .inl (cI, 60, .inl mtext)), (mchosena, .inl (cI, 12, .inl mchosen)), (mtimesa, .inl (cI, 12, .inl mtimes)), (mrestsa, .inl (cJ, 12, .inr (.inl mrests))), (mbeforea, .inl (cI, 12, .inl mbefore)), (mtolda, .inl (cI, 2, .inl mtold))] sz)) 0 0 (va_A [(mself, .inr (7, [.ref msa, .ref mpasta, .ref mhelda, .int mpasts, .int mruns, .ref mtexta, .int mtyped, .ref mchosena, .ref mtimesa, .ref mrestsa, .ref mbeforea, .int mspot, .int mfrom, .int mreason, .int mcause, .int morders, .int mkind, .ref mtolda])), (msa, .inl (cI, 580, .inl ms)), (mpasta, .inl (cI, 2320, .inl mpast)), (mhelda, .inl (cI, 580, .inl mheld)), (mtexta, .inl (cI, 60, .inl mtext)), (mchosena, .inl (cI, 12, .inl mchosen)), (mtimesa, .inl (cI, 12, .inl mtimes)), (mrestsa, .inl (cJ, 12, .inr (.inl mrests))), (mbeforea, .inl (cI, 12, .inl mbefore)), (mtolda, .inl (cI, 2, .inl mtold))] sz) := by
  refine kM_wv cX7_changes 2 (by decide +kernel) rfl rfl (Nat.le_of_ble_eq_true rfl) ⟨rfl, rfl⟩ ?_
  intro p e s m args below meth c Q A ls hx hb hml hown hts hP hK hD hA hS hl hret
  have hk121 := hts _ (List.mem_cons_of_mem _ wl121)
  have hk122 := hts _ (List.mem_cons_of_mem _ wl122)
  have hk183 := hts _ (List.mem_cons_of_mem _ wl183)
  have hk184 := hts _ (List.mem_cons_of_mem _ wl184)
  have hnX7 : ∀ w ∈ u_ws RX7 TX7 18, w ∈ wz yX7_changes cX7_changes 2 none := fun w h => List.mem_cons_of_mem _ (inlX7 w h)
  replace hl : lv_has ls 2 [(0, .ref mself)] := hl
  have h := hF
  unfold F_X7_changes at h
  refine lv_aload_n (pc := 0) hx hb dX7_changes_0 rfl (lv_at hl 0 rfl) ?_
  refine va_get (pc := 1) (D := D) (ci := 7) (v := .int mruns) (C := RX7) (T := TX7) (N := 18) hx hb hts hnX7 hown hK.1 hP 0 rfl rfl 4 (Nat.le_of_ble_eq_true rfl) hk183 (fun _ h9 => h9) rfl dX7_changes_1 ?_
  refine lv_if_eq (pc := 4) (tgt := 8) hx hb dX7_changes_4 (by decide) (fun cc => ?_) (fun cc => ?_)
  · replace h := am_t cc h
    refine lv_aload_n (pc := 8) hx hb dX7_changes_8 rfl (lv_at hl 0 rfl) ?_
    refine va_get (pc := 9) (D := D) (ci := 7) (v := .int mpasts) (C := RX7) (T := TX7) (N := 18) hx hb hts hnX7 hown hK.1 hP 0 rfl rfl 3 (Nat.le_of_ble_eq_true rfl) hk184 (fun _ h9 => h9) rfl dX7_changes_9 ?_
    refine lv_iconst (v := 4) (pc := 12) hx hb dX7_changes_12 (by decide) ?_
    refine am_join2_s (fun (u1 : Int32) (f2 : Nat → Int32) => ∀ (ls : Array Slot), lv_has ls 2 [(0, .ref mself)] → ∀ (H : Heap) (locs : List Loc), va_P D vwCl [(mself, .inr (7, [.ref msa, .ref mpasta, .ref mhelda, .int u1, .int mruns, .ref mtexta, .int mtyped, .ref mchosena, .ref mtimesa, .ref mrestsa, .ref mbeforea, .int mspot, .int mfrom, .int mreason, .int mcause, .int morders, .int mkind, .ref mtolda])), (msa, .inl (cI, 580, .inl ms)), (mpasta, .inl (cI, 2320, .inl f2)), (mhelda, .inl (cI, 580, .inl mheld)), (mtexta, .inl (cI, 60, .inl mtext)), (mchosena, .inl (cI, 12, .inl mchosen)), (mtimesa, .inl (cI, 12, .inl mtimes)), (mrestsa, .inl (cJ, 12, .inr (.inl mrests))), (mbeforea, .inl (cI, 12, .inl mbefore)), (mtolda, .inl (cI, 2, .inl mtold))] H → va_D A [(mself, .inr (7, [.ref msa, .ref mpasta, .ref mhelda, .int u1, .int mruns, .ref mtexta, .int mtyped, .ref mchosena, .ref mtimesa, .ref mrestsa, .ref mbeforea, .int mspot, .int mfrom, .int mreason, .int mcause, .int morders, .int mkind, .ref mtolda])), (msa, .inl (cI, 580, .inl ms)), (mpasta, .inl (cI, 2320, .inl f2)), (mhelda, .inl (cI, 580, .inl mheld)), (mtexta, .inl (cI, 60, .inl mtext)), (mchosena, .inl (cI, 12, .inl mchosen)), (mtimesa, .inl (cI, 12, .inl mtimes)), (mrestsa, .inl (cJ, 12, .inr (.inl mrests))), (mbeforea, .inl (cI, 12, .inl mbefore)), (mtolda, .inl (cI, 2, .inl mtold))] → va_S A s.heap H locs → W p l e rmX7_changes s m args below meth c H locs 0 0 Q (F0 m 57 ls [])) h (fun u1 f2 h ls hl H locs hP hD hS => ?_) (fun J3 hJ3 h => ?_)
    · refine lv_iconst (v := 0) (pc := 57) hx hb dX7_changes_57 (by decide) ?_
      refine lv_istore_n (lv' := [(1, .int (0 : Int32)), (0, .ref mself)]) (pc := 58) hx hb dX7_changes_58 rfl hl (by decide) rfl (fun ls hl => ?_)
      refine am_join1_s (fun (f4 : Nat → Int32) => ∀ (ls : Array Slot), lv_has ls 2 [(0, .ref mself)] → ∀ (H : Heap) (locs : List Loc), va_P D vwCl [(mself, .inr (7, [.ref msa, .ref mpasta, .ref mhelda, .int u1, .int mruns, .ref mtexta, .int mtyped, .ref mchosena, .ref mtimesa, .ref mrestsa, .ref mbeforea, .int mspot, .int mfrom, .int mreason, .int mcause, .int morders, .int mkind, .ref mtolda])), (msa, .inl (cI, 580, .inl ms)), (mpasta, .inl (cI, 2320, .inl f4)), (mhelda, .inl (cI, 580, .inl mheld)), (mtexta, .inl (cI, 60, .inl mtext)), (mchosena, .inl (cI, 12, .inl mchosen)), (mtimesa, .inl (cI, 12, .inl mtimes)), (mrestsa, .inl (cJ, 12, .inr (.inl mrests))), (mbeforea, .inl (cI, 12, .inl mbefore)), (mtolda, .inl (cI, 2, .inl mtold))] H → va_D A [(mself, .inr (7, [.ref msa, .ref mpasta, .ref mhelda, .int u1, .int mruns, .ref mtexta, .int mtyped, .ref mchosena, .ref mtimesa, .ref mrestsa, .ref mbeforea, .int mspot, .int mfrom, .int mreason, .int mcause, .int morders, .int mkind, .ref mtolda])), (msa, .inl (cI, 580, .inl ms)), (mpasta, .inl (cI, 2320, .inl f4)), (mhelda, .inl (cI, 580, .inl mheld)), (mtexta, .inl (cI, 60, .inl mtext)), (mchosena, .inl (cI, 12, .inl mchosen)), (mtimesa, .inl (cI, 12, .inl mtimes)), (mrestsa, .inl (cJ, 12, .inr (.inl mrests))), (mbeforea, .inl (cI, 12, .inl mbefore)), (mtolda, .inl (cI, 2, .inl mtold))] → va_S A s.heap H locs → W p l e rmX7_changes s m args below meth c H locs 0 0 Q (F0 m 93 ls [])) h (fun f4 h ls hl H locs hP hD hS => ?_) (fun K5 hK5 h => ?_)
      · refine lv_aload_n (pc := 93) hx hb dX7_changes_93 rfl (lv_at hl 0 rfl) ?_
        refine lv_dup (pc := 94) hx hb dX7_changes_94 rfl ?_
        refine va_get (pc := 95) (D := D) (ci := 7) (v := .int u1) (C := RX7) (T := TX7) (N := 18) hx hb hts hnX7 hown hK.1 hP 0 rfl rfl 3 (Nat.le_of_ble_eq_true rfl) hk184 (fun _ h9 => h9) rfl dX7_changes_95 ?_
        refine lv_iconst (v := 1) (pc := 98) hx hb dX7_changes_98 (by decide) ?_
        refine lv_iadd (pc := 99) hx hb dX7_changes_99 ?_
        refine lv_topi (fun x6 ex6 => ?_)
        replace h := am_let_s ex6 h
        refine va_put (pc := 100) (D := D) (ci := 7) (v := .int x6) (ty := .int) (C := RX7) (T := TX7) (N := 18) hx hb hts hnX7 tyX7 tyX7_ok nmX7 hown hK.1 hP hD hS 0 rfl rfl 3 (Nat.le_of_ble_eq_true rfl) hk184 (fun _ h9 => h9) rfl (by decide +kernel) rfl rfl (Nat.le_of_ble_eq_true rfl) dX7_changes_100 (fun H locs hP hD hS => ?_)
        replace hP : va_P D vwCl [(mself, .inr (7, [.ref msa, .ref mpasta, .ref mhelda, .int x6, .int mruns, .ref mtexta, .int mtyped, .ref mchosena, .ref mtimesa, .ref mrestsa, .ref mbeforea, .int mspot, .int mfrom, .int mreason, .int mcause, .int morders, .int mkind, .ref mtolda])), (msa, .inl (cI, 580, .inl ms)), (mpasta, .inl (cI, 2320, .inl f4)), (mhelda, .inl (cI, 580, .inl mheld)), (mtexta, .inl (cI, 60, .inl mtext)), (mchosena, .inl (cI, 12, .inl mchosen)), (mtimesa, .inl (cI, 12, .inl mtimes)), (mrestsa, .inl (cJ, 12, .inr (.inl mrests))), (mbeforea, .inl (cI, 12, .inl mbefore)), (mtolda, .inl (cI, 2, .inl mtold))] H := hP
        replace hD : va_D A [(mself, .inr (7, [.ref msa, .ref mpasta, .ref mhelda, .int x6, .int mruns, .ref mtexta, .int mtyped, .ref mchosena, .ref mtimesa, .ref mrestsa, .ref mbeforea, .int mspot, .int mfrom, .int mreason, .int mcause, .int morders, .int mkind, .ref mtolda])), (msa, .inl (cI, 580, .inl ms)), (mpasta, .inl (cI, 2320, .inl f4)), (mhelda, .inl (cI, 580, .inl mheld)), (mtexta, .inl (cI, 60, .inl mtext)), (mchosena, .inl (cI, 12, .inl mchosen)), (mtimesa, .inl (cI, 12, .inl mtimes)), (mrestsa, .inl (cJ, 12, .inr (.inl mrests))), (mbeforea, .inl (cI, 12, .inl mbefore)), (mtolda, .inl (cI, 2, .inl mtold))] := hD
        obtain ⟨e1, e2⟩ := am_ret2 h
        exact hret _ _ _ _ dX7_changes_103 (by rw [← e1, ← e2]; exact hP) hS
      refine am_loop2_s (fun (x7 : Int32) (f8 : Nat → Int32) => ∀ (ls : Array Slot), lv_has ls 2 [(0, .ref mself), (1, .int x7)] → ∀ (H : Heap) (locs : List Loc), va_P D vwCl [(mself, .inr (7, [.ref msa, .ref mpasta, .ref mhelda, .int u1, .int mruns, .ref mtexta, .int mtyped, .ref mchosena, .ref mtimesa, .ref mrestsa, .ref mbeforea, .int mspot, .int mfrom, .int mreason, .int mcause, .int morders, .int mkind, .ref mtolda])), (msa, .inl (cI, 580, .inl ms)), (mpasta, .inl (cI, 2320, .inl f8)), (mhelda, .inl (cI, 580, .inl mheld)), (mtexta, .inl (cI, 60, .inl mtext)), (mchosena, .inl (cI, 12, .inl mchosen)), (mtimesa, .inl (cI, 12, .inl mtimes)), (mrestsa, .inl (cJ, 12, .inr (.inl mrests))), (mbeforea, .inl (cI, 12, .inl mbefore)), (mtolda, .inl (cI, 2, .inl mtold))] H → va_D A [(mself, .inr (7, [.ref msa, .ref mpasta, .ref mhelda, .int u1, .int mruns, .ref mtexta, .int mtyped, .ref mchosena, .ref mtimesa, .ref mrestsa, .ref mbeforea, .int mspot, .int mfrom, .int mreason, .int mcause, .int morders, .int mkind, .ref mtolda])), (msa, .inl (cI, 580, .inl ms)), (mpasta, .inl (cI, 2320, .inl f8)), (mhelda, .inl (cI, 580, .inl mheld)), (mtexta, .inl (cI, 60, .inl mtext)), (mchosena, .inl (cI, 12, .inl mchosen)), (mtimesa, .inl (cI, 12, .inl mtimes)), (mrestsa, .inl (cJ, 12, .inr (.inl mrests))), (mbeforea, .inl (cI, 12, .inl mbefore)), (mtolda, .inl (cI, 2, .inl mtold))] → va_S A s.heap H locs → W p l e rmX7_changes s m args below meth c H locs 0 0 Q (F0 m 59 ls [])) (fun rec9 ihrec9 x7 f8 h ls hl H locs hP hD hS => ?_) _ _ _ h ls (lv_sub hl [1, 0] rfl) H locs hP hD hS
      unfold F_X7_changes_B59 at h
      refine lv_iload_n (pc := 59) hx hb dX7_changes_59 rfl (lv_at hl 1 rfl) ?_
      refine lv_sipush (v := 580) (pc := 60) hx hb dX7_changes_60 (by decide) ?_
      refine lv_icmp_ge (pc := 63) (tgt := 93) hx hb dX7_changes_63 (by decide) (fun cc => ?_) (fun cc => ?_)
      · replace h := am_t cc h
        exact hK5 _ h ls (lv_sub hl [0] rfl) H locs hP hD hS
      replace h := am_f cc h
      refine lv_aload_n (pc := 66) hx hb dX7_changes_66 rfl (lv_at hl 0 rfl) ?_
      refine va_get (pc := 67) (D := D) (ci := 7) (v := .ref mpasta) (C := RX7) (T := TX7) (N := 18) hx hb hts hnX7 hown hK.1 hP 0 rfl rfl 1 (Nat.le_of_ble_eq_true rfl) hk122 (fun _ h9 => h9) rfl dX7_changes_67 ?_
      refine lv_sipush (v := 580) (pc := 70) hx hb dX7_changes_70 (by decide) ?_
      refine lv_aload_n (pc := 73) hx hb dX7_changes_73 rfl (lv_at hl 0 rfl) ?_
      refine va_get (pc := 74) (D := D) (ci := 7) (v := .int u1) (C := RX7) (T := TX7) (N := 18) hx hb hts hnX7 hown hK.1 hP 0 rfl rfl 3 (Nat.le_of_ble_eq_true rfl) hk184 (fun _ h9 => h9) rfl dX7_changes_74 ?_
      refine lv_imul (pc := 77) hx hb dX7_changes_77 ?_
      refine lv_iload_n (pc := 78) hx hb dX7_changes_78 rfl (lv_at hl 1 rfl) ?_
      refine lv_iadd (pc := 79) hx hb dX7_changes_79 ?_
      refine lv_aload_n (pc := 80) hx hb dX7_changes_80 rfl (lv_at hl 0 rfl) ?_
      refine va_get (pc := 81) (D := D) (ci := 7) (v := .ref msa) (C := RX7) (T := TX7) (N := 18) hx hb hts hnX7 hown hK.1 hP 0 rfl rfl 0 (Nat.le_of_ble_eq_true rfl) hk121 (fun _ h9 => h9) rfl dX7_changes_81 ?_
      refine lv_iload_n (pc := 84) hx hb dX7_changes_84 rfl (lv_at hl 1 rfl) ?_
      obtain ⟨hi, h⟩ := am_in_s h
      refine va_iald (pc := 85) hx hb hK.1 hP 1 0 rfl rfl hi dX7_changes_85 ?_
      obtain ⟨hi, h⟩ := am_in_s h
      obtain ⟨f10, ef10⟩ : ∃ y : Nat → Int32, y = (upd f8 (((580 : Int32) * u1) + x7).toNatClampNeg (ms x7.toNatClampNeg)) := ⟨_, rfl⟩
      replace h := am_let_s ef10 h
      refine va_iast (pc := 86) hx hb hK.1 hP hD hS 2 0 rfl rfl hi dX7_changes_86 (fun H locs hP hD hS => ?_)
      rw [← ef10] at hP hD
      replace hP : va_P D vwCl [(mself, .inr (7, [.ref msa, .ref mpasta, .ref mhelda, .int u1, .int mruns, .ref mtexta, .int mtyped, .ref mchosena, .ref mtimesa, .ref mrestsa, .ref mbeforea, .int mspot, .int mfrom, .int mreason, .int mcause, .int morders, .int mkind, .ref mtolda])), (msa, .inl (cI, 580, .inl ms)), (mpasta, .inl (cI, 2320, .inl f10)), (mhelda, .inl (cI, 580, .inl mheld)), (mtexta, .inl (cI, 60, .inl mtext)), (mchosena, .inl (cI, 12, .inl mchosen)), (mtimesa, .inl (cI, 12, .inl mtimes)), (mrestsa, .inl (cJ, 12, .inr (.inl mrests))), (mbeforea, .inl (cI, 12, .inl mbefore)), (mtolda, .inl (cI, 2, .inl mtold))] H := hP
      replace hD : va_D A [(mself, .inr (7, [.ref msa, .ref mpasta, .ref mhelda, .int u1, .int mruns, .ref mtexta, .int mtyped, .ref mchosena, .ref mtimesa, .ref mrestsa, .ref mbeforea, .int mspot, .int mfrom, .int mreason, .int mcause, .int morders, .int mkind, .ref mtolda])), (msa, .inl (cI, 580, .inl ms)), (mpasta, .inl (cI, 2320, .inl f10)), (mhelda, .inl (cI, 580, .inl mheld)), (mtexta, .inl (cI, 60, .inl mtext)), (mchosena, .inl (cI, 12, .inl mchosen)), (mtimesa, .inl (cI, 12, .inl mtimes)), (mrestsa, .inl (cJ, 12, .inr (.inl mrests))), (mbeforea, .inl (cI, 12, .inl mbefore)), (mtolda, .inl (cI, 2, .inl mtold))] := hD
      obtain ⟨x11, ex11⟩ : ∃ y : Int32, y = (x7 + (1 : Int32)) := ⟨_, rfl⟩
      replace h := am_let_s ex11 h
      refine lv_iinc (pc := 87) (v := x11) (lv' := [(1, .int x11), (0, .ref mself)]) hx hb dX7_changes_87 hl (k := 1) rfl (by rw [ex11]; rfl) (by decide) rfl (fun ls hl => ?_)
      refine lv_goto (pc := 90) (tgt := 59) hx hb dX7_changes_90 (by decide) ?_
      exact ihrec9 _ _ h ls (lv_sub hl [1, 0] rfl) H locs hP hD hS
    refine lv_icmp_ne (pc := 13) (tgt := 57) hx hb dX7_changes_13 (by decide) (fun cc => ?_) (fun cc => ?_)
    · replace h := am_f cc h
      exact hJ3 _ _ h ls (lv_sub hl [0] rfl) s.heap [] hP hD hS
    replace h := am_t cc h
    refine lv_iconst (v := 0) (pc := 16) hx hb dX7_changes_16 (by decide) ?_
    refine lv_istore_n (lv' := [(1, .int (0 : Int32)), (0, .ref mself)]) (pc := 17) hx hb dX7_changes_17 rfl hl (by decide) rfl (fun ls hl => ?_)
    refine am_join1_s (fun (f12 : Nat → Int32) => ∀ (ls : Array Slot), lv_has ls 2 [(0, .ref mself)] → ∀ (H : Heap) (locs : List Loc), va_P D vwCl [(mself, .inr (7, [.ref msa, .ref mpasta, .ref mhelda, .int mpasts, .int mruns, .ref mtexta, .int mtyped, .ref mchosena, .ref mtimesa, .ref mrestsa, .ref mbeforea, .int mspot, .int mfrom, .int mreason, .int mcause, .int morders, .int mkind, .ref mtolda])), (msa, .inl (cI, 580, .inl ms)), (mpasta, .inl (cI, 2320, .inl f12)), (mhelda, .inl (cI, 580, .inl mheld)), (mtexta, .inl (cI, 60, .inl mtext)), (mchosena, .inl (cI, 12, .inl mchosen)), (mtimesa, .inl (cI, 12, .inl mtimes)), (mrestsa, .inl (cJ, 12, .inr (.inl mrests))), (mbeforea, .inl (cI, 12, .inl mbefore)), (mtolda, .inl (cI, 2, .inl mtold))] H → va_D A [(mself, .inr (7, [.ref msa, .ref mpasta, .ref mhelda, .int mpasts, .int mruns, .ref mtexta, .int mtyped, .ref mchosena, .ref mtimesa, .ref mrestsa, .ref mbeforea, .int mspot, .int mfrom, .int mreason, .int mcause, .int morders, .int mkind, .ref mtolda])), (msa, .inl (cI, 580, .inl ms)), (mpasta, .inl (cI, 2320, .inl f12)), (mhelda, .inl (cI, 580, .inl mheld)), (mtexta, .inl (cI, 60, .inl mtext)), (mchosena, .inl (cI, 12, .inl mchosen)), (mtimesa, .inl (cI, 12, .inl mtimes)), (mrestsa, .inl (cJ, 12, .inr (.inl mrests))), (mbeforea, .inl (cI, 12, .inl mbefore)), (mtolda, .inl (cI, 2, .inl mtold))] → va_S A s.heap H locs → W p l e rmX7_changes s m args below meth c H locs 0 0 Q (F0 m 47 ls [])) h (fun f12 h ls hl H locs hP hD hS => ?_) (fun K13 hK13 h => ?_)
    · refine lv_aload_n (pc := 47) hx hb dX7_changes_47 rfl (lv_at hl 0 rfl) ?_
      refine lv_dup (pc := 48) hx hb dX7_changes_48 rfl ?_
      refine va_get (pc := 49) (D := D) (ci := 7) (v := .int mpasts) (C := RX7) (T := TX7) (N := 18) hx hb hts hnX7 hown hK.1 hP 0 rfl rfl 3 (Nat.le_of_ble_eq_true rfl) hk184 (fun _ h9 => h9) rfl dX7_changes_49 ?_
      refine lv_iconst (v := 1) (pc := 52) hx hb dX7_changes_52 (by decide) ?_
      refine lv_isub (pc := 53) hx hb dX7_changes_53 ?_
      refine lv_topi (fun x14 ex14 => ?_)
      replace h := am_let_s ex14 h
      refine va_put (pc := 54) (D := D) (ci := 7) (v := .int x14) (ty := .int) (C := RX7) (T := TX7) (N := 18) hx hb hts hnX7 tyX7 tyX7_ok nmX7 hown hK.1 hP hD hS 0 rfl rfl 3 (Nat.le_of_ble_eq_true rfl) hk184 (fun _ h9 => h9) rfl (by decide +kernel) rfl rfl (Nat.le_of_ble_eq_true rfl) dX7_changes_54 (fun H locs hP hD hS => ?_)
      replace hP : va_P D vwCl [(mself, .inr (7, [.ref msa, .ref mpasta, .ref mhelda, .int x14, .int mruns, .ref mtexta, .int mtyped, .ref mchosena, .ref mtimesa, .ref mrestsa, .ref mbeforea, .int mspot, .int mfrom, .int mreason, .int mcause, .int morders, .int mkind, .ref mtolda])), (msa, .inl (cI, 580, .inl ms)), (mpasta, .inl (cI, 2320, .inl f12)), (mhelda, .inl (cI, 580, .inl mheld)), (mtexta, .inl (cI, 60, .inl mtext)), (mchosena, .inl (cI, 12, .inl mchosen)), (mtimesa, .inl (cI, 12, .inl mtimes)), (mrestsa, .inl (cJ, 12, .inr (.inl mrests))), (mbeforea, .inl (cI, 12, .inl mbefore)), (mtolda, .inl (cI, 2, .inl mtold))] H := hP
      replace hD : va_D A [(mself, .inr (7, [.ref msa, .ref mpasta, .ref mhelda, .int x14, .int mruns, .ref mtexta, .int mtyped, .ref mchosena, .ref mtimesa, .ref mrestsa, .ref mbeforea, .int mspot, .int mfrom, .int mreason, .int mcause, .int morders, .int mkind, .ref mtolda])), (msa, .inl (cI, 580, .inl ms)), (mpasta, .inl (cI, 2320, .inl f12)), (mhelda, .inl (cI, 580, .inl mheld)), (mtexta, .inl (cI, 60, .inl mtext)), (mchosena, .inl (cI, 12, .inl mchosen)), (mtimesa, .inl (cI, 12, .inl mtimes)), (mrestsa, .inl (cJ, 12, .inr (.inl mrests))), (mbeforea, .inl (cI, 12, .inl mbefore)), (mtolda, .inl (cI, 2, .inl mtold))] := hD
      exact hJ3 _ _ h ls (lv_sub hl [0] rfl) H locs hP hD hS
    refine am_loop2_s (fun (x15 : Int32) (f16 : Nat → Int32) => ∀ (ls : Array Slot), lv_has ls 2 [(0, .ref mself), (1, .int x15)] → ∀ (H : Heap) (locs : List Loc), va_P D vwCl [(mself, .inr (7, [.ref msa, .ref mpasta, .ref mhelda, .int mpasts, .int mruns, .ref mtexta, .int mtyped, .ref mchosena, .ref mtimesa, .ref mrestsa, .ref mbeforea, .int mspot, .int mfrom, .int mreason, .int mcause, .int morders, .int mkind, .ref mtolda])), (msa, .inl (cI, 580, .inl ms)), (mpasta, .inl (cI, 2320, .inl f16)), (mhelda, .inl (cI, 580, .inl mheld)), (mtexta, .inl (cI, 60, .inl mtext)), (mchosena, .inl (cI, 12, .inl mchosen)), (mtimesa, .inl (cI, 12, .inl mtimes)), (mrestsa, .inl (cJ, 12, .inr (.inl mrests))), (mbeforea, .inl (cI, 12, .inl mbefore)), (mtolda, .inl (cI, 2, .inl mtold))] H → va_D A [(mself, .inr (7, [.ref msa, .ref mpasta, .ref mhelda, .int mpasts, .int mruns, .ref mtexta, .int mtyped, .ref mchosena, .ref mtimesa, .ref mrestsa, .ref mbeforea, .int mspot, .int mfrom, .int mreason, .int mcause, .int morders, .int mkind, .ref mtolda])), (msa, .inl (cI, 580, .inl ms)), (mpasta, .inl (cI, 2320, .inl f16)), (mhelda, .inl (cI, 580, .inl mheld)), (mtexta, .inl (cI, 60, .inl mtext)), (mchosena, .inl (cI, 12, .inl mchosen)), (mtimesa, .inl (cI, 12, .inl mtimes)), (mrestsa, .inl (cJ, 12, .inr (.inl mrests))), (mbeforea, .inl (cI, 12, .inl mbefore)), (mtolda, .inl (cI, 2, .inl mtold))] → va_S A s.heap H locs → W p l e rmX7_changes s m args below meth c H locs 0 0 Q (F0 m 18 ls [])) (fun rec17 ihrec17 x15 f16 h ls hl H locs hP hD hS => ?_) _ _ _ h ls (lv_sub hl [1, 0] rfl) s.heap [] hP hD hS
    unfold F_X7_changes_B18 at h
    refine lv_iload_n (pc := 18) hx hb dX7_changes_18 rfl (lv_at hl 1 rfl) ?_
    refine lv_sipush (v := 1740) (pc := 19) hx hb dX7_changes_19 (by decide) ?_
    refine lv_icmp_ge (pc := 22) (tgt := 47) hx hb dX7_changes_22 (by decide) (fun cc => ?_) (fun cc => ?_)
    · replace h := am_t cc h
      exact hK13 _ h ls (lv_sub hl [0] rfl) H locs hP hD hS
    replace h := am_f cc h
    refine lv_aload_n (pc := 25) hx hb dX7_changes_25 rfl (lv_at hl 0 rfl) ?_
    refine va_get (pc := 26) (D := D) (ci := 7) (v := .ref mpasta) (C := RX7) (T := TX7) (N := 18) hx hb hts hnX7 hown hK.1 hP 0 rfl rfl 1 (Nat.le_of_ble_eq_true rfl) hk122 (fun _ h9 => h9) rfl dX7_changes_26 ?_
    refine lv_iload_n (pc := 29) hx hb dX7_changes_29 rfl (lv_at hl 1 rfl) ?_
    refine lv_aload_n (pc := 30) hx hb dX7_changes_30 rfl (lv_at hl 0 rfl) ?_
    refine va_get (pc := 31) (D := D) (ci := 7) (v := .ref mpasta) (C := RX7) (T := TX7) (N := 18) hx hb hts hnX7 hown hK.1 hP 0 rfl rfl 1 (Nat.le_of_ble_eq_true rfl) hk122 (fun _ h9 => h9) rfl dX7_changes_31 ?_
    refine lv_iload_n (pc := 34) hx hb dX7_changes_34 rfl (lv_at hl 1 rfl) ?_
    refine lv_sipush (v := 580) (pc := 35) hx hb dX7_changes_35 (by decide) ?_
    refine lv_iadd (pc := 38) hx hb dX7_changes_38 ?_
    obtain ⟨hi, h⟩ := am_in_s h
    refine va_iald (pc := 39) hx hb hK.1 hP 2 0 rfl rfl hi dX7_changes_39 ?_
    obtain ⟨hi, h⟩ := am_in_s h
    obtain ⟨f18, ef18⟩ : ∃ y : Nat → Int32, y = (upd f16 x15.toNatClampNeg (f16 (x15 + (580 : Int32)).toNatClampNeg)) := ⟨_, rfl⟩
    replace h := am_let_s ef18 h
    refine va_iast (pc := 40) hx hb hK.1 hP hD hS 2 0 rfl rfl hi dX7_changes_40 (fun H locs hP hD hS => ?_)
    rw [← ef18] at hP hD
    replace hP : va_P D vwCl [(mself, .inr (7, [.ref msa, .ref mpasta, .ref mhelda, .int mpasts, .int mruns, .ref mtexta, .int mtyped, .ref mchosena, .ref mtimesa, .ref mrestsa, .ref mbeforea, .int mspot, .int mfrom, .int mreason, .int mcause, .int morders, .int mkind, .ref mtolda])), (msa, .inl (cI, 580, .inl ms)), (mpasta, .inl (cI, 2320, .inl f18)), (mhelda, .inl (cI, 580, .inl mheld)), (mtexta, .inl (cI, 60, .inl mtext)), (mchosena, .inl (cI, 12, .inl mchosen)), (mtimesa, .inl (cI, 12, .inl mtimes)), (mrestsa, .inl (cJ, 12, .inr (.inl mrests))), (mbeforea, .inl (cI, 12, .inl mbefore)), (mtolda, .inl (cI, 2, .inl mtold))] H := hP
    replace hD : va_D A [(mself, .inr (7, [.ref msa, .ref mpasta, .ref mhelda, .int mpasts, .int mruns, .ref mtexta, .int mtyped, .ref mchosena, .ref mtimesa, .ref mrestsa, .ref mbeforea, .int mspot, .int mfrom, .int mreason, .int mcause, .int morders, .int mkind, .ref mtolda])), (msa, .inl (cI, 580, .inl ms)), (mpasta, .inl (cI, 2320, .inl f18)), (mhelda, .inl (cI, 580, .inl mheld)), (mtexta, .inl (cI, 60, .inl mtext)), (mchosena, .inl (cI, 12, .inl mchosen)), (mtimesa, .inl (cI, 12, .inl mtimes)), (mrestsa, .inl (cJ, 12, .inr (.inl mrests))), (mbeforea, .inl (cI, 12, .inl mbefore)), (mtolda, .inl (cI, 2, .inl mtold))] := hD
    obtain ⟨x19, ex19⟩ : ∃ y : Int32, y = (x15 + (1 : Int32)) := ⟨_, rfl⟩
    replace h := am_let_s ex19 h
    refine lv_iinc (pc := 41) (v := x19) (lv' := [(1, .int x19), (0, .ref mself)]) hx hb dX7_changes_41 hl (k := 1) rfl (by rw [ex19]; rfl) (by decide) rfl (fun ls hl => ?_)
    refine lv_goto (pc := 44) (tgt := 18) hx hb dX7_changes_44 (by decide) ?_
    exact ihrec17 _ _ h ls (lv_sub hl [1, 0] rfl) H locs hP hD hS
  replace h := am_f cc h
  obtain ⟨e1, e2⟩ := am_ret2 h
  exact hret _ _ _ _ dX7_changes_7 (by rw [← e1, ← e2]; exact hP) hS
theorem hdX7_lays : yX7_lays.cls ≠ "java/lang/invoke/MethodHandle" ∧ yX7_lays.cls ≠ "java/lang/invoke/VarHandle" ∧ (parseMethodDescriptor yX7_lays.desc).map (fun d => d.parameters.length) = some 3 := by decide +kernel
abbrev rmX7_lays : Room := { frames := 0, cells := 0, slots := 0, locals := 0 }
set_option maxHeartbeats 20000000 in
set_option maxRecDepth 100000 in
theorem c_X7_lays (l : Launch) (D : va_G) (cI cJ : ClassId) (mself : Nat) (msa : Nat) (mpasta : Nat) (mhelda : Nat) (mtexta : Nat) (mchosena : Nat) (mtimesa : Nat) (mrestsa : Nat) (mbeforea : Nat) (mtolda : Nat) (mpasts : Int32) (mruns : Int32) (mtyped : Int32) (mspot : Int32) (mfrom : Int32) (mreason : Int32) (mcause : Int32) (morders : Int32) (mkind : Int32) (ms : Nat → Int32) (mpast : Nat → Int32) (mheld : Nat → Int32) (mtext : Nat → Int32) (mchosen : Nat → Int32) (mtimes : Nat → Int32) (mrests : Nat → Int64) (mbefore : Nat → Int32) (mtold : Nat → Int32) (p0 : Int32) (p1 : Int32) (p2 : Int32) (zms : Nat → Int32) (hF : F_X7_lays ms p0 p1 p2 = some zms) (sz : Nat) : Met l yX7_lays (wz yX7_lays cX7_lays 6 none) rmX7_lays (kPw D cI cJ [(mself, .inr (7, [.ref msa, .ref mpasta, .ref mhelda, .int mpasts, .int mruns, .ref mtexta, .int mtyped, .ref mchosena, .ref mtimesa, .ref mrestsa, .ref mbeforea, .int mspot, .int mfrom, .int mreason, .int mcause, .int morders, .int mkind, .ref mtolda])), (msa, .inl (cI, 580, .inl ms)), (mpasta, .inl (cI, 2320, .inl mpast)), (mhelda, .inl (cI, 580, .inl mheld)), (mtexta, .inl (cI, 60, .inl mtext)), (mchosena, .inl (cI, 12, .inl mchosen)), (mtimesa, .inl (cI, 12, .inl mtimes)), (mrestsa, .inl (cJ, 12, .inr (.inl mrests))), (mbeforea, .inl (cI, 12, .inl mbefore)), (mtolda, .inl (cI, 2, .inl mtold))] sz [.ref mself, .int p0, .int p1, .int p2]) (kQv D [(mself, .inr (7, [.ref msa, .ref mpasta, .ref mhelda, .int mpasts, .int mruns, .ref mtexta, .int mtyped, .ref mchosena, .ref mtimesa, .ref mrestsa, .ref mbeforea, .int mspot, .int mfrom, .int mreason, .int mcause, .int morders, .int mkind, .ref mtolda])), (msa, .inl (cI, 580, .inl zms)), (mpasta, .inl (cI, 2320, .inl mpast)), (mhelda, .inl (cI, 580, .inl mheld)), (mtexta, .inl (cI, 60, .inl mtext)), (mchosena, .inl (cI, 12, .inl mchosen)), (mtimesa, .inl (cI, 12, .inl mtimes)), (mrestsa, .inl (cJ, 12, .inr (.inl mrests))), (mbeforea, .inl (cI, 12, .inl mbefore)), (mtolda, .inl (cI, 2, .inl mtold))] (va_A [(mself, .inr (7, [.ref msa, .ref mpasta, .ref mhelda, .int mpasts, .int mruns, .ref mtexta, .int mtyped, .ref mchosena, .ref mtimesa, .ref mrestsa, .ref mbeforea, .int mspot, .int mfrom, .int mreason, .int mcause, .int morders, .int mkind, .ref mtolda])), (msa, .inl (cI, 580, .inl ms)), (mpasta, .inl (cI, 2320, .inl mpast)), (mhelda, .inl (cI, 580, .inl mheld)), (mtexta, .inl (cI, 60, .inl mtext)), (mchosena, .inl (cI, 12, .inl mchosen)), (mtimesa, .inl (cI, 12, .inl mtimes)), (mrestsa, .inl (cJ, 12, .inr (.inl mrests))), (mbeforea, .inl (cI, 12, .inl mbefore)), (mtolda, .inl (cI, 2, .inl mtold))] sz)) 0 0 (va_A [(mself, .inr (7, [.ref msa, .ref mpasta, .ref mhelda, .int mpasts, .int mruns, .ref mtexta, .int mtyped, .ref mchosena, .ref mtimesa, .ref mrestsa, .ref mbeforea, .int mspot, .int mfrom, .int mreason, .int mcause, .int morders, .int mkind, .ref mtolda])), (msa, .inl (cI, 580, .inl ms)), (mpasta, .inl (cI, 2320, .inl mpast)), (mhelda, .inl (cI, 580, .inl mheld)), (mtexta, .inl (cI, 60, .inl mtext)), (mchosena, .inl (cI, 12, .inl mchosen)), (mtimesa, .inl (cI, 12, .inl mtimes)), (mrestsa, .inl (cJ, 12, .inr (.inl mrests))), (mbeforea, .inl (cI, 12, .inl mbefore)), (mtolda, .inl (cI, 2, .inl mtold))] sz) := by
  refine kM_wv cX7_lays 6 (by decide +kernel) rfl rfl (Nat.le_of_ble_eq_true rfl) ⟨rfl, rfl⟩ ?_
  intro p e s m args below meth c Q A ls hx hb hml hown hts hP hK hD hA hS hl hret
  have hk121 := hts _ (List.mem_cons_of_mem _ wl121)
  have hk134 := hts _ (List.mem_cons_of_mem _ wl134)
  have hnX7 : ∀ w ∈ u_ws RX7 TX7 18, w ∈ wz yX7_lays cX7_lays 6 none := fun w h => List.mem_cons_of_mem _ (inlX7 w h)
  replace hl : lv_has ls 6 [(0, .ref mself), (1, .int p0), (2, .int p1), (3, .int p2)] := hl
  have h := hF
  unfold F_X7_lays at h
  refine lv_aload_n (pc := 0) hx hb dX7_lays_0 rfl (lv_at hl 0 rfl) ?_
  refine va_get (pc := 1) (D := D) (ci := 7) (v := .ref msa) (C := RX7) (T := TX7) (N := 18) hx hb hts hnX7 hown hK.1 hP 0 rfl rfl 0 (Nat.le_of_ble_eq_true rfl) hk121 (fun _ h9 => h9) rfl dX7_lays_1 ?_
  refine lv_iconst (v := 0) (pc := 4) hx hb dX7_lays_4 (by decide) ?_
  refine lv_iload_n (pc := 5) hx hb dX7_lays_5 rfl (lv_at hl 1 rfl) ?_
  obtain ⟨f1, ef1⟩ : ∃ y : Nat → Int32, y = (upd ms (0 : Int32).toNatClampNeg p0) := ⟨_, rfl⟩
  replace h := am_let_s ef1 h
  refine va_iast (pc := 6) hx hb hK.1 hP hD hS 1 0 rfl rfl (vp_in_nI (n := 0) (N := 580) (by decide) (by decide)) dX7_lays_6 (fun H locs hP hD hS => ?_)
  rw [← ef1] at hP hD
  replace hP : va_P D vwCl [(mself, .inr (7, [.ref msa, .ref mpasta, .ref mhelda, .int mpasts, .int mruns, .ref mtexta, .int mtyped, .ref mchosena, .ref mtimesa, .ref mrestsa, .ref mbeforea, .int mspot, .int mfrom, .int mreason, .int mcause, .int morders, .int mkind, .ref mtolda])), (msa, .inl (cI, 580, .inl f1)), (mpasta, .inl (cI, 2320, .inl mpast)), (mhelda, .inl (cI, 580, .inl mheld)), (mtexta, .inl (cI, 60, .inl mtext)), (mchosena, .inl (cI, 12, .inl mchosen)), (mtimesa, .inl (cI, 12, .inl mtimes)), (mrestsa, .inl (cJ, 12, .inr (.inl mrests))), (mbeforea, .inl (cI, 12, .inl mbefore)), (mtolda, .inl (cI, 2, .inl mtold))] H := hP
  replace hD : va_D A [(mself, .inr (7, [.ref msa, .ref mpasta, .ref mhelda, .int mpasts, .int mruns, .ref mtexta, .int mtyped, .ref mchosena, .ref mtimesa, .ref mrestsa, .ref mbeforea, .int mspot, .int mfrom, .int mreason, .int mcause, .int morders, .int mkind, .ref mtolda])), (msa, .inl (cI, 580, .inl f1)), (mpasta, .inl (cI, 2320, .inl mpast)), (mhelda, .inl (cI, 580, .inl mheld)), (mtexta, .inl (cI, 60, .inl mtext)), (mchosena, .inl (cI, 12, .inl mchosen)), (mtimesa, .inl (cI, 12, .inl mtimes)), (mrestsa, .inl (cJ, 12, .inr (.inl mrests))), (mbeforea, .inl (cI, 12, .inl mbefore)), (mtolda, .inl (cI, 2, .inl mtold))] := hD
  refine lv_aload_n (pc := 7) hx hb dX7_lays_7 rfl (lv_at hl 0 rfl) ?_
  refine va_get (pc := 8) (D := D) (ci := 7) (v := .ref msa) (C := RX7) (T := TX7) (N := 18) hx hb hts hnX7 hown hK.1 hP 0 rfl rfl 0 (Nat.le_of_ble_eq_true rfl) hk121 (fun _ h9 => h9) rfl dX7_lays_8 ?_
  refine lv_iconst (v := 1) (pc := 11) hx hb dX7_lays_11 (by decide) ?_
  refine lv_iconst (v := 1) (pc := 12) hx hb dX7_lays_12 (by decide) ?_
  obtain ⟨f2, ef2⟩ : ∃ y : Nat → Int32, y = (upd f1 (1 : Int32).toNatClampNeg (1 : Int32)) := ⟨_, rfl⟩
  replace h := am_let_s ef2 h
  refine va_iast (pc := 13) hx hb hK.1 hP hD hS 1 0 rfl rfl (vp_in_nI (n := 1) (N := 580) (by decide) (by decide)) dX7_lays_13 (fun H locs hP hD hS => ?_)
  rw [← ef2] at hP hD
  replace hP : va_P D vwCl [(mself, .inr (7, [.ref msa, .ref mpasta, .ref mhelda, .int mpasts, .int mruns, .ref mtexta, .int mtyped, .ref mchosena, .ref mtimesa, .ref mrestsa, .ref mbeforea, .int mspot, .int mfrom, .int mreason, .int mcause, .int morders, .int mkind, .ref mtolda])), (msa, .inl (cI, 580, .inl f2)), (mpasta, .inl (cI, 2320, .inl mpast)), (mhelda, .inl (cI, 580, .inl mheld)), (mtexta, .inl (cI, 60, .inl mtext)), (mchosena, .inl (cI, 12, .inl mchosen)), (mtimesa, .inl (cI, 12, .inl mtimes)), (mrestsa, .inl (cJ, 12, .inr (.inl mrests))), (mbeforea, .inl (cI, 12, .inl mbefore)), (mtolda, .inl (cI, 2, .inl mtold))] H := hP
  replace hD : va_D A [(mself, .inr (7, [.ref msa, .ref mpasta, .ref mhelda, .int mpasts, .int mruns, .ref mtexta, .int mtyped, .ref mchosena, .ref mtimesa, .ref mrestsa, .ref mbeforea, .int mspot, .int mfrom, .int mreason, .int mcause, .int morders, .int mkind, .ref mtolda])), (msa, .inl (cI, 580, .inl f2)), (mpasta, .inl (cI, 2320, .inl mpast)), (mhelda, .inl (cI, 580, .inl mheld)), (mtexta, .inl (cI, 60, .inl mtext)), (mchosena, .inl (cI, 12, .inl mchosen)), (mtimesa, .inl (cI, 12, .inl mtimes)), (mrestsa, .inl (cJ, 12, .inr (.inl mrests))), (mbeforea, .inl (cI, 12, .inl mbefore)), (mtolda, .inl (cI, 2, .inl mtold))] := hD
  refine lv_aload_n (pc := 14) hx hb dX7_lays_14 rfl (lv_at hl 0 rfl) ?_
  refine va_get (pc := 15) (D := D) (ci := 7) (v := .ref msa) (C := RX7) (T := TX7) (N := 18) hx hb hts hnX7 hown hK.1 hP 0 rfl rfl 0 (Nat.le_of_ble_eq_true rfl) hk121 (fun _ h9 => h9) rfl dX7_lays_15 ?_
  refine lv_iconst (v := 2) (pc := 18) hx hb dX7_lays_18 (by decide) ?_
  refine lv_iconst (v := 1) (pc := 19) hx hb dX7_lays_19 (by decide) ?_
  obtain ⟨f3, ef3⟩ : ∃ y : Nat → Int32, y = (upd f2 (2 : Int32).toNatClampNeg (1 : Int32)) := ⟨_, rfl⟩
  replace h := am_let_s ef3 h
  refine va_iast (pc := 20) hx hb hK.1 hP hD hS 1 0 rfl rfl (vp_in_nI (n := 2) (N := 580) (by decide) (by decide)) dX7_lays_20 (fun H locs hP hD hS => ?_)
  rw [← ef3] at hP hD
  replace hP : va_P D vwCl [(mself, .inr (7, [.ref msa, .ref mpasta, .ref mhelda, .int mpasts, .int mruns, .ref mtexta, .int mtyped, .ref mchosena, .ref mtimesa, .ref mrestsa, .ref mbeforea, .int mspot, .int mfrom, .int mreason, .int mcause, .int morders, .int mkind, .ref mtolda])), (msa, .inl (cI, 580, .inl f3)), (mpasta, .inl (cI, 2320, .inl mpast)), (mhelda, .inl (cI, 580, .inl mheld)), (mtexta, .inl (cI, 60, .inl mtext)), (mchosena, .inl (cI, 12, .inl mchosen)), (mtimesa, .inl (cI, 12, .inl mtimes)), (mrestsa, .inl (cJ, 12, .inr (.inl mrests))), (mbeforea, .inl (cI, 12, .inl mbefore)), (mtolda, .inl (cI, 2, .inl mtold))] H := hP
  replace hD : va_D A [(mself, .inr (7, [.ref msa, .ref mpasta, .ref mhelda, .int mpasts, .int mruns, .ref mtexta, .int mtyped, .ref mchosena, .ref mtimesa, .ref mrestsa, .ref mbeforea, .int mspot, .int mfrom, .int mreason, .int mcause, .int morders, .int mkind, .ref mtolda])), (msa, .inl (cI, 580, .inl f3)), (mpasta, .inl (cI, 2320, .inl mpast)), (mhelda, .inl (cI, 580, .inl mheld)), (mtexta, .inl (cI, 60, .inl mtext)), (mchosena, .inl (cI, 12, .inl mchosen)), (mtimesa, .inl (cI, 12, .inl mtimes)), (mrestsa, .inl (cJ, 12, .inr (.inl mrests))), (mbeforea, .inl (cI, 12, .inl mbefore)), (mtolda, .inl (cI, 2, .inl mtold))] := hD
  refine lv_aload_n (pc := 21) hx hb dX7_lays_21 rfl (lv_at hl 0 rfl) ?_
  refine va_get (pc := 22) (D := D) (ci := 7) (v := .ref msa) (C := RX7) (T := TX7) (N := 18) hx hb hts hnX7 hown hK.1 hP 0 rfl rfl 0 (Nat.le_of_ble_eq_true rfl) hk121 (fun _ h9 => h9) rfl dX7_lays_22 ?_
  refine lv_iconst (v := 3) (pc := 25) hx hb dX7_lays_25 (by decide) ?_
  refine lv_iconst (v := 0) (pc := 26) hx hb dX7_lays_26 (by decide) ?_
  obtain ⟨f4, ef4⟩ : ∃ y : Nat → Int32, y = (upd f3 (3 : Int32).toNatClampNeg (0 : Int32)) := ⟨_, rfl⟩
  replace h := am_let_s ef4 h
  refine va_iast (pc := 27) hx hb hK.1 hP hD hS 1 0 rfl rfl (vp_in_nI (n := 3) (N := 580) (by decide) (by decide)) dX7_lays_27 (fun H locs hP hD hS => ?_)
  rw [← ef4] at hP hD
  replace hP : va_P D vwCl [(mself, .inr (7, [.ref msa, .ref mpasta, .ref mhelda, .int mpasts, .int mruns, .ref mtexta, .int mtyped, .ref mchosena, .ref mtimesa, .ref mrestsa, .ref mbeforea, .int mspot, .int mfrom, .int mreason, .int mcause, .int morders, .int mkind, .ref mtolda])), (msa, .inl (cI, 580, .inl f4)), (mpasta, .inl (cI, 2320, .inl mpast)), (mhelda, .inl (cI, 580, .inl mheld)), (mtexta, .inl (cI, 60, .inl mtext)), (mchosena, .inl (cI, 12, .inl mchosen)), (mtimesa, .inl (cI, 12, .inl mtimes)), (mrestsa, .inl (cJ, 12, .inr (.inl mrests))), (mbeforea, .inl (cI, 12, .inl mbefore)), (mtolda, .inl (cI, 2, .inl mtold))] H := hP
  replace hD : va_D A [(mself, .inr (7, [.ref msa, .ref mpasta, .ref mhelda, .int mpasts, .int mruns, .ref mtexta, .int mtyped, .ref mchosena, .ref mtimesa, .ref mrestsa, .ref mbeforea, .int mspot, .int mfrom, .int mreason, .int mcause, .int morders, .int mkind, .ref mtolda])), (msa, .inl (cI, 580, .inl f4)), (mpasta, .inl (cI, 2320, .inl mpast)), (mhelda, .inl (cI, 580, .inl mheld)), (mtexta, .inl (cI, 60, .inl mtext)), (mchosena, .inl (cI, 12, .inl mchosen)), (mtimesa, .inl (cI, 12, .inl mtimes)), (mrestsa, .inl (cJ, 12, .inr (.inl mrests))), (mbeforea, .inl (cI, 12, .inl mbefore)), (mtolda, .inl (cI, 2, .inl mtold))] := hD
  refine lv_aload_n (pc := 28) hx hb dX7_lays_28 rfl (lv_at hl 0 rfl) ?_
  refine va_get (pc := 29) (D := D) (ci := 7) (v := .ref msa) (C := RX7) (T := TX7) (N := 18) hx hb hts hnX7 hown hK.1 hP 0 rfl rfl 0 (Nat.le_of_ble_eq_true rfl) hk121 (fun _ h9 => h9) rfl dX7_lays_29 ?_
  refine lv_iconst (v := 4) (pc := 32) hx hb dX7_lays_32 (by decide) ?_
  refine lv_iconst (v := 0) (pc := 33) hx hb dX7_lays_33 (by decide) ?_
  obtain ⟨f5, ef5⟩ : ∃ y : Nat → Int32, y = (upd f4 (4 : Int32).toNatClampNeg (0 : Int32)) := ⟨_, rfl⟩
  replace h := am_let_s ef5 h
  refine va_iast (pc := 34) hx hb hK.1 hP hD hS 1 0 rfl rfl (vp_in_nI (n := 4) (N := 580) (by decide) (by decide)) dX7_lays_34 (fun H locs hP hD hS => ?_)
  rw [← ef5] at hP hD
  replace hP : va_P D vwCl [(mself, .inr (7, [.ref msa, .ref mpasta, .ref mhelda, .int mpasts, .int mruns, .ref mtexta, .int mtyped, .ref mchosena, .ref mtimesa, .ref mrestsa, .ref mbeforea, .int mspot, .int mfrom, .int mreason, .int mcause, .int morders, .int mkind, .ref mtolda])), (msa, .inl (cI, 580, .inl f5)), (mpasta, .inl (cI, 2320, .inl mpast)), (mhelda, .inl (cI, 580, .inl mheld)), (mtexta, .inl (cI, 60, .inl mtext)), (mchosena, .inl (cI, 12, .inl mchosen)), (mtimesa, .inl (cI, 12, .inl mtimes)), (mrestsa, .inl (cJ, 12, .inr (.inl mrests))), (mbeforea, .inl (cI, 12, .inl mbefore)), (mtolda, .inl (cI, 2, .inl mtold))] H := hP
  replace hD : va_D A [(mself, .inr (7, [.ref msa, .ref mpasta, .ref mhelda, .int mpasts, .int mruns, .ref mtexta, .int mtyped, .ref mchosena, .ref mtimesa, .ref mrestsa, .ref mbeforea, .int mspot, .int mfrom, .int mreason, .int mcause, .int morders, .int mkind, .ref mtolda])), (msa, .inl (cI, 580, .inl f5)), (mpasta, .inl (cI, 2320, .inl mpast)), (mhelda, .inl (cI, 580, .inl mheld)), (mtexta, .inl (cI, 60, .inl mtext)), (mchosena, .inl (cI, 12, .inl mchosen)), (mtimesa, .inl (cI, 12, .inl mtimes)), (mrestsa, .inl (cJ, 12, .inr (.inl mrests))), (mbeforea, .inl (cI, 12, .inl mbefore)), (mtolda, .inl (cI, 2, .inl mtold))] := hD
  refine lv_iconst (v := 0) (pc := 35) hx hb dX7_lays_35 (by decide) ?_
  refine lv_istore (lv' := [(4, .int (0 : Int32)), (0, .ref mself), (1, .int p0), (2, .int p1), (3, .int p2)]) (pc := 36) hx hb dX7_lays_36 hl (by decide) rfl (fun ls hl => ?_)
  refine am_join1_s (fun (f6 : Nat → Int32) => ∀ (ls : Array Slot), lv_has ls 6 [(0, .ref mself), (1, .int p0), (2, .int p1), (3, .int p2)] → ∀ (H : Heap) (locs : List Loc), va_P D vwCl [(mself, .inr (7, [.ref msa, .ref mpasta, .ref mhelda, .int mpasts, .int mruns, .ref mtexta, .int mtyped, .ref mchosena, .ref mtimesa, .ref mrestsa, .ref mbeforea, .int mspot, .int mfrom, .int mreason, .int mcause, .int morders, .int mkind, .ref mtolda])), (msa, .inl (cI, 580, .inl f6)), (mpasta, .inl (cI, 2320, .inl mpast)), (mhelda, .inl (cI, 580, .inl mheld)), (mtexta, .inl (cI, 60, .inl mtext)), (mchosena, .inl (cI, 12, .inl mchosen)), (mtimesa, .inl (cI, 12, .inl mtimes)), (mrestsa, .inl (cJ, 12, .inr (.inl mrests))), (mbeforea, .inl (cI, 12, .inl mbefore)), (mtolda, .inl (cI, 2, .inl mtold))] H → va_D A [(mself, .inr (7, [.ref msa, .ref mpasta, .ref mhelda, .int mpasts, .int mruns, .ref mtexta, .int mtyped, .ref mchosena, .ref mtimesa, .ref mrestsa, .ref mbeforea, .int mspot, .int mfrom, .int mreason, .int mcause, .int morders, .int mkind, .ref mtolda])), (msa, .inl (cI, 580, .inl f6)), (mpasta, .inl (cI, 2320, .inl mpast)), (mhelda, .inl (cI, 580, .inl mheld)), (mtexta, .inl (cI, 60, .inl mtext)), (mchosena, .inl (cI, 12, .inl mchosen)), (mtimesa, .inl (cI, 12, .inl mtimes)), (mrestsa, .inl (cJ, 12, .inr (.inl mrests))), (mbeforea, .inl (cI, 12, .inl mbefore)), (mtolda, .inl (cI, 2, .inl mtold))] → va_S A s.heap H locs → W p l e rmX7_lays s m args below meth c H locs 0 0 Q (F0 m 61 ls [])) h (fun f6 h ls hl H locs hP hD hS => ?_) (fun K7 hK7 h => ?_)
  · refine lv_iconst (v := 0) (pc := 61) hx hb dX7_lays_61 (by decide) ?_
    refine lv_istore (lv' := [(4, .int (0 : Int32)), (0, .ref mself), (1, .int p0), (2, .int p1), (3, .int p2)]) (pc := 62) hx hb dX7_lays_62 hl (by decide) rfl (fun ls hl => ?_)
    refine am_join1_s (fun (f8 : Nat → Int32) => ∀ (ls : Array Slot), lv_has ls 6 [] → ∀ (H : Heap) (locs : List Loc), va_P D vwCl [(mself, .inr (7, [.ref msa, .ref mpasta, .ref mhelda, .int mpasts, .int mruns, .ref mtexta, .int mtyped, .ref mchosena, .ref mtimesa, .ref mrestsa, .ref mbeforea, .int mspot, .int mfrom, .int mreason, .int mcause, .int morders, .int mkind, .ref mtolda])), (msa, .inl (cI, 580, .inl f8)), (mpasta, .inl (cI, 2320, .inl mpast)), (mhelda, .inl (cI, 580, .inl mheld)), (mtexta, .inl (cI, 60, .inl mtext)), (mchosena, .inl (cI, 12, .inl mchosen)), (mtimesa, .inl (cI, 12, .inl mtimes)), (mrestsa, .inl (cJ, 12, .inr (.inl mrests))), (mbeforea, .inl (cI, 12, .inl mbefore)), (mtolda, .inl (cI, 2, .inl mtold))] H → va_D A [(mself, .inr (7, [.ref msa, .ref mpasta, .ref mhelda, .int mpasts, .int mruns, .ref mtexta, .int mtyped, .ref mchosena, .ref mtimesa, .ref mrestsa, .ref mbeforea, .int mspot, .int mfrom, .int mreason, .int mcause, .int morders, .int mkind, .ref mtolda])), (msa, .inl (cI, 580, .inl f8)), (mpasta, .inl (cI, 2320, .inl mpast)), (mhelda, .inl (cI, 580, .inl mheld)), (mtexta, .inl (cI, 60, .inl mtext)), (mchosena, .inl (cI, 12, .inl mchosen)), (mtimesa, .inl (cI, 12, .inl mtimes)), (mrestsa, .inl (cJ, 12, .inr (.inl mrests))), (mbeforea, .inl (cI, 12, .inl mbefore)), (mtolda, .inl (cI, 2, .inl mtold))] → va_S A s.heap H locs → W p l e rmX7_lays s m args below meth c H locs 0 0 Q (F0 m 143 ls [])) h (fun f8 h ls hl H locs hP hD hS => ?_) (fun K9 hK9 h => ?_)
    · obtain e1 := am_ret1 h
      exact hret _ _ _ _ dX7_lays_143 (by rw [← e1]; exact hP) hS
    refine am_loop2_s (fun (x10 : Int32) (f11 : Nat → Int32) => ∀ (ls : Array Slot), lv_has ls 6 [(0, .ref mself), (1, .int p0), (2, .int p1), (3, .int p2), (4, .int x10)] → ∀ (H : Heap) (locs : List Loc), va_P D vwCl [(mself, .inr (7, [.ref msa, .ref mpasta, .ref mhelda, .int mpasts, .int mruns, .ref mtexta, .int mtyped, .ref mchosena, .ref mtimesa, .ref mrestsa, .ref mbeforea, .int mspot, .int mfrom, .int mreason, .int mcause, .int morders, .int mkind, .ref mtolda])), (msa, .inl (cI, 580, .inl f11)), (mpasta, .inl (cI, 2320, .inl mpast)), (mhelda, .inl (cI, 580, .inl mheld)), (mtexta, .inl (cI, 60, .inl mtext)), (mchosena, .inl (cI, 12, .inl mchosen)), (mtimesa, .inl (cI, 12, .inl mtimes)), (mrestsa, .inl (cJ, 12, .inr (.inl mrests))), (mbeforea, .inl (cI, 12, .inl mbefore)), (mtolda, .inl (cI, 2, .inl mtold))] H → va_D A [(mself, .inr (7, [.ref msa, .ref mpasta, .ref mhelda, .int mpasts, .int mruns, .ref mtexta, .int mtyped, .ref mchosena, .ref mtimesa, .ref mrestsa, .ref mbeforea, .int mspot, .int mfrom, .int mreason, .int mcause, .int morders, .int mkind, .ref mtolda])), (msa, .inl (cI, 580, .inl f11)), (mpasta, .inl (cI, 2320, .inl mpast)), (mhelda, .inl (cI, 580, .inl mheld)), (mtexta, .inl (cI, 60, .inl mtext)), (mchosena, .inl (cI, 12, .inl mchosen)), (mtimesa, .inl (cI, 12, .inl mtimes)), (mrestsa, .inl (cJ, 12, .inr (.inl mrests))), (mbeforea, .inl (cI, 12, .inl mbefore)), (mtolda, .inl (cI, 2, .inl mtold))] → va_S A s.heap H locs → W p l e rmX7_lays s m args below meth c H locs 0 0 Q (F0 m 64 ls [])) (fun rec12 ihrec12 x10 f11 h ls hl H locs hP hD hS => ?_) _ _ _ h ls (lv_sub hl [1, 2, 3, 4, 0] rfl) H locs hP hD hS
    unfold F_X7_lays_B64 at h
    refine lv_iload (pc := 64) hx hb dX7_lays_64 (lv_at hl 4 rfl) ?_
    refine lv_bipush (v := 12) (pc := 66) hx hb dX7_lays_66 (by decide) ?_
    refine lv_icmp_ge (pc := 68) (tgt := 143) hx hb dX7_lays_68 (by decide) (fun cc => ?_) (fun cc => ?_)
    · replace h := am_t cc h
      exact hK9 _ h ls (lv_sub hl [] rfl) H locs hP hD hS
    replace h := am_f cc h
    refine lv_iload_n (pc := 71) hx hb dX7_lays_71 rfl (lv_at hl 2 rfl) ?_
    refine lv_iload (pc := 72) hx hb dX7_lays_72 (lv_at hl 4 rfl) ?_
    refine lv_iload_n (pc := 74) hx hb dX7_lays_74 rfl (lv_at hl 3 rfl) ?_
    refine lv_imul (pc := 75) hx hb dX7_lays_75 ?_
    refine lv_iadd (pc := 76) hx hb dX7_lays_76 ?_
    refine lv_topi (fun x13 ex13 => ?_)
    replace h := am_let_s ex13 h
    refine lv_istore (lv' := [(5, .int x13), (0, .ref mself), (1, .int p0), (2, .int p1), (3, .int p2), (4, .int x10)]) (pc := 77) hx hb dX7_lays_77 hl (by decide) rfl (fun ls hl => ?_)
    refine lv_aload_n (pc := 79) hx hb dX7_lays_79 rfl (lv_at hl 1 rfl) ?_
    refine va_get (pc := 80) (D := D) (ci := 7) (v := .ref msa) (C := RX7) (T := TX7) (N := 18) hx hb hts hnX7 hown hK.1 hP 0 rfl rfl 0 (Nat.le_of_ble_eq_true rfl) hk121 (fun _ h9 => h9) rfl dX7_lays_80 ?_
    refine lv_bipush (v := 8) (pc := 83) hx hb dX7_lays_83 (by decide) ?_
    refine lv_iload (pc := 85) hx hb dX7_lays_85 (lv_at hl 5 rfl) ?_
    refine lv_iadd (pc := 87) hx hb dX7_lays_87 ?_
    refine lv_iload (pc := 88) hx hb dX7_lays_88 (lv_at hl 5 rfl) ?_
    refine lv_iload_n (pc := 90) hx hb dX7_lays_90 rfl (lv_at hl 2 rfl) ?_
    refine am_join1_s (fun (j14 : Int32) => ∀ (ls : Array Slot), lv_has ls 6 [(0, .ref mself), (1, .int p0), (2, .int p1), (3, .int p2), (4, .int x10), (5, .int x13)] → W p l e rmX7_lays s m args below meth c H locs 0 0 Q (F0 m 99 ls [.int j14, .int ((8 : Int32) + x10), .ref msa])) h (fun j14 h ls hl => ?_) (fun J15 hJ15 h => ?_)
    · obtain ⟨hi, h⟩ := am_in_s h
      obtain ⟨f16, ef16⟩ : ∃ y : Nat → Int32, y = (upd f11 ((8 : Int32) + x10).toNatClampNeg j14) := ⟨_, rfl⟩
      replace h := am_let_s ef16 h
      refine va_iast (pc := 99) hx hb hK.1 hP hD hS 1 0 rfl rfl hi dX7_lays_99 (fun H locs hP hD hS => ?_)
      rw [← ef16] at hP hD
      replace hP : va_P D vwCl [(mself, .inr (7, [.ref msa, .ref mpasta, .ref mhelda, .int mpasts, .int mruns, .ref mtexta, .int mtyped, .ref mchosena, .ref mtimesa, .ref mrestsa, .ref mbeforea, .int mspot, .int mfrom, .int mreason, .int mcause, .int morders, .int mkind, .ref mtolda])), (msa, .inl (cI, 580, .inl f16)), (mpasta, .inl (cI, 2320, .inl mpast)), (mhelda, .inl (cI, 580, .inl mheld)), (mtexta, .inl (cI, 60, .inl mtext)), (mchosena, .inl (cI, 12, .inl mchosen)), (mtimesa, .inl (cI, 12, .inl mtimes)), (mrestsa, .inl (cJ, 12, .inr (.inl mrests))), (mbeforea, .inl (cI, 12, .inl mbefore)), (mtolda, .inl (cI, 2, .inl mtold))] H := hP
      replace hD : va_D A [(mself, .inr (7, [.ref msa, .ref mpasta, .ref mhelda, .int mpasts, .int mruns, .ref mtexta, .int mtyped, .ref mchosena, .ref mtimesa, .ref mrestsa, .ref mbeforea, .int mspot, .int mfrom, .int mreason, .int mcause, .int morders, .int mkind, .ref mtolda])), (msa, .inl (cI, 580, .inl f16)), (mpasta, .inl (cI, 2320, .inl mpast)), (mhelda, .inl (cI, 580, .inl mheld)), (mtexta, .inl (cI, 60, .inl mtext)), (mchosena, .inl (cI, 12, .inl mchosen)), (mtimesa, .inl (cI, 12, .inl mtimes)), (mrestsa, .inl (cJ, 12, .inr (.inl mrests))), (mbeforea, .inl (cI, 12, .inl mbefore)), (mtolda, .inl (cI, 2, .inl mtold))] := hD
      refine lv_aload_n (pc := 100) hx hb dX7_lays_100 rfl (lv_at hl 0 rfl) ?_
      refine va_get (pc := 101) (D := D) (ci := 7) (v := .ref msa) (C := RX7) (T := TX7) (N := 18) hx hb hts hnX7 hown hK.1 hP 0 rfl rfl 0 (Nat.le_of_ble_eq_true rfl) hk121 (fun _ h9 => h9) rfl dX7_lays_101 ?_
      refine lv_bipush (v := 100) (pc := 104) hx hb dX7_lays_104 (by decide) ?_
      refine lv_iload (pc := 106) hx hb dX7_lays_106 (lv_at hl 4 rfl) ?_
      refine lv_iadd (pc := 108) hx hb dX7_lays_108 ?_
      refine lv_ldc (pc := 109) hx hb hown hk134 dX7_lays_109 ?_
      obtain ⟨hi, h⟩ := am_in_s h
      obtain ⟨f17, ef17⟩ : ∃ y : Nat → Int32, y = (upd f16 ((100 : Int32) + x10).toNatClampNeg (-1000004 : Int32)) := ⟨_, rfl⟩
      replace h := am_let_s ef17 h
      refine va_iast (pc := 111) hx hb hK.1 hP hD hS 1 0 rfl rfl hi dX7_lays_111 (fun H locs hP hD hS => ?_)
      rw [← ef17] at hP hD
      replace hP : va_P D vwCl [(mself, .inr (7, [.ref msa, .ref mpasta, .ref mhelda, .int mpasts, .int mruns, .ref mtexta, .int mtyped, .ref mchosena, .ref mtimesa, .ref mrestsa, .ref mbeforea, .int mspot, .int mfrom, .int mreason, .int mcause, .int morders, .int mkind, .ref mtolda])), (msa, .inl (cI, 580, .inl f17)), (mpasta, .inl (cI, 2320, .inl mpast)), (mhelda, .inl (cI, 580, .inl mheld)), (mtexta, .inl (cI, 60, .inl mtext)), (mchosena, .inl (cI, 12, .inl mchosen)), (mtimesa, .inl (cI, 12, .inl mtimes)), (mrestsa, .inl (cJ, 12, .inr (.inl mrests))), (mbeforea, .inl (cI, 12, .inl mbefore)), (mtolda, .inl (cI, 2, .inl mtold))] H := hP
      replace hD : va_D A [(mself, .inr (7, [.ref msa, .ref mpasta, .ref mhelda, .int mpasts, .int mruns, .ref mtexta, .int mtyped, .ref mchosena, .ref mtimesa, .ref mrestsa, .ref mbeforea, .int mspot, .int mfrom, .int mreason, .int mcause, .int morders, .int mkind, .ref mtolda])), (msa, .inl (cI, 580, .inl f17)), (mpasta, .inl (cI, 2320, .inl mpast)), (mhelda, .inl (cI, 580, .inl mheld)), (mtexta, .inl (cI, 60, .inl mtext)), (mchosena, .inl (cI, 12, .inl mchosen)), (mtimesa, .inl (cI, 12, .inl mtimes)), (mrestsa, .inl (cJ, 12, .inr (.inl mrests))), (mbeforea, .inl (cI, 12, .inl mbefore)), (mtolda, .inl (cI, 2, .inl mtold))] := hD
      refine lv_aload_n (pc := 112) hx hb dX7_lays_112 rfl (lv_at hl 0 rfl) ?_
      refine va_get (pc := 113) (D := D) (ci := 7) (v := .ref msa) (C := RX7) (T := TX7) (N := 18) hx hb hts hnX7 hown hK.1 hP 0 rfl rfl 0 (Nat.le_of_ble_eq_true rfl) hk121 (fun _ h9 => h9) rfl dX7_lays_113 ?_
      refine lv_sipush (v := 340) (pc := 116) hx hb dX7_lays_116 (by decide) ?_
      refine lv_iload (pc := 119) hx hb dX7_lays_119 (lv_at hl 4 rfl) ?_
      refine lv_iadd (pc := 121) hx hb dX7_lays_121 ?_
      refine lv_iload (pc := 122) hx hb dX7_lays_122 (lv_at hl 5 rfl) ?_
      refine lv_bipush (v := 99) (pc := 124) hx hb dX7_lays_124 (by decide) ?_
      refine lv_icmp_le (pc := 126) (tgt := 134) hx hb dX7_lays_126 (by decide) (fun cc => ?_) (fun cc => ?_)
      · replace h := am_t cc h
        refine lv_iload (pc := 134) hx hb dX7_lays_134 (lv_at hl 5 rfl) ?_
        obtain ⟨hi, h⟩ := am_in_s h
        obtain ⟨f18, ef18⟩ : ∃ y : Nat → Int32, y = (upd f17 ((340 : Int32) + x10).toNatClampNeg x13) := ⟨_, rfl⟩
        replace h := am_let_s ef18 h
        refine va_iast (pc := 136) hx hb hK.1 hP hD hS 1 0 rfl rfl hi dX7_lays_136 (fun H locs hP hD hS => ?_)
        rw [← ef18] at hP hD
        replace hP : va_P D vwCl [(mself, .inr (7, [.ref msa, .ref mpasta, .ref mhelda, .int mpasts, .int mruns, .ref mtexta, .int mtyped, .ref mchosena, .ref mtimesa, .ref mrestsa, .ref mbeforea, .int mspot, .int mfrom, .int mreason, .int mcause, .int morders, .int mkind, .ref mtolda])), (msa, .inl (cI, 580, .inl f18)), (mpasta, .inl (cI, 2320, .inl mpast)), (mhelda, .inl (cI, 580, .inl mheld)), (mtexta, .inl (cI, 60, .inl mtext)), (mchosena, .inl (cI, 12, .inl mchosen)), (mtimesa, .inl (cI, 12, .inl mtimes)), (mrestsa, .inl (cJ, 12, .inr (.inl mrests))), (mbeforea, .inl (cI, 12, .inl mbefore)), (mtolda, .inl (cI, 2, .inl mtold))] H := hP
        replace hD : va_D A [(mself, .inr (7, [.ref msa, .ref mpasta, .ref mhelda, .int mpasts, .int mruns, .ref mtexta, .int mtyped, .ref mchosena, .ref mtimesa, .ref mrestsa, .ref mbeforea, .int mspot, .int mfrom, .int mreason, .int mcause, .int morders, .int mkind, .ref mtolda])), (msa, .inl (cI, 580, .inl f18)), (mpasta, .inl (cI, 2320, .inl mpast)), (mhelda, .inl (cI, 580, .inl mheld)), (mtexta, .inl (cI, 60, .inl mtext)), (mchosena, .inl (cI, 12, .inl mchosen)), (mtimesa, .inl (cI, 12, .inl mtimes)), (mrestsa, .inl (cJ, 12, .inr (.inl mrests))), (mbeforea, .inl (cI, 12, .inl mbefore)), (mtolda, .inl (cI, 2, .inl mtold))] := hD
        obtain ⟨x19, ex19⟩ : ∃ y : Int32, y = (x10 + (1 : Int32)) := ⟨_, rfl⟩
        replace h := am_let_s ex19 h
        refine lv_iinc (pc := 137) (v := x19) (lv' := [(4, .int x19), (0, .ref mself), (1, .int p0), (2, .int p1), (3, .int p2), (5, .int x13)]) hx hb dX7_lays_137 hl (k := 4) rfl (by rw [ex19]; rfl) (by decide) rfl (fun ls hl => ?_)
        refine lv_goto (pc := 140) (tgt := 64) hx hb dX7_lays_140 (by decide) ?_
        exact ihrec12 _ _ h ls (lv_sub hl [1, 2, 3, 4, 0] rfl) H locs hP hD hS
      replace h := am_f cc h
      refine lv_bipush (v := 99) (pc := 129) hx hb dX7_lays_129 (by decide) ?_
      refine lv_goto (pc := 131) (tgt := 136) hx hb dX7_lays_131 (by decide) ?_
      obtain ⟨hi, h⟩ := am_in_s h
      obtain ⟨f20, ef20⟩ : ∃ y : Nat → Int32, y = (upd f17 ((340 : Int32) + x10).toNatClampNeg (99 : Int32)) := ⟨_, rfl⟩
      replace h := am_let_s ef20 h
      refine va_iast (pc := 136) hx hb hK.1 hP hD hS 1 0 rfl rfl hi dX7_lays_136 (fun H locs hP hD hS => ?_)
      rw [← ef20] at hP hD
      replace hP : va_P D vwCl [(mself, .inr (7, [.ref msa, .ref mpasta, .ref mhelda, .int mpasts, .int mruns, .ref mtexta, .int mtyped, .ref mchosena, .ref mtimesa, .ref mrestsa, .ref mbeforea, .int mspot, .int mfrom, .int mreason, .int mcause, .int morders, .int mkind, .ref mtolda])), (msa, .inl (cI, 580, .inl f20)), (mpasta, .inl (cI, 2320, .inl mpast)), (mhelda, .inl (cI, 580, .inl mheld)), (mtexta, .inl (cI, 60, .inl mtext)), (mchosena, .inl (cI, 12, .inl mchosen)), (mtimesa, .inl (cI, 12, .inl mtimes)), (mrestsa, .inl (cJ, 12, .inr (.inl mrests))), (mbeforea, .inl (cI, 12, .inl mbefore)), (mtolda, .inl (cI, 2, .inl mtold))] H := hP
      replace hD : va_D A [(mself, .inr (7, [.ref msa, .ref mpasta, .ref mhelda, .int mpasts, .int mruns, .ref mtexta, .int mtyped, .ref mchosena, .ref mtimesa, .ref mrestsa, .ref mbeforea, .int mspot, .int mfrom, .int mreason, .int mcause, .int morders, .int mkind, .ref mtolda])), (msa, .inl (cI, 580, .inl f20)), (mpasta, .inl (cI, 2320, .inl mpast)), (mhelda, .inl (cI, 580, .inl mheld)), (mtexta, .inl (cI, 60, .inl mtext)), (mchosena, .inl (cI, 12, .inl mchosen)), (mtimesa, .inl (cI, 12, .inl mtimes)), (mrestsa, .inl (cJ, 12, .inr (.inl mrests))), (mbeforea, .inl (cI, 12, .inl mbefore)), (mtolda, .inl (cI, 2, .inl mtold))] := hD
      obtain ⟨x21, ex21⟩ : ∃ y : Int32, y = (x10 + (1 : Int32)) := ⟨_, rfl⟩
      replace h := am_let_s ex21 h
      refine lv_iinc (pc := 137) (v := x21) (lv' := [(4, .int x21), (0, .ref mself), (1, .int p0), (2, .int p1), (3, .int p2), (5, .int x13)]) hx hb dX7_lays_137 hl (k := 4) rfl (by rw [ex21]; rfl) (by decide) rfl (fun ls hl => ?_)
      refine lv_goto (pc := 140) (tgt := 64) hx hb dX7_lays_140 (by decide) ?_
      exact ihrec12 _ _ h ls (lv_sub hl [1, 2, 3, 4, 0] rfl) H locs hP hD hS
    refine lv_icmp_ge (pc := 91) (tgt := 98) hx hb dX7_lays_91 (by decide) (fun cc => ?_) (fun cc => ?_)
    · replace h := am_t cc h
      refine lv_iconst (v := 0) (pc := 98) hx hb dX7_lays_98 (by decide) ?_
      exact hJ15 _ h ls (lv_sub hl [1, 2, 3, 4, 5, 0] rfl)
    replace h := am_f cc h
    refine lv_iconst (v := 1) (pc := 94) hx hb dX7_lays_94 (by decide) ?_
    refine lv_goto (pc := 95) (tgt := 99) hx hb dX7_lays_95 (by decide) ?_
    exact hJ15 _ h ls (lv_sub hl [1, 2, 3, 4, 5, 0] rfl)
  refine am_loop2_s (fun (x22 : Int32) (f23 : Nat → Int32) => ∀ (ls : Array Slot), lv_has ls 6 [(0, .ref mself), (1, .int p0), (2, .int p1), (3, .int p2), (4, .int x22)] → ∀ (H : Heap) (locs : List Loc), va_P D vwCl [(mself, .inr (7, [.ref msa, .ref mpasta, .ref mhelda, .int mpasts, .int mruns, .ref mtexta, .int mtyped, .ref mchosena, .ref mtimesa, .ref mrestsa, .ref mbeforea, .int mspot, .int mfrom, .int mreason, .int mcause, .int morders, .int mkind, .ref mtolda])), (msa, .inl (cI, 580, .inl f23)), (mpasta, .inl (cI, 2320, .inl mpast)), (mhelda, .inl (cI, 580, .inl mheld)), (mtexta, .inl (cI, 60, .inl mtext)), (mchosena, .inl (cI, 12, .inl mchosen)), (mtimesa, .inl (cI, 12, .inl mtimes)), (mrestsa, .inl (cJ, 12, .inr (.inl mrests))), (mbeforea, .inl (cI, 12, .inl mbefore)), (mtolda, .inl (cI, 2, .inl mtold))] H → va_D A [(mself, .inr (7, [.ref msa, .ref mpasta, .ref mhelda, .int mpasts, .int mruns, .ref mtexta, .int mtyped, .ref mchosena, .ref mtimesa, .ref mrestsa, .ref mbeforea, .int mspot, .int mfrom, .int mreason, .int mcause, .int morders, .int mkind, .ref mtolda])), (msa, .inl (cI, 580, .inl f23)), (mpasta, .inl (cI, 2320, .inl mpast)), (mhelda, .inl (cI, 580, .inl mheld)), (mtexta, .inl (cI, 60, .inl mtext)), (mchosena, .inl (cI, 12, .inl mchosen)), (mtimesa, .inl (cI, 12, .inl mtimes)), (mrestsa, .inl (cJ, 12, .inr (.inl mrests))), (mbeforea, .inl (cI, 12, .inl mbefore)), (mtolda, .inl (cI, 2, .inl mtold))] → va_S A s.heap H locs → W p l e rmX7_lays s m args below meth c H locs 0 0 Q (F0 m 38 ls [])) (fun rec24 ihrec24 x22 f23 h ls hl H locs hP hD hS => ?_) _ _ _ h ls (lv_sub hl [1, 2, 3, 4, 0] rfl) H locs hP hD hS
  unfold F_X7_lays_B38 at h
  refine lv_iload (pc := 38) hx hb dX7_lays_38 (lv_at hl 4 rfl) ?_
  refine lv_iconst (v := 4) (pc := 40) hx hb dX7_lays_40 (by decide) ?_
  refine lv_icmp_ge (pc := 41) (tgt := 61) hx hb dX7_lays_41 (by decide) (fun cc => ?_) (fun cc => ?_)
  · replace h := am_t cc h
    exact hK7 _ h ls (lv_sub hl [0, 1, 2, 3] rfl) H locs hP hD hS
  replace h := am_f cc h
  refine lv_aload_n (pc := 44) hx hb dX7_lays_44 rfl (lv_at hl 0 rfl) ?_
  refine va_get (pc := 45) (D := D) (ci := 7) (v := .ref msa) (C := RX7) (T := TX7) (N := 18) hx hb hts hnX7 hown hK.1 hP 0 rfl rfl 0 (Nat.le_of_ble_eq_true rfl) hk121 (fun _ h9 => h9) rfl dX7_lays_45 ?_
  refine lv_bipush (v := 20) (pc := 48) hx hb dX7_lays_48 (by decide) ?_
  refine lv_iload (pc := 50) hx hb dX7_lays_50 (lv_at hl 4 rfl) ?_
  refine lv_iadd (pc := 52) hx hb dX7_lays_52 ?_
  refine lv_iconst (v := 0) (pc := 53) hx hb dX7_lays_53 (by decide) ?_
  obtain ⟨hi, h⟩ := am_in_s h
  obtain ⟨f25, ef25⟩ : ∃ y : Nat → Int32, y = (upd f23 ((20 : Int32) + x22).toNatClampNeg (0 : Int32)) := ⟨_, rfl⟩
  replace h := am_let_s ef25 h
  refine va_iast (pc := 54) hx hb hK.1 hP hD hS 1 0 rfl rfl hi dX7_lays_54 (fun H locs hP hD hS => ?_)
  rw [← ef25] at hP hD
  replace hP : va_P D vwCl [(mself, .inr (7, [.ref msa, .ref mpasta, .ref mhelda, .int mpasts, .int mruns, .ref mtexta, .int mtyped, .ref mchosena, .ref mtimesa, .ref mrestsa, .ref mbeforea, .int mspot, .int mfrom, .int mreason, .int mcause, .int morders, .int mkind, .ref mtolda])), (msa, .inl (cI, 580, .inl f25)), (mpasta, .inl (cI, 2320, .inl mpast)), (mhelda, .inl (cI, 580, .inl mheld)), (mtexta, .inl (cI, 60, .inl mtext)), (mchosena, .inl (cI, 12, .inl mchosen)), (mtimesa, .inl (cI, 12, .inl mtimes)), (mrestsa, .inl (cJ, 12, .inr (.inl mrests))), (mbeforea, .inl (cI, 12, .inl mbefore)), (mtolda, .inl (cI, 2, .inl mtold))] H := hP
  replace hD : va_D A [(mself, .inr (7, [.ref msa, .ref mpasta, .ref mhelda, .int mpasts, .int mruns, .ref mtexta, .int mtyped, .ref mchosena, .ref mtimesa, .ref mrestsa, .ref mbeforea, .int mspot, .int mfrom, .int mreason, .int mcause, .int morders, .int mkind, .ref mtolda])), (msa, .inl (cI, 580, .inl f25)), (mpasta, .inl (cI, 2320, .inl mpast)), (mhelda, .inl (cI, 580, .inl mheld)), (mtexta, .inl (cI, 60, .inl mtext)), (mchosena, .inl (cI, 12, .inl mchosen)), (mtimesa, .inl (cI, 12, .inl mtimes)), (mrestsa, .inl (cJ, 12, .inr (.inl mrests))), (mbeforea, .inl (cI, 12, .inl mbefore)), (mtolda, .inl (cI, 2, .inl mtold))] := hD
  obtain ⟨x26, ex26⟩ : ∃ y : Int32, y = (x22 + (1 : Int32)) := ⟨_, rfl⟩
  replace h := am_let_s ex26 h
  refine lv_iinc (pc := 55) (v := x26) (lv' := [(4, .int x26), (0, .ref mself), (1, .int p0), (2, .int p1), (3, .int p2)]) hx hb dX7_lays_55 hl (k := 4) rfl (by rw [ex26]; rfl) (by decide) rfl (fun ls hl => ?_)
  refine lv_goto (pc := 58) (tgt := 38) hx hb dX7_lays_58 (by decide) ?_
  exact ihrec24 _ _ h ls (lv_sub hl [1, 2, 3, 4, 0] rfl) H locs hP hD hS
theorem hdX7_isParticle : yX7_isParticle.cls ≠ "java/lang/invoke/MethodHandle" ∧ yX7_isParticle.cls ≠ "java/lang/invoke/VarHandle" ∧ (parseMethodDescriptor yX7_isParticle.desc).map (fun d => d.parameters.length) = some 1 := by decide +kernel
abbrev rmX7_isParticle : Room := { frames := 0, cells := 0, slots := 0, locals := 0 }
set_option maxHeartbeats 20000000 in
set_option maxRecDepth 100000 in
theorem c_X7_isParticle (l : Launch) (D : va_G) (cI cJ : ClassId) (mself : Nat) (msa : Nat) (mpasta : Nat) (mhelda : Nat) (mtexta : Nat) (mchosena : Nat) (mtimesa : Nat) (mrestsa : Nat) (mbeforea : Nat) (mtolda : Nat) (mpasts : Int32) (mruns : Int32) (mtyped : Int32) (mspot : Int32) (mfrom : Int32) (mreason : Int32) (mcause : Int32) (morders : Int32) (mkind : Int32) (ms : Nat → Int32) (mpast : Nat → Int32) (mheld : Nat → Int32) (mtext : Nat → Int32) (mchosen : Nat → Int32) (mtimes : Nat → Int32) (mrests : Nat → Int64) (mbefore : Nat → Int32) (mtold : Nat → Int32) (p0 : Int32) (r0 : Int32) (hF : F_X7_isParticle ms p0 = some r0) : Met l yX7_isParticle (wz yX7_isParticle cX7_isParticle 2 (some .boolean)) rmX7_isParticle (kPc D cI cJ [(mself, .inr (7, [.ref msa, .ref mpasta, .ref mhelda, .int mpasts, .int mruns, .ref mtexta, .int mtyped, .ref mchosena, .ref mtimesa, .ref mrestsa, .ref mbeforea, .int mspot, .int mfrom, .int mreason, .int mcause, .int morders, .int mkind, .ref mtolda])), (msa, .inl (cI, 580, .inl ms)), (mpasta, .inl (cI, 2320, .inl mpast)), (mhelda, .inl (cI, 580, .inl mheld)), (mtexta, .inl (cI, 60, .inl mtext)), (mchosena, .inl (cI, 12, .inl mchosen)), (mtimesa, .inl (cI, 12, .inl mtimes)), (mrestsa, .inl (cJ, 12, .inr (.inl mrests))), (mbeforea, .inl (cI, 12, .inl mbefore)), (mtolda, .inl (cI, 2, .inl mtold))] [.ref mself, .int p0]) (vp_Si (fun r => r = r0)) 0 0 (fun _ => False) := by
  refine kM_ri cX7_isParticle 2 .boolean (by decide +kernel) rfl rfl (Nat.le_of_ble_eq_true rfl) ⟨rfl, rfl⟩ ?_
  intro p e s m args below meth c Q ls hx hb hml hown hts hP hK hl hret
  have hk121 := hts _ (List.mem_cons_of_mem _ wl121)
  have hnX7 : ∀ w ∈ u_ws RX7 TX7 18, w ∈ wz yX7_isParticle cX7_isParticle 2 (some .boolean) := fun w h => List.mem_cons_of_mem _ (inlX7 w h)
  replace hl : lv_has ls 2 [(0, .ref mself), (1, .int p0)] := hl
  have h := hF
  unfold F_X7_isParticle at h
  refine lv_iload_n (pc := 0) hx hb dX7_isParticle_0 rfl (lv_at hl 1 rfl) ?_
  refine lv_if_lt (pc := 1) (tgt := 18) hx hb dX7_isParticle_1 (by decide) (fun cc => ?_) (fun cc => ?_)
  · replace h := am_t cc h
    refine lv_iconst (v := 0) (pc := 18) hx hb dX7_isParticle_18 (by decide) ?_
    obtain e1 := am_ret1 h
    exact hret _ _ _ dX7_isParticle_19 rfl e1
  replace h := am_f cc h
  refine lv_iload_n (pc := 4) hx hb dX7_isParticle_4 rfl (lv_at hl 1 rfl) ?_
  refine lv_aload_n (pc := 5) hx hb dX7_isParticle_5 rfl (lv_at hl 0 rfl) ?_
  refine va_get (pc := 6) (D := D) (ci := 7) (v := .ref msa) (C := RX7) (T := TX7) (N := 18) hx hb hts hnX7 hown hK.1 hP 0 rfl rfl 0 (Nat.le_of_ble_eq_true rfl) hk121 (fun _ h9 => h9) rfl dX7_isParticle_6 ?_
  refine lv_iconst (v := 0) (pc := 9) hx hb dX7_isParticle_9 (by decide) ?_
  refine va_iald (pc := 10) hx hb hK.1 hP 1 0 rfl rfl (vp_in_nI (n := 0) (N := 580) (by decide) (by decide)) dX7_isParticle_10 ?_
  refine lv_icmp_ge (pc := 11) (tgt := 18) hx hb dX7_isParticle_11 (by decide) (fun cc => ?_) (fun cc => ?_)
  · replace h := am_t cc h
    refine lv_iconst (v := 0) (pc := 18) hx hb dX7_isParticle_18 (by decide) ?_
    obtain e1 := am_ret1 h
    exact hret _ _ _ dX7_isParticle_19 rfl e1
  replace h := am_f cc h
  refine lv_iconst (v := 1) (pc := 14) hx hb dX7_isParticle_14 (by decide) ?_
  refine lv_goto (pc := 15) (tgt := 19) hx hb dX7_isParticle_15 (by decide) ?_
  obtain e1 := am_ret1 h
  exact hret _ _ _ dX7_isParticle_19 rfl e1
theorem hdX7_isGeneration : yX7_isGeneration.cls ≠ "java/lang/invoke/MethodHandle" ∧ yX7_isGeneration.cls ≠ "java/lang/invoke/VarHandle" ∧ (parseMethodDescriptor yX7_isGeneration.desc).map (fun d => d.parameters.length) = some 1 := by decide +kernel
abbrev rmX7_isGeneration : Room := { frames := 0, cells := 0, slots := 0, locals := 0 }
set_option maxHeartbeats 20000000 in
set_option maxRecDepth 100000 in
theorem c_X7_isGeneration (l : Launch) (D : va_G) (cI cJ : ClassId) (mself : Nat) (msa : Nat) (mpasta : Nat) (mhelda : Nat) (mtexta : Nat) (mchosena : Nat) (mtimesa : Nat) (mrestsa : Nat) (mbeforea : Nat) (mtolda : Nat) (mpasts : Int32) (mruns : Int32) (mtyped : Int32) (mspot : Int32) (mfrom : Int32) (mreason : Int32) (mcause : Int32) (morders : Int32) (mkind : Int32) (ms : Nat → Int32) (mpast : Nat → Int32) (mheld : Nat → Int32) (mtext : Nat → Int32) (mchosen : Nat → Int32) (mtimes : Nat → Int32) (mrests : Nat → Int64) (mbefore : Nat → Int32) (mtold : Nat → Int32) (p0 : Int32) (r0 : Int32) (hF : F_X7_isGeneration ms p0 = some r0) : Met l yX7_isGeneration (wz yX7_isGeneration cX7_isGeneration 2 (some .boolean)) rmX7_isGeneration (kPc D cI cJ [(mself, .inr (7, [.ref msa, .ref mpasta, .ref mhelda, .int mpasts, .int mruns, .ref mtexta, .int mtyped, .ref mchosena, .ref mtimesa, .ref mrestsa, .ref mbeforea, .int mspot, .int mfrom, .int mreason, .int mcause, .int morders, .int mkind, .ref mtolda])), (msa, .inl (cI, 580, .inl ms)), (mpasta, .inl (cI, 2320, .inl mpast)), (mhelda, .inl (cI, 580, .inl mheld)), (mtexta, .inl (cI, 60, .inl mtext)), (mchosena, .inl (cI, 12, .inl mchosen)), (mtimesa, .inl (cI, 12, .inl mtimes)), (mrestsa, .inl (cJ, 12, .inr (.inl mrests))), (mbeforea, .inl (cI, 12, .inl mbefore)), (mtolda, .inl (cI, 2, .inl mtold))] [.ref mself, .int p0]) (vp_Si (fun r => r = r0)) 0 0 (fun _ => False) := by
  refine kM_ri cX7_isGeneration 2 .boolean (by decide +kernel) rfl rfl (Nat.le_of_ble_eq_true rfl) ⟨rfl, rfl⟩ ?_
  intro p e s m args below meth c Q ls hx hb hml hown hts hP hK hl hret
  have hk121 := hts _ (List.mem_cons_of_mem _ wl121)
  have hnX7 : ∀ w ∈ u_ws RX7 TX7 18, w ∈ wz yX7_isGeneration cX7_isGeneration 2 (some .boolean) := fun w h => List.mem_cons_of_mem _ (inlX7 w h)
  replace hl : lv_has ls 2 [(0, .ref mself), (1, .int p0)] := hl
  have h := hF
  unfold F_X7_isGeneration at h
  refine lv_iload_n (pc := 0) hx hb dX7_isGeneration_0 rfl (lv_at hl 1 rfl) ?_
  refine lv_if_lt (pc := 1) (tgt := 18) hx hb dX7_isGeneration_1 (by decide) (fun cc => ?_) (fun cc => ?_)
  · replace h := am_t cc h
    refine lv_iconst (v := 0) (pc := 18) hx hb dX7_isGeneration_18 (by decide) ?_
    obtain e1 := am_ret1 h
    exact hret _ _ _ dX7_isGeneration_19 rfl e1
  replace h := am_f cc h
  refine lv_iload_n (pc := 4) hx hb dX7_isGeneration_4 rfl (lv_at hl 1 rfl) ?_
  refine lv_aload_n (pc := 5) hx hb dX7_isGeneration_5 rfl (lv_at hl 0 rfl) ?_
  refine va_get (pc := 6) (D := D) (ci := 7) (v := .ref msa) (C := RX7) (T := TX7) (N := 18) hx hb hts hnX7 hown hK.1 hP 0 rfl rfl 0 (Nat.le_of_ble_eq_true rfl) hk121 (fun _ h9 => h9) rfl dX7_isGeneration_6 ?_
  refine lv_iconst (v := 1) (pc := 9) hx hb dX7_isGeneration_9 (by decide) ?_
  refine va_iald (pc := 10) hx hb hK.1 hP 1 0 rfl rfl (vp_in_nI (n := 1) (N := 580) (by decide) (by decide)) dX7_isGeneration_10 ?_
  refine lv_icmp_ge (pc := 11) (tgt := 18) hx hb dX7_isGeneration_11 (by decide) (fun cc => ?_) (fun cc => ?_)
  · replace h := am_t cc h
    refine lv_iconst (v := 0) (pc := 18) hx hb dX7_isGeneration_18 (by decide) ?_
    obtain e1 := am_ret1 h
    exact hret _ _ _ dX7_isGeneration_19 rfl e1
  replace h := am_f cc h
  refine lv_iconst (v := 1) (pc := 14) hx hb dX7_isGeneration_14 (by decide) ?_
  refine lv_goto (pc := 15) (tgt := 19) hx hb dX7_isGeneration_15 (by decide) ?_
  obtain e1 := am_ret1 h
  exact hret _ _ _ dX7_isGeneration_19 rfl e1
theorem hdX7_latest : yX7_latest.cls ≠ "java/lang/invoke/MethodHandle" ∧ yX7_latest.cls ≠ "java/lang/invoke/VarHandle" ∧ (parseMethodDescriptor yX7_latest.desc).map (fun d => d.parameters.length) = some 0 := by decide +kernel
abbrev rmX7_latest : Room := { frames := 0, cells := 0, slots := 0, locals := 0 }
set_option maxHeartbeats 20000000 in
set_option maxRecDepth 100000 in
theorem c_X7_latest (l : Launch) (D : va_G) (cI cJ : ClassId) (mself : Nat) (msa : Nat) (mpasta : Nat) (mhelda : Nat) (mtexta : Nat) (mchosena : Nat) (mtimesa : Nat) (mrestsa : Nat) (mbeforea : Nat) (mtolda : Nat) (mpasts : Int32) (mruns : Int32) (mtyped : Int32) (mspot : Int32) (mfrom : Int32) (mreason : Int32) (mcause : Int32) (morders : Int32) (mkind : Int32) (ms : Nat → Int32) (mpast : Nat → Int32) (mheld : Nat → Int32) (mtext : Nat → Int32) (mchosen : Nat → Int32) (mtimes : Nat → Int32) (mrests : Nat → Int64) (mbefore : Nat → Int32) (mtold : Nat → Int32)  (r0 : Int32) (hF : F_X7_latest ms = some r0) : Met l yX7_latest (wz yX7_latest cX7_latest 1 (some .int)) rmX7_latest (kPc D cI cJ [(mself, .inr (7, [.ref msa, .ref mpasta, .ref mhelda, .int mpasts, .int mruns, .ref mtexta, .int mtyped, .ref mchosena, .ref mtimesa, .ref mrestsa, .ref mbeforea, .int mspot, .int mfrom, .int mreason, .int mcause, .int morders, .int mkind, .ref mtolda])), (msa, .inl (cI, 580, .inl ms)), (mpasta, .inl (cI, 2320, .inl mpast)), (mhelda, .inl (cI, 580, .inl mheld)), (mtexta, .inl (cI, 60, .inl mtext)), (mchosena, .inl (cI, 12, .inl mchosen)), (mtimesa, .inl (cI, 12, .inl mtimes)), (mrestsa, .inl (cJ, 12, .inr (.inl mrests))), (mbeforea, .inl (cI, 12, .inl mbefore)), (mtolda, .inl (cI, 2, .inl mtold))] [.ref mself]) (vp_Si (fun r => r = r0)) 0 0 (fun _ => False) := by
  refine kM_ri cX7_latest 1 .int (by decide +kernel) rfl rfl (Nat.le_of_ble_eq_true rfl) ⟨rfl, rfl⟩ ?_
  intro p e s m args below meth c Q ls hx hb hml hown hts hP hK hl hret
  have hk121 := hts _ (List.mem_cons_of_mem _ wl121)
  have hnX7 : ∀ w ∈ u_ws RX7 TX7 18, w ∈ wz yX7_latest cX7_latest 1 (some .int) := fun w h => List.mem_cons_of_mem _ (inlX7 w h)
  replace hl : lv_has ls 1 [(0, .ref mself)] := hl
  have h := hF
  unfold F_X7_latest at h
  refine lv_aload_n (pc := 0) hx hb dX7_latest_0 rfl (lv_at hl 0 rfl) ?_
  refine va_get (pc := 1) (D := D) (ci := 7) (v := .ref msa) (C := RX7) (T := TX7) (N := 18) hx hb hts hnX7 hown hK.1 hP 0 rfl rfl 0 (Nat.le_of_ble_eq_true rfl) hk121 (fun _ h9 => h9) rfl dX7_latest_1 ?_
  refine lv_iconst (v := 1) (pc := 4) hx hb dX7_latest_4 (by decide) ?_
  refine va_iald (pc := 5) hx hb hK.1 hP 1 0 rfl rfl (vp_in_nI (n := 1) (N := 580) (by decide) (by decide)) dX7_latest_5 ?_
  refine lv_iconst (v := 1) (pc := 6) hx hb dX7_latest_6 (by decide) ?_
  refine lv_isub (pc := 7) hx hb dX7_latest_7 ?_
  obtain e1 := am_ret1 h
  exact hret _ _ _ dX7_latest_8 rfl e1
theorem hdX7_placeIn : yX7_placeIn.cls ≠ "java/lang/invoke/MethodHandle" ∧ yX7_placeIn.cls ≠ "java/lang/invoke/VarHandle" ∧ (parseMethodDescriptor yX7_placeIn.desc).map (fun d => d.parameters.length) = some 2 := by decide +kernel
abbrev rmX7_placeIn : Room := { frames := 0, cells := 0, slots := 0, locals := 0 }
set_option maxHeartbeats 20000000 in
set_option maxRecDepth 100000 in
theorem c_X7_placeIn (l : Launch) (D : va_G) (cI cJ : ClassId) (mself : Nat) (msa : Nat) (mpasta : Nat) (mhelda : Nat) (mtexta : Nat) (mchosena : Nat) (mtimesa : Nat) (mrestsa : Nat) (mbeforea : Nat) (mtolda : Nat) (mpasts : Int32) (mruns : Int32) (mtyped : Int32) (mspot : Int32) (mfrom : Int32) (mreason : Int32) (mcause : Int32) (morders : Int32) (mkind : Int32) (ms : Nat → Int32) (mpast : Nat → Int32) (mheld : Nat → Int32) (mtext : Nat → Int32) (mchosen : Nat → Int32) (mtimes : Nat → Int32) (mrests : Nat → Int64) (mbefore : Nat → Int32) (mtold : Nat → Int32) (p0 : Int32) (p1 : Int32) (r0 : Int32) (hF : F_X7_placeIn ms p0 p1 = some r0) : Met l yX7_placeIn (wz yX7_placeIn cX7_placeIn 3 (some .int)) rmX7_placeIn (kPc D cI cJ [(mself, .inr (7, [.ref msa, .ref mpasta, .ref mhelda, .int mpasts, .int mruns, .ref mtexta, .int mtyped, .ref mchosena, .ref mtimesa, .ref mrestsa, .ref mbeforea, .int mspot, .int mfrom, .int mreason, .int mcause, .int morders, .int mkind, .ref mtolda])), (msa, .inl (cI, 580, .inl ms)), (mpasta, .inl (cI, 2320, .inl mpast)), (mhelda, .inl (cI, 580, .inl mheld)), (mtexta, .inl (cI, 60, .inl mtext)), (mchosena, .inl (cI, 12, .inl mchosen)), (mtimesa, .inl (cI, 12, .inl mtimes)), (mrestsa, .inl (cJ, 12, .inr (.inl mrests))), (mbeforea, .inl (cI, 12, .inl mbefore)), (mtolda, .inl (cI, 2, .inl mtold))] [.ref mself, .int p0, .int p1]) (vp_Si (fun r => r = r0)) 0 0 (fun _ => False) := by
  refine kM_ri cX7_placeIn 3 .int (by decide +kernel) rfl rfl (Nat.le_of_ble_eq_true rfl) ⟨rfl, rfl⟩ ?_
  intro p e s m args below meth c Q ls hx hb hml hown hts hP hK hl hret
  have hk121 := hts _ (List.mem_cons_of_mem _ wl121)
  have hnX7 : ∀ w ∈ u_ws RX7 TX7 18, w ∈ wz yX7_placeIn cX7_placeIn 3 (some .int) := fun w h => List.mem_cons_of_mem _ (inlX7 w h)
  replace hl : lv_has ls 3 [(0, .ref mself), (1, .int p0), (2, .int p1)] := hl
  have h := hF
  unfold F_X7_placeIn at h
  refine lv_aload_n (pc := 0) hx hb dX7_placeIn_0 rfl (lv_at hl 0 rfl) ?_
  refine va_get (pc := 1) (D := D) (ci := 7) (v := .ref msa) (C := RX7) (T := TX7) (N := 18) hx hb hts hnX7 hown hK.1 hP 0 rfl rfl 0 (Nat.le_of_ble_eq_true rfl) hk121 (fun _ h9 => h9) rfl dX7_placeIn_1 ?_
  refine lv_sipush (v := 340) (pc := 4) hx hb dX7_placeIn_4 (by decide) ?_
  refine lv_bipush (v := 12) (pc := 7) hx hb dX7_placeIn_7 (by decide) ?_
  refine lv_iload_n (pc := 9) hx hb dX7_placeIn_9 rfl (lv_at hl 1 rfl) ?_
  refine lv_imul (pc := 10) hx hb dX7_placeIn_10 ?_
  refine lv_iadd (pc := 11) hx hb dX7_placeIn_11 ?_
  refine lv_iload_n (pc := 12) hx hb dX7_placeIn_12 rfl (lv_at hl 2 rfl) ?_
  refine lv_iadd (pc := 13) hx hb dX7_placeIn_13 ?_
  obtain ⟨hi, h⟩ := am_in_s h
  refine va_iald (pc := 14) hx hb hK.1 hP 1 0 rfl rfl hi dX7_placeIn_14 ?_
  obtain e1 := am_ret1 h
  exact hret _ _ _ dX7_placeIn_15 rfl e1
theorem hdX7_takes : yX7_takes.cls ≠ "java/lang/invoke/MethodHandle" ∧ yX7_takes.cls ≠ "java/lang/invoke/VarHandle" ∧ (parseMethodDescriptor yX7_takes.desc).map (fun d => d.parameters.length) = some 0 := by decide +kernel
abbrev rmX7_takes : Room := { frames := 0, cells := 0, slots := 0, locals := 0 }
set_option maxHeartbeats 20000000 in
set_option maxRecDepth 100000 in
theorem c_X7_takes (l : Launch) (D : va_G) (cI cJ : ClassId) (mself : Nat) (msa : Nat) (mpasta : Nat) (mhelda : Nat) (mtexta : Nat) (mchosena : Nat) (mtimesa : Nat) (mrestsa : Nat) (mbeforea : Nat) (mtolda : Nat) (mpasts : Int32) (mruns : Int32) (mtyped : Int32) (mspot : Int32) (mfrom : Int32) (mreason : Int32) (mcause : Int32) (morders : Int32) (mkind : Int32) (ms : Nat → Int32) (mpast : Nat → Int32) (mheld : Nat → Int32) (mtext : Nat → Int32) (mchosen : Nat → Int32) (mtimes : Nat → Int32) (mrests : Nat → Int64) (mbefore : Nat → Int32) (mtold : Nat → Int32)  (r0 : Int32) (zms : Nat → Int32) (hF : F_X7_takes ms = some (r0, zms)) (sz : Nat) : Met l yX7_takes (wz yX7_takes cX7_takes 1 (some .int)) rmX7_takes (kPw D cI cJ [(mself, .inr (7, [.ref msa, .ref mpasta, .ref mhelda, .int mpasts, .int mruns, .ref mtexta, .int mtyped, .ref mchosena, .ref mtimesa, .ref mrestsa, .ref mbeforea, .int mspot, .int mfrom, .int mreason, .int mcause, .int morders, .int mkind, .ref mtolda])), (msa, .inl (cI, 580, .inl ms)), (mpasta, .inl (cI, 2320, .inl mpast)), (mhelda, .inl (cI, 580, .inl mheld)), (mtexta, .inl (cI, 60, .inl mtext)), (mchosena, .inl (cI, 12, .inl mchosen)), (mtimesa, .inl (cI, 12, .inl mtimes)), (mrestsa, .inl (cJ, 12, .inr (.inl mrests))), (mbeforea, .inl (cI, 12, .inl mbefore)), (mtolda, .inl (cI, 2, .inl mtold))] sz [.ref mself]) (kQi D r0 [(mself, .inr (7, [.ref msa, .ref mpasta, .ref mhelda, .int mpasts, .int mruns, .ref mtexta, .int mtyped, .ref mchosena, .ref mtimesa, .ref mrestsa, .ref mbeforea, .int mspot, .int mfrom, .int mreason, .int mcause, .int morders, .int mkind, .ref mtolda])), (msa, .inl (cI, 580, .inl zms)), (mpasta, .inl (cI, 2320, .inl mpast)), (mhelda, .inl (cI, 580, .inl mheld)), (mtexta, .inl (cI, 60, .inl mtext)), (mchosena, .inl (cI, 12, .inl mchosen)), (mtimesa, .inl (cI, 12, .inl mtimes)), (mrestsa, .inl (cJ, 12, .inr (.inl mrests))), (mbeforea, .inl (cI, 12, .inl mbefore)), (mtolda, .inl (cI, 2, .inl mtold))] (va_A [(mself, .inr (7, [.ref msa, .ref mpasta, .ref mhelda, .int mpasts, .int mruns, .ref mtexta, .int mtyped, .ref mchosena, .ref mtimesa, .ref mrestsa, .ref mbeforea, .int mspot, .int mfrom, .int mreason, .int mcause, .int morders, .int mkind, .ref mtolda])), (msa, .inl (cI, 580, .inl ms)), (mpasta, .inl (cI, 2320, .inl mpast)), (mhelda, .inl (cI, 580, .inl mheld)), (mtexta, .inl (cI, 60, .inl mtext)), (mchosena, .inl (cI, 12, .inl mchosen)), (mtimesa, .inl (cI, 12, .inl mtimes)), (mrestsa, .inl (cJ, 12, .inr (.inl mrests))), (mbeforea, .inl (cI, 12, .inl mbefore)), (mtolda, .inl (cI, 2, .inl mtold))] sz)) 0 0 (va_A [(mself, .inr (7, [.ref msa, .ref mpasta, .ref mhelda, .int mpasts, .int mruns, .ref mtexta, .int mtyped, .ref mchosena, .ref mtimesa, .ref mrestsa, .ref mbeforea, .int mspot, .int mfrom, .int mreason, .int mcause, .int morders, .int mkind, .ref mtolda])), (msa, .inl (cI, 580, .inl ms)), (mpasta, .inl (cI, 2320, .inl mpast)), (mhelda, .inl (cI, 580, .inl mheld)), (mtexta, .inl (cI, 60, .inl mtext)), (mchosena, .inl (cI, 12, .inl mchosen)), (mtimesa, .inl (cI, 12, .inl mtimes)), (mrestsa, .inl (cJ, 12, .inr (.inl mrests))), (mbeforea, .inl (cI, 12, .inl mbefore)), (mtolda, .inl (cI, 2, .inl mtold))] sz) := by
  refine kM_wi cX7_takes 1 .int (by decide +kernel) rfl rfl (Nat.le_of_ble_eq_true rfl) ⟨rfl, rfl⟩ ?_
  intro p e s m args below meth c Q A ls hx hb hml hown hts hP hK hD hA hS hl hret
  have hk121 := hts _ (List.mem_cons_of_mem _ wl121)
  have hk288 := hts _ (List.mem_cons_of_mem _ wl288)
  have hnX7 : ∀ w ∈ u_ws RX7 TX7 18, w ∈ wz yX7_takes cX7_takes 1 (some .int) := fun w h => List.mem_cons_of_mem _ (inlX7 w h)
  replace hl : lv_has ls 1 [(0, .ref mself)] := hl
  have h := hF
  unfold F_X7_takes at h
  refine lv_aload_n (pc := 0) hx hb dX7_takes_0 rfl (lv_at hl 0 rfl) ?_
  refine va_get (pc := 1) (D := D) (ci := 7) (v := .ref msa) (C := RX7) (T := TX7) (N := 18) hx hb hts hnX7 hown hK.1 hP 0 rfl rfl 0 (Nat.le_of_ble_eq_true rfl) hk121 (fun _ h9 => h9) rfl dX7_takes_1 ?_
  refine lv_iconst (v := 2) (pc := 4) hx hb dX7_takes_4 (by decide) ?_
  refine lv_aload_n (pc := 5) hx hb dX7_takes_5 rfl (lv_at hl 0 rfl) ?_
  refine va_get (pc := 6) (D := D) (ci := 7) (v := .ref msa) (C := RX7) (T := TX7) (N := 18) hx hb hts hnX7 hown hK.1 hP 0 rfl rfl 0 (Nat.le_of_ble_eq_true rfl) hk121 (fun _ h9 => h9) rfl dX7_takes_6 ?_
  refine lv_iconst (v := 2) (pc := 9) hx hb dX7_takes_9 (by decide) ?_
  refine va_iald (pc := 10) hx hb hK.1 hP 1 0 rfl rfl (vp_in_nI (n := 2) (N := 580) (by decide) (by decide)) dX7_takes_10 ?_
  refine lv_bipush (v := 75) (pc := 11) hx hb dX7_takes_11 (by decide) ?_
  refine lv_imul (pc := 13) hx hb dX7_takes_13 ?_
  refine lv_bipush (v := 74) (pc := 14) hx hb dX7_takes_14 (by decide) ?_
  refine lv_iadd (pc := 16) hx hb dX7_takes_16 ?_
  refine lv_ldc (pc := 17) hx hb hown hk288 dX7_takes_17 ?_
  refine lv_irem (pc := 19) hx hb dX7_takes_19 (by decide) ?_
  obtain ⟨f1, ef1⟩ : ∃ y : Nat → Int32, y = (upd ms (2 : Int32).toNatClampNeg ((((ms (2 : Int32).toNatClampNeg) * (75 : Int32)) + (74 : Int32)) - (((ms (2 : Int32).toNatClampNeg) * (75 : Int32)) + (74 : Int32)) / (65537 : Int32) * (65537 : Int32))) := ⟨_, rfl⟩
  replace h := am_let_s ef1 h
  refine va_iast (pc := 20) hx hb hK.1 hP hD hS 1 0 rfl rfl (vp_in_nI (n := 2) (N := 580) (by decide) (by decide)) dX7_takes_20 (fun H locs hP hD hS => ?_)
  rw [← ef1] at hP hD
  replace hP : va_P D vwCl [(mself, .inr (7, [.ref msa, .ref mpasta, .ref mhelda, .int mpasts, .int mruns, .ref mtexta, .int mtyped, .ref mchosena, .ref mtimesa, .ref mrestsa, .ref mbeforea, .int mspot, .int mfrom, .int mreason, .int mcause, .int morders, .int mkind, .ref mtolda])), (msa, .inl (cI, 580, .inl f1)), (mpasta, .inl (cI, 2320, .inl mpast)), (mhelda, .inl (cI, 580, .inl mheld)), (mtexta, .inl (cI, 60, .inl mtext)), (mchosena, .inl (cI, 12, .inl mchosen)), (mtimesa, .inl (cI, 12, .inl mtimes)), (mrestsa, .inl (cJ, 12, .inr (.inl mrests))), (mbeforea, .inl (cI, 12, .inl mbefore)), (mtolda, .inl (cI, 2, .inl mtold))] H := hP
  replace hD : va_D A [(mself, .inr (7, [.ref msa, .ref mpasta, .ref mhelda, .int mpasts, .int mruns, .ref mtexta, .int mtyped, .ref mchosena, .ref mtimesa, .ref mrestsa, .ref mbeforea, .int mspot, .int mfrom, .int mreason, .int mcause, .int morders, .int mkind, .ref mtolda])), (msa, .inl (cI, 580, .inl f1)), (mpasta, .inl (cI, 2320, .inl mpast)), (mhelda, .inl (cI, 580, .inl mheld)), (mtexta, .inl (cI, 60, .inl mtext)), (mchosena, .inl (cI, 12, .inl mchosen)), (mtimesa, .inl (cI, 12, .inl mtimes)), (mrestsa, .inl (cJ, 12, .inr (.inl mrests))), (mbeforea, .inl (cI, 12, .inl mbefore)), (mtolda, .inl (cI, 2, .inl mtold))] := hD
  refine lv_aload_n (pc := 21) hx hb dX7_takes_21 rfl (lv_at hl 0 rfl) ?_
  refine va_get (pc := 22) (D := D) (ci := 7) (v := .ref msa) (C := RX7) (T := TX7) (N := 18) hx hb hts hnX7 hown hK.1 hP 0 rfl rfl 0 (Nat.le_of_ble_eq_true rfl) hk121 (fun _ h9 => h9) rfl dX7_takes_22 ?_
  refine lv_iconst (v := 2) (pc := 25) hx hb dX7_takes_25 (by decide) ?_
  refine va_iald (pc := 26) hx hb hK.1 hP 1 0 rfl rfl (vp_in_nI (n := 2) (N := 580) (by decide) (by decide)) dX7_takes_26 ?_
  obtain ⟨e1, e2⟩ := am_ret2 h
  exact hret _ _ _ _ _ dX7_takes_27 rfl e1 (by rw [← e2]; exact hP) hS
theorem hdX7_divisor : yX7_divisor.cls ≠ "java/lang/invoke/MethodHandle" ∧ yX7_divisor.cls ≠ "java/lang/invoke/VarHandle" ∧ (parseMethodDescriptor yX7_divisor.desc).map (fun d => d.parameters.length) = some 2 := by decide +kernel
abbrev rmX7_divisor : Room := { frames := 0, cells := 0, slots := 0, locals := 0 }
set_option maxHeartbeats 20000000 in
set_option maxRecDepth 100000 in
theorem c_X7_divisor (l : Launch) (D : va_G) (cI cJ : ClassId)   (p0 : Int32) (p1 : Int32) (r0 : Int32) (hF : F_X7_divisor p0 p1 = some r0) : Met l yX7_divisor (wz yX7_divisor cX7_divisor 5 (some .int)) rmX7_divisor (kPc D cI cJ [] [.int p0, .int p1]) (vp_Si (fun r => r = r0)) 0 0 (fun _ => False) := by
  refine kM_ri cX7_divisor 5 .int (by decide +kernel) rfl rfl (Nat.le_of_ble_eq_true rfl) ⟨rfl, rfl⟩ ?_
  intro p e s m args below meth c Q ls hx hb hml hown hts hP hK hl hret
  replace hl : lv_has ls 5 [(0, .int p0), (1, .int p1)] := hl
  have h := hF
  unfold F_X7_divisor at h
  refine lv_iload_n (pc := 0) hx hb dX7_divisor_0 rfl (lv_at hl 0 rfl) ?_
  refine lv_istore_n (lv' := [(2, .int p0), (0, .int p0), (1, .int p1)]) (pc := 1) hx hb dX7_divisor_1 rfl hl (by decide) rfl (fun ls hl => ?_)
  refine lv_iload_n (pc := 2) hx hb dX7_divisor_2 rfl (lv_at hl 2 rfl) ?_
  refine lv_istore_n (lv' := [(3, .int p1), (2, .int p0), (0, .int p0), (1, .int p1)]) (pc := 3) hx hb dX7_divisor_3 rfl hl (by decide) rfl (fun ls hl => ?_)
  refine am_join1_s (fun (x1 : Int32) => ∀ (ls : Array Slot), lv_has ls 5 [(2, .int x1)] → W p l e rmX7_divisor s m args below meth c s.heap [] 0 0 Q (F0 m 21 ls [])) h (fun x1 h ls hl => ?_) (fun K2 hK2 h => ?_)
  · refine lv_iload_n (pc := 21) hx hb dX7_divisor_21 rfl (lv_at hl 0 rfl) ?_
    obtain e1 := am_ret1 h
    exact hret _ _ _ dX7_divisor_22 rfl e1
  refine am_loop2_s (fun (x3 : Int32) (x4 : Int32) => ∀ (ls : Array Slot), lv_has ls 5 [(2, .int x3), (3, .int x4)] → W p l e rmX7_divisor s m args below meth c s.heap [] 0 0 Q (F0 m 4 ls [])) (fun rec5 ihrec5 x3 x4 h ls hl => ?_) _ _ _ h ls (lv_sub hl [1, 0] rfl)
  unfold F_X7_divisor_B4 at h
  refine lv_iload_n (pc := 4) hx hb dX7_divisor_4 rfl (lv_at hl 1 rfl) ?_
  refine lv_if_eq (pc := 5) (tgt := 21) hx hb dX7_divisor_5 (by decide) (fun cc => ?_) (fun cc => ?_)
  · replace h := am_t cc h
    exact hK2 _ h ls (lv_sub hl [0] rfl)
  replace h := am_f cc h
  refine lv_iload_n (pc := 8) hx hb dX7_divisor_8 rfl (lv_at hl 0 rfl) ?_
  refine lv_iload_n (pc := 9) hx hb dX7_divisor_9 rfl (lv_at hl 1 rfl) ?_
  obtain ⟨hz, h⟩ := am_nz_s h
  refine lv_irem (pc := 10) hx hb dX7_divisor_10 hz ?_
  refine lv_topi (fun x6 ex6 => ?_)
  replace h := am_let_s ex6 h
  refine lv_istore (lv' := [(4, .int x6), (2, .int x3), (3, .int x4)]) (pc := 11) hx hb dX7_divisor_11 hl (by decide) rfl (fun ls hl => ?_)
  refine lv_iload_n (pc := 13) hx hb dX7_divisor_13 rfl (lv_at hl 2 rfl) ?_
  refine lv_istore_n (lv' := [(2, .int x4), (4, .int x6), (3, .int x4)]) (pc := 14) hx hb dX7_divisor_14 rfl hl (by decide) rfl (fun ls hl => ?_)
  refine lv_iload (pc := 15) hx hb dX7_divisor_15 (lv_at hl 1 rfl) ?_
  refine lv_istore_n (lv' := [(3, .int x6), (2, .int x4), (4, .int x6)]) (pc := 17) hx hb dX7_divisor_17 rfl hl (by decide) rfl (fun ls hl => ?_)
  refine lv_goto (pc := 18) (tgt := 4) hx hb dX7_divisor_18 (by decide) ?_
  exact ihrec5 _ _ h ls (lv_sub hl [1, 0] rfl)
theorem hdX7_sum : yX7_sum.cls ≠ "java/lang/invoke/MethodHandle" ∧ yX7_sum.cls ≠ "java/lang/invoke/VarHandle" ∧ (parseMethodDescriptor yX7_sum.desc).map (fun d => d.parameters.length) = some 0 := by decide +kernel
abbrev rmX7_sum : Room := { frames := 0, cells := 0, slots := 0, locals := 0 }
set_option maxHeartbeats 20000000 in
set_option maxRecDepth 100000 in
theorem c_X7_sum (l : Launch) (D : va_G) (cI cJ : ClassId) (mself : Nat) (msa : Nat) (mpasta : Nat) (mhelda : Nat) (mtexta : Nat) (mchosena : Nat) (mtimesa : Nat) (mrestsa : Nat) (mbeforea : Nat) (mtolda : Nat) (mpasts : Int32) (mruns : Int32) (mtyped : Int32) (mspot : Int32) (mfrom : Int32) (mreason : Int32) (mcause : Int32) (morders : Int32) (mkind : Int32) (ms : Nat → Int32) (mpast : Nat → Int32) (mheld : Nat → Int32) (mtext : Nat → Int32) (mchosen : Nat → Int32) (mtimes : Nat → Int32) (mrests : Nat → Int64) (mbefore : Nat → Int32) (mtold : Nat → Int32)  (r0 : Int32) (hF : F_X7_sum ms = some r0) : Met l yX7_sum (wz yX7_sum cX7_sum 3 (some .int)) rmX7_sum (kPc D cI cJ [(mself, .inr (7, [.ref msa, .ref mpasta, .ref mhelda, .int mpasts, .int mruns, .ref mtexta, .int mtyped, .ref mchosena, .ref mtimesa, .ref mrestsa, .ref mbeforea, .int mspot, .int mfrom, .int mreason, .int mcause, .int morders, .int mkind, .ref mtolda])), (msa, .inl (cI, 580, .inl ms)), (mpasta, .inl (cI, 2320, .inl mpast)), (mhelda, .inl (cI, 580, .inl mheld)), (mtexta, .inl (cI, 60, .inl mtext)), (mchosena, .inl (cI, 12, .inl mchosen)), (mtimesa, .inl (cI, 12, .inl mtimes)), (mrestsa, .inl (cJ, 12, .inr (.inl mrests))), (mbeforea, .inl (cI, 12, .inl mbefore)), (mtolda, .inl (cI, 2, .inl mtold))] [.ref mself]) (vp_Si (fun r => r = r0)) 0 0 (fun _ => False) := by
  refine kM_ri cX7_sum 3 .int (by decide +kernel) rfl rfl (Nat.le_of_ble_eq_true rfl) ⟨rfl, rfl⟩ ?_
  intro p e s m args below meth c Q ls hx hb hml hown hts hP hK hl hret
  have hk121 := hts _ (List.mem_cons_of_mem _ wl121)
  have hnX7 : ∀ w ∈ u_ws RX7 TX7 18, w ∈ wz yX7_sum cX7_sum 3 (some .int) := fun w h => List.mem_cons_of_mem _ (inlX7 w h)
  replace hl : lv_has ls 3 [(0, .ref mself)] := hl
  have h := hF
  unfold F_X7_sum at h
  refine lv_iconst (v := 0) (pc := 0) hx hb dX7_sum_0 (by decide) ?_
  refine lv_istore_n (lv' := [(1, .int (0 : Int32)), (0, .ref mself)]) (pc := 1) hx hb dX7_sum_1 rfl hl (by decide) rfl (fun ls hl => ?_)
  refine lv_iconst (v := 0) (pc := 2) hx hb dX7_sum_2 (by decide) ?_
  refine lv_istore_n (lv' := [(2, .int (0 : Int32)), (1, .int (0 : Int32)), (0, .ref mself)]) (pc := 3) hx hb dX7_sum_3 rfl hl (by decide) rfl (fun ls hl => ?_)
  refine am_join1_s (fun (x1 : Int32) => ∀ (ls : Array Slot), lv_has ls 3 [(1, .int x1)] → W p l e rmX7_sum s m args below meth c s.heap [] 0 0 Q (F0 m 32 ls [])) h (fun x1 h ls hl => ?_) (fun K2 hK2 h => ?_)
  · refine lv_iload_n (pc := 32) hx hb dX7_sum_32 rfl (lv_at hl 0 rfl) ?_
    obtain e1 := am_ret1 h
    exact hret _ _ _ dX7_sum_33 rfl e1
  refine am_loop2_s (fun (x3 : Int32) (x4 : Int32) => ∀ (ls : Array Slot), lv_has ls 3 [(0, .ref mself), (1, .int x3), (2, .int x4)] → W p l e rmX7_sum s m args below meth c s.heap [] 0 0 Q (F0 m 4 ls [])) (fun rec5 ihrec5 x3 x4 h ls hl => ?_) _ _ _ h ls (lv_sub hl [2, 1, 0] rfl)
  unfold F_X7_sum_B4 at h
  refine lv_iload_n (pc := 4) hx hb dX7_sum_4 rfl (lv_at hl 2 rfl) ?_
  refine lv_aload_n (pc := 5) hx hb dX7_sum_5 rfl (lv_at hl 0 rfl) ?_
  refine va_get (pc := 6) (D := D) (ci := 7) (v := .ref msa) (C := RX7) (T := TX7) (N := 18) hx hb hts hnX7 hown hK.1 hP 0 rfl rfl 0 (Nat.le_of_ble_eq_true rfl) hk121 (fun _ h9 => h9) rfl dX7_sum_6 ?_
  refine lv_iconst (v := 0) (pc := 9) hx hb dX7_sum_9 (by decide) ?_
  refine va_iald (pc := 10) hx hb hK.1 hP 1 0 rfl rfl (vp_in_nI (n := 0) (N := 580) (by decide) (by decide)) dX7_sum_10 ?_
  refine lv_icmp_ge (pc := 11) (tgt := 32) hx hb dX7_sum_11 (by decide) (fun cc => ?_) (fun cc => ?_)
  · replace h := am_t cc h
    exact hK2 _ h ls (lv_sub hl [1] rfl)
  replace h := am_f cc h
  refine lv_iload_n (pc := 14) hx hb dX7_sum_14 rfl (lv_at hl 1 rfl) ?_
  refine lv_aload_n (pc := 15) hx hb dX7_sum_15 rfl (lv_at hl 0 rfl) ?_
  refine va_get (pc := 16) (D := D) (ci := 7) (v := .ref msa) (C := RX7) (T := TX7) (N := 18) hx hb hts hnX7 hown hK.1 hP 0 rfl rfl 0 (Nat.le_of_ble_eq_true rfl) hk121 (fun _ h9 => h9) rfl dX7_sum_16 ?_
  refine lv_bipush (v := 8) (pc := 19) hx hb dX7_sum_19 (by decide) ?_
  refine lv_iload_n (pc := 21) hx hb dX7_sum_21 rfl (lv_at hl 2 rfl) ?_
  refine lv_iadd (pc := 22) hx hb dX7_sum_22 ?_
  obtain ⟨hi, h⟩ := am_in_s h
  refine va_iald (pc := 23) hx hb hK.1 hP 1 0 rfl rfl hi dX7_sum_23 ?_
  refine lv_iadd (pc := 24) hx hb dX7_sum_24 ?_
  refine lv_topi (fun x6 ex6 => ?_)
  replace h := am_let_s ex6 h
  refine lv_istore_n (lv' := [(1, .int x6), (0, .ref mself), (2, .int x4)]) (pc := 25) hx hb dX7_sum_25 rfl hl (by decide) rfl (fun ls hl => ?_)
  obtain ⟨x7, ex7⟩ : ∃ y : Int32, y = (x4 + (1 : Int32)) := ⟨_, rfl⟩
  replace h := am_let_s ex7 h
  refine lv_iinc (pc := 26) (v := x7) (lv' := [(2, .int x7), (1, .int x6), (0, .ref mself)]) hx hb dX7_sum_26 hl (k := 2) rfl (by rw [ex7]; rfl) (by decide) rfl (fun ls hl => ?_)
  refine lv_goto (pc := 29) (tgt := 4) hx hb dX7_sum_29 (by decide) ?_
  exact ihrec5 _ _ h ls (lv_sub hl [2, 1, 0] rfl)
theorem hdX7_effective : yX7_effective.cls ≠ "java/lang/invoke/MethodHandle" ∧ yX7_effective.cls ≠ "java/lang/invoke/VarHandle" ∧ (parseMethodDescriptor yX7_effective.desc).map (fun d => d.parameters.length) = some 0 := by decide +kernel
abbrev rmX7_effective : Room := { frames := 1, cells := 0, slots := 0, locals := 22 }
set_option maxHeartbeats 20000000 in
set_option maxRecDepth 100000 in
theorem c_X7_effective (l : Launch) (D : va_G) (cI cJ : ClassId) (mself : Nat) (msa : Nat) (mpasta : Nat) (mhelda : Nat) (mtexta : Nat) (mchosena : Nat) (mtimesa : Nat) (mrestsa : Nat) (mbeforea : Nat) (mtolda : Nat) (mpasts : Int32) (mruns : Int32) (mtyped : Int32) (mspot : Int32) (mfrom : Int32) (mreason : Int32) (mcause : Int32) (morders : Int32) (mkind : Int32) (ms : Nat → Int32) (mpast : Nat → Int32) (mheld : Nat → Int32) (mtext : Nat → Int32) (mchosen : Nat → Int32) (mtimes : Nat → Int32) (mrests : Nat → Int64) (mbefore : Nat → Int32) (mtold : Nat → Int32)  (r0 : Int32) (hF : F_X7_effective ms = some r0) : Met l yX7_effective (wz yX7_effective cX7_effective 6 (some .int)) rmX7_effective (kPc D cI cJ [(mself, .inr (7, [.ref msa, .ref mpasta, .ref mhelda, .int mpasts, .int mruns, .ref mtexta, .int mtyped, .ref mchosena, .ref mtimesa, .ref mrestsa, .ref mbeforea, .int mspot, .int mfrom, .int mreason, .int mcause, .int morders, .int mkind, .ref mtolda])), (msa, .inl (cI, 580, .inl ms)), (mpasta, .inl (cI, 2320, .inl mpast)), (mhelda, .inl (cI, 580, .inl mheld)), (mtexta, .inl (cI, 60, .inl mtext)), (mchosena, .inl (cI, 12, .inl mchosen)), (mtimesa, .inl (cI, 12, .inl mtimes)), (mrestsa, .inl (cJ, 12, .inr (.inl mrests))), (mbeforea, .inl (cI, 12, .inl mbefore)), (mtolda, .inl (cI, 2, .inl mtold))] [.ref mself]) (vp_Si (fun r => r = r0)) 0 0 (fun _ => False) := by
  refine kM_ri cX7_effective 6 .int (by decide +kernel) rfl rfl (Nat.le_of_ble_eq_true rfl) ⟨rfl, rfl⟩ ?_
  intro p e s m args below meth c Q ls hx hb hml hown hts hP hK hl hret
  have hk121 := hts _ (List.mem_cons_of_mem _ wl121)
  have hnX7 : ∀ w ∈ u_ws RX7 TX7 18, w ∈ wz yX7_effective cX7_effective 6 (some .int) := fun w h => List.mem_cons_of_mem _ (inlX7 w h)
  replace hl : lv_has ls 6 [(0, .ref mself)] := hl
  have h := hF
  unfold F_X7_effective at h
  refine lv_lconst (v := 0) (pc := 0) hx hb dX7_effective_0 rfl ?_
  refine lv_lstore_n (lv' := [(1, .long (0 : Int64)), (0, .ref mself)]) (pc := 1) hx hb dX7_effective_1 rfl hl (by decide) rfl (fun ls hl => ?_)
  refine lv_aload_n (pc := 2) hx hb dX7_effective_2 rfl (lv_at hl 1 rfl) ?_
  obtain ⟨r1, hc1, h⟩ := am_bind_s h
  refine kc_Vi (pc := 3) (ci := 7) ⟨hx, hb, hml, hown, hts⟩ hP hK [] (c_X7_sum l D cI cJ mself msa mpasta mhelda mtexta mchosena mtimesa mrestsa mbeforea mtolda mpasts mruns mtyped mspot mfrom mreason mcause morders mkind ms mpast mheld mtext mchosen mtimes mrests mbefore mtold r1 hc1) [0, 1, 2, 3, 4, 5, 6, 7, 8, 9] rfl (cwV 0 hts (gzV wl227 wl228 wl229 wl5 wl230) rfl rfl rfl ⟨rfl, hdX7_sum⟩ ⟨Nat.le_of_ble_eq_true rfl, Nat.le_of_ble_eq_true rfl⟩) rfl rfl [] rfl hl.1 rfl (Nat.le_of_ble_eq_true rfl) dX7_effective_3 ⟨Nat.zero_le _, Nat.zero_le _⟩ ?_
  refine lv_i2l (pc := 6) hx hb dX7_effective_6 rfl ?_
  refine lv_topl (fun x2 ex2 => ?_)
  replace h := am_let_s ex2 h
  refine lv_lstore_n (lv' := [(3, .long x2), (1, .long (0 : Int64)), (0, .ref mself)]) (pc := 7) hx hb dX7_effective_7 rfl hl (by decide) rfl (fun ls hl => ?_)
  refine lv_iconst (v := 0) (pc := 8) hx hb dX7_effective_8 (by decide) ?_
  refine lv_istore (lv' := [(5, .int (0 : Int32)), (3, .long x2), (1, .long (0 : Int64)), (0, .ref mself)]) (pc := 9) hx hb dX7_effective_9 hl (by decide) rfl (fun ls hl => ?_)
  refine am_join1_s (fun (x3 : Int64) => ∀ (ls : Array Slot), lv_has ls 6 [(1, .long x3), (3, .long x2)] → W p l e rmX7_effective s m args below meth c s.heap [] 0 0 Q (F0 m 54 ls [])) h (fun x3 h ls hl => ?_) (fun K4 hK4 h => ?_)
  · refine lv_lload_n (pc := 54) hx hb dX7_effective_54 rfl (lv_at hl 1 rfl) ?_
    refine lv_lload_n (pc := 55) hx hb dX7_effective_55 rfl (lv_at hl 1 rfl) ?_
    refine lv_lmul (pc := 56) hx hb dX7_effective_56 ?_
    refine lv_lload_n (pc := 57) hx hb dX7_effective_57 rfl (lv_at hl 0 rfl) ?_
    obtain ⟨hz, h⟩ := am_nzl_s h
    refine lv_ldiv (pc := 58) hx hb dX7_effective_58 hz ?_
    refine lv_l2i (pc := 59) hx hb dX7_effective_59 rfl ?_
    obtain e1 := am_ret1 h
    exact hret _ _ _ dX7_effective_60 rfl e1
  refine am_loop2_s (fun (x5 : Int64) (x6 : Int32) => ∀ (ls : Array Slot), lv_has ls 6 [(0, .ref mself), (1, .long x5), (3, .long x2), (5, .int x6)] → W p l e rmX7_effective s m args below meth c s.heap [] 0 0 Q (F0 m 11 ls [])) (fun rec7 ihrec7 x5 x6 h ls hl => ?_) _ _ _ h ls (lv_sub hl [3, 2, 1, 0] rfl)
  unfold F_X7_effective_B11 at h
  refine lv_iload (pc := 11) hx hb dX7_effective_11 (lv_at hl 3 rfl) ?_
  refine lv_aload_n (pc := 13) hx hb dX7_effective_13 rfl (lv_at hl 0 rfl) ?_
  refine va_get (pc := 14) (D := D) (ci := 7) (v := .ref msa) (C := RX7) (T := TX7) (N := 18) hx hb hts hnX7 hown hK.1 hP 0 rfl rfl 0 (Nat.le_of_ble_eq_true rfl) hk121 (fun _ h9 => h9) rfl dX7_effective_14 ?_
  refine lv_iconst (v := 0) (pc := 17) hx hb dX7_effective_17 (by decide) ?_
  refine va_iald (pc := 18) hx hb hK.1 hP 1 0 rfl rfl (vp_in_nI (n := 0) (N := 580) (by decide) (by decide)) dX7_effective_18 ?_
  refine lv_icmp_ge (pc := 19) (tgt := 54) hx hb dX7_effective_19 (by decide) (fun cc => ?_) (fun cc => ?_)
  · replace h := am_t cc h
    exact hK4 _ h ls (lv_sub hl [1, 2] rfl)
  replace h := am_f cc h
  refine lv_lload_n (pc := 22) hx hb dX7_effective_22 rfl (lv_at hl 1 rfl) ?_
  refine lv_aload_n (pc := 23) hx hb dX7_effective_23 rfl (lv_at hl 0 rfl) ?_
  refine va_get (pc := 24) (D := D) (ci := 7) (v := .ref msa) (C := RX7) (T := TX7) (N := 18) hx hb hts hnX7 hown hK.1 hP 0 rfl rfl 0 (Nat.le_of_ble_eq_true rfl) hk121 (fun _ h9 => h9) rfl dX7_effective_24 ?_
  refine lv_bipush (v := 8) (pc := 27) hx hb dX7_effective_27 (by decide) ?_
  refine lv_iload (pc := 29) hx hb dX7_effective_29 (lv_at hl 3 rfl) ?_
  refine lv_iadd (pc := 31) hx hb dX7_effective_31 ?_
  obtain ⟨hi, h⟩ := am_in_s h
  refine va_iald (pc := 32) hx hb hK.1 hP 1 0 rfl rfl hi dX7_effective_32 ?_
  refine lv_i2l (pc := 33) hx hb dX7_effective_33 rfl ?_
  refine lv_aload_n (pc := 34) hx hb dX7_effective_34 rfl (lv_at hl 0 rfl) ?_
  refine va_get (pc := 35) (D := D) (ci := 7) (v := .ref msa) (C := RX7) (T := TX7) (N := 18) hx hb hts hnX7 hown hK.1 hP 0 rfl rfl 0 (Nat.le_of_ble_eq_true rfl) hk121 (fun _ h9 => h9) rfl dX7_effective_35 ?_
  refine lv_bipush (v := 8) (pc := 38) hx hb dX7_effective_38 (by decide) ?_
  refine lv_iload (pc := 40) hx hb dX7_effective_40 (lv_at hl 3 rfl) ?_
  refine lv_iadd (pc := 42) hx hb dX7_effective_42 ?_
  obtain ⟨hi, h⟩ := am_in_s h
  refine va_iald (pc := 43) hx hb hK.1 hP 1 0 rfl rfl hi dX7_effective_43 ?_
  refine lv_i2l (pc := 44) hx hb dX7_effective_44 rfl ?_
  refine lv_lmul (pc := 45) hx hb dX7_effective_45 ?_
  refine lv_ladd (pc := 46) hx hb dX7_effective_46 ?_
  refine lv_topl (fun x8 ex8 => ?_)
  replace h := am_let_s ex8 h
  refine lv_lstore_n (lv' := [(1, .long x8), (0, .ref mself), (3, .long x2), (5, .int x6)]) (pc := 47) hx hb dX7_effective_47 rfl hl (by decide) rfl (fun ls hl => ?_)
  obtain ⟨x9, ex9⟩ : ∃ y : Int32, y = (x6 + (1 : Int32)) := ⟨_, rfl⟩
  replace h := am_let_s ex9 h
  refine lv_iinc (pc := 48) (v := x9) (lv' := [(5, .int x9), (1, .long x8), (0, .ref mself), (3, .long x2)]) hx hb dX7_effective_48 hl (k := 3) rfl (by rw [ex9]; rfl) (by decide) rfl (fun ls hl => ?_)
  refine lv_goto (pc := 51) (tgt := 11) hx hb dX7_effective_51 (by decide) ?_
  exact ihrec7 _ _ h ls (lv_sub hl [2, 1, 3, 0] rfl)
theorem hdX7_divides : yX7_divides.cls ≠ "java/lang/invoke/MethodHandle" ∧ yX7_divides.cls ≠ "java/lang/invoke/VarHandle" ∧ (parseMethodDescriptor yX7_divides.desc).map (fun d => d.parameters.length) = some 0 := by decide +kernel
abbrev rmX7_divides : Room := { frames := 1, cells := 0, slots := 0, locals := 24 }
set_option maxHeartbeats 20000000 in
set_option maxRecDepth 100000 in
theorem c_X7_divides (l : Launch) (D : va_G) (cI cJ : ClassId) (mself : Nat) (msa : Nat) (mpasta : Nat) (mhelda : Nat) (mtexta : Nat) (mchosena : Nat) (mtimesa : Nat) (mrestsa : Nat) (mbeforea : Nat) (mtolda : Nat) (mpasts : Int32) (mruns : Int32) (mtyped : Int32) (mspot : Int32) (mfrom : Int32) (mreason : Int32) (mcause : Int32) (morders : Int32) (mkind : Int32) (ms : Nat → Int32) (mpast : Nat → Int32) (mheld : Nat → Int32) (mtext : Nat → Int32) (mchosen : Nat → Int32) (mtimes : Nat → Int32) (mrests : Nat → Int64) (mbefore : Nat → Int32) (mtold : Nat → Int32)  (r0 : Int32) (zms : Nat → Int32) (hF : F_X7_divides ms = some (r0, zms)) (sz : Nat) : Met l yX7_divides (wz yX7_divides cX7_divides 4 (some .int)) rmX7_divides (kPw D cI cJ [(mself, .inr (7, [.ref msa, .ref mpasta, .ref mhelda, .int mpasts, .int mruns, .ref mtexta, .int mtyped, .ref mchosena, .ref mtimesa, .ref mrestsa, .ref mbeforea, .int mspot, .int mfrom, .int mreason, .int mcause, .int morders, .int mkind, .ref mtolda])), (msa, .inl (cI, 580, .inl ms)), (mpasta, .inl (cI, 2320, .inl mpast)), (mhelda, .inl (cI, 580, .inl mheld)), (mtexta, .inl (cI, 60, .inl mtext)), (mchosena, .inl (cI, 12, .inl mchosen)), (mtimesa, .inl (cI, 12, .inl mtimes)), (mrestsa, .inl (cJ, 12, .inr (.inl mrests))), (mbeforea, .inl (cI, 12, .inl mbefore)), (mtolda, .inl (cI, 2, .inl mtold))] sz [.ref mself]) (kQi D r0 [(mself, .inr (7, [.ref msa, .ref mpasta, .ref mhelda, .int mpasts, .int mruns, .ref mtexta, .int mtyped, .ref mchosena, .ref mtimesa, .ref mrestsa, .ref mbeforea, .int mspot, .int mfrom, .int mreason, .int mcause, .int morders, .int mkind, .ref mtolda])), (msa, .inl (cI, 580, .inl zms)), (mpasta, .inl (cI, 2320, .inl mpast)), (mhelda, .inl (cI, 580, .inl mheld)), (mtexta, .inl (cI, 60, .inl mtext)), (mchosena, .inl (cI, 12, .inl mchosen)), (mtimesa, .inl (cI, 12, .inl mtimes)), (mrestsa, .inl (cJ, 12, .inr (.inl mrests))), (mbeforea, .inl (cI, 12, .inl mbefore)), (mtolda, .inl (cI, 2, .inl mtold))] (va_A [(mself, .inr (7, [.ref msa, .ref mpasta, .ref mhelda, .int mpasts, .int mruns, .ref mtexta, .int mtyped, .ref mchosena, .ref mtimesa, .ref mrestsa, .ref mbeforea, .int mspot, .int mfrom, .int mreason, .int mcause, .int morders, .int mkind, .ref mtolda])), (msa, .inl (cI, 580, .inl ms)), (mpasta, .inl (cI, 2320, .inl mpast)), (mhelda, .inl (cI, 580, .inl mheld)), (mtexta, .inl (cI, 60, .inl mtext)), (mchosena, .inl (cI, 12, .inl mchosen)), (mtimesa, .inl (cI, 12, .inl mtimes)), (mrestsa, .inl (cJ, 12, .inr (.inl mrests))), (mbeforea, .inl (cI, 12, .inl mbefore)), (mtolda, .inl (cI, 2, .inl mtold))] sz)) 0 0 (va_A [(mself, .inr (7, [.ref msa, .ref mpasta, .ref mhelda, .int mpasts, .int mruns, .ref mtexta, .int mtyped, .ref mchosena, .ref mtimesa, .ref mrestsa, .ref mbeforea, .int mspot, .int mfrom, .int mreason, .int mcause, .int morders, .int mkind, .ref mtolda])), (msa, .inl (cI, 580, .inl ms)), (mpasta, .inl (cI, 2320, .inl mpast)), (mhelda, .inl (cI, 580, .inl mheld)), (mtexta, .inl (cI, 60, .inl mtext)), (mchosena, .inl (cI, 12, .inl mchosen)), (mtimesa, .inl (cI, 12, .inl mtimes)), (mrestsa, .inl (cJ, 12, .inr (.inl mrests))), (mbeforea, .inl (cI, 12, .inl mbefore)), (mtolda, .inl (cI, 2, .inl mtold))] sz) := by
  refine kM_wi cX7_divides 4 .int (by decide +kernel) rfl rfl (Nat.le_of_ble_eq_true rfl) ⟨rfl, rfl⟩ ?_
  intro p e s m args below meth c Q A ls hx hb hml hown hts hP hK hD hA hS hl hret
  have hk121 := hts _ (List.mem_cons_of_mem _ wl121)
  have hnX7 : ∀ w ∈ u_ws RX7 TX7 18, w ∈ wz yX7_divides cX7_divides 4 (some .int) := fun w h => List.mem_cons_of_mem _ (inlX7 w h)
  replace hl : lv_has ls 4 [(0, .ref mself)] := hl
  have h := hF
  unfold F_X7_divides at h
  refine lv_iconst (v := 0) (pc := 0) hx hb dX7_divides_0 (by decide) ?_
  refine lv_istore_n (lv' := [(1, .int (0 : Int32)), (0, .ref mself)]) (pc := 1) hx hb dX7_divides_1 rfl hl (by decide) rfl (fun ls hl => ?_)
  refine lv_iconst (v := 0) (pc := 2) hx hb dX7_divides_2 (by decide) ?_
  refine lv_istore_n (lv' := [(2, .int (0 : Int32)), (1, .int (0 : Int32)), (0, .ref mself)]) (pc := 3) hx hb dX7_divides_3 rfl hl (by decide) rfl (fun ls hl => ?_)
  refine lv_iconst (v := 0) (pc := 4) hx hb dX7_divides_4 (by decide) ?_
  refine lv_istore_n (lv' := [(3, .int (0 : Int32)), (2, .int (0 : Int32)), (1, .int (0 : Int32)), (0, .ref mself)]) (pc := 5) hx hb dX7_divides_5 rfl hl (by decide) rfl (fun ls hl => ?_)
  refine am_join1_s (fun (x1 : Int32) => ∀ (ls : Array Slot), lv_has ls 4 [(0, .ref mself), (1, .int x1), (2, .int (0 : Int32))] → W p l e rmX7_divides s m args below meth c s.heap [] 0 0 Q (F0 m 36 ls [])) h (fun x1 h ls hl => ?_) (fun K2 hK2 h => ?_)
  · refine lv_iconst (v := 0) (pc := 36) hx hb dX7_divides_36 (by decide) ?_
    refine lv_istore_n (lv' := [(3, .int (0 : Int32)), (0, .ref mself), (1, .int x1), (2, .int (0 : Int32))]) (pc := 37) hx hb dX7_divides_37 rfl hl (by decide) rfl (fun ls hl => ?_)
    refine am_join2_s (fun (x3 : Int32) (f4 : Nat → Int32) => ∀ (ls : Array Slot), lv_has ls 4 [(2, .int x3)] → ∀ (H : Heap) (locs : List Loc), va_P D vwCl [(mself, .inr (7, [.ref msa, .ref mpasta, .ref mhelda, .int mpasts, .int mruns, .ref mtexta, .int mtyped, .ref mchosena, .ref mtimesa, .ref mrestsa, .ref mbeforea, .int mspot, .int mfrom, .int mreason, .int mcause, .int morders, .int mkind, .ref mtolda])), (msa, .inl (cI, 580, .inl f4)), (mpasta, .inl (cI, 2320, .inl mpast)), (mhelda, .inl (cI, 580, .inl mheld)), (mtexta, .inl (cI, 60, .inl mtext)), (mchosena, .inl (cI, 12, .inl mchosen)), (mtimesa, .inl (cI, 12, .inl mtimes)), (mrestsa, .inl (cJ, 12, .inr (.inl mrests))), (mbeforea, .inl (cI, 12, .inl mbefore)), (mtolda, .inl (cI, 2, .inl mtold))] H → va_D A [(mself, .inr (7, [.ref msa, .ref mpasta, .ref mhelda, .int mpasts, .int mruns, .ref mtexta, .int mtyped, .ref mchosena, .ref mtimesa, .ref mrestsa, .ref mbeforea, .int mspot, .int mfrom, .int mreason, .int mcause, .int morders, .int mkind, .ref mtolda])), (msa, .inl (cI, 580, .inl f4)), (mpasta, .inl (cI, 2320, .inl mpast)), (mhelda, .inl (cI, 580, .inl mheld)), (mtexta, .inl (cI, 60, .inl mtext)), (mchosena, .inl (cI, 12, .inl mchosen)), (mtimesa, .inl (cI, 12, .inl mtimes)), (mrestsa, .inl (cJ, 12, .inr (.inl mrests))), (mbeforea, .inl (cI, 12, .inl mbefore)), (mtolda, .inl (cI, 2, .inl mtold))] → va_S A s.heap H locs → W p l e rmX7_divides s m args below meth c H locs 0 0 Q (F0 m 98 ls [])) h (fun x3 f4 h ls hl H locs hP hD hS => ?_) (fun K5 hK5 h => ?_)
    · refine lv_iload_n (pc := 98) hx hb dX7_divides_98 rfl (lv_at hl 0 rfl) ?_
      obtain ⟨e1, e2⟩ := am_ret2 h
      exact hret _ _ _ _ _ dX7_divides_99 rfl e1 (by rw [← e2]; exact hP) hS
    refine am_loop3_s (fun (x6 : Int32) (x7 : Int32) (f8 : Nat → Int32) => ∀ (ls : Array Slot), lv_has ls 4 [(0, .ref mself), (1, .int x1), (2, .int x6), (3, .int x7)] → ∀ (H : Heap) (locs : List Loc), va_P D vwCl [(mself, .inr (7, [.ref msa, .ref mpasta, .ref mhelda, .int mpasts, .int mruns, .ref mtexta, .int mtyped, .ref mchosena, .ref mtimesa, .ref mrestsa, .ref mbeforea, .int mspot, .int mfrom, .int mreason, .int mcause, .int morders, .int mkind, .ref mtolda])), (msa, .inl (cI, 580, .inl f8)), (mpasta, .inl (cI, 2320, .inl mpast)), (mhelda, .inl (cI, 580, .inl mheld)), (mtexta, .inl (cI, 60, .inl mtext)), (mchosena, .inl (cI, 12, .inl mchosen)), (mtimesa, .inl (cI, 12, .inl mtimes)), (mrestsa, .inl (cJ, 12, .inr (.inl mrests))), (mbeforea, .inl (cI, 12, .inl mbefore)), (mtolda, .inl (cI, 2, .inl mtold))] H → va_D A [(mself, .inr (7, [.ref msa, .ref mpasta, .ref mhelda, .int mpasts, .int mruns, .ref mtexta, .int mtyped, .ref mchosena, .ref mtimesa, .ref mrestsa, .ref mbeforea, .int mspot, .int mfrom, .int mreason, .int mcause, .int morders, .int mkind, .ref mtolda])), (msa, .inl (cI, 580, .inl f8)), (mpasta, .inl (cI, 2320, .inl mpast)), (mhelda, .inl (cI, 580, .inl mheld)), (mtexta, .inl (cI, 60, .inl mtext)), (mchosena, .inl (cI, 12, .inl mchosen)), (mtimesa, .inl (cI, 12, .inl mtimes)), (mrestsa, .inl (cJ, 12, .inr (.inl mrests))), (mbeforea, .inl (cI, 12, .inl mbefore)), (mtolda, .inl (cI, 2, .inl mtold))] → va_S A s.heap H locs → W p l e rmX7_divides s m args below meth c H locs 0 0 Q (F0 m 38 ls [])) (fun rec9 ihrec9 x6 x7 f8 h ls hl H locs hP hD hS => ?_) _ _ _ _ h ls (lv_sub hl [1, 2, 3, 0] rfl) s.heap [] hP hD hS
    unfold F_X7_divides_B38 at h
    refine lv_iload_n (pc := 38) hx hb dX7_divides_38 rfl (lv_at hl 3 rfl) ?_
    refine lv_aload_n (pc := 39) hx hb dX7_divides_39 rfl (lv_at hl 0 rfl) ?_
    refine va_get (pc := 40) (D := D) (ci := 7) (v := .ref msa) (C := RX7) (T := TX7) (N := 18) hx hb hts hnX7 hown hK.1 hP 0 rfl rfl 0 (Nat.le_of_ble_eq_true rfl) hk121 (fun _ h9 => h9) rfl dX7_divides_40 ?_
    refine lv_iconst (v := 0) (pc := 43) hx hb dX7_divides_43 (by decide) ?_
    refine va_iald (pc := 44) hx hb hK.1 hP 1 0 rfl rfl (vp_in_nI (n := 0) (N := 580) (by decide) (by decide)) dX7_divides_44 ?_
    refine lv_icmp_ge (pc := 45) (tgt := 98) hx hb dX7_divides_45 (by decide) (fun cc => ?_) (fun cc => ?_)
    · replace h := am_t cc h
      exact hK5 _ _ h ls (lv_sub hl [2] rfl) H locs hP hD hS
    replace h := am_f cc h
    refine lv_iload_n (pc := 48) hx hb dX7_divides_48 rfl (lv_at hl 1 rfl) ?_
    refine lv_if_le (pc := 49) (tgt := 98) hx hb dX7_divides_49 (by decide) (fun cc => ?_) (fun cc => ?_)
    · replace h := am_t cc h
      exact hK5 _ _ h ls (lv_sub hl [2] rfl) H locs hP hD hS
    replace h := am_f cc h
    refine lv_aload_n (pc := 52) hx hb dX7_divides_52 rfl (lv_at hl 0 rfl) ?_
    refine va_get (pc := 53) (D := D) (ci := 7) (v := .ref msa) (C := RX7) (T := TX7) (N := 18) hx hb hts hnX7 hown hK.1 hP 0 rfl rfl 0 (Nat.le_of_ble_eq_true rfl) hk121 (fun _ h9 => h9) rfl dX7_divides_53 ?_
    refine lv_bipush (v := 8) (pc := 56) hx hb dX7_divides_56 (by decide) ?_
    refine lv_iload_n (pc := 58) hx hb dX7_divides_58 rfl (lv_at hl 3 rfl) ?_
    refine lv_iadd (pc := 59) hx hb dX7_divides_59 ?_
    refine lv_dup2_11 (pc := 60) hx hb dX7_divides_60 rfl rfl ?_
    obtain ⟨hi, h⟩ := am_in_s h
    refine va_iald (pc := 61) hx hb hK.1 hP 1 0 rfl rfl hi dX7_divides_61 ?_
    refine lv_iload_n (pc := 62) hx hb dX7_divides_62 rfl (lv_at hl 1 rfl) ?_
    obtain ⟨hz, h⟩ := am_nz_s h
    refine lv_idiv (pc := 63) hx hb dX7_divides_63 hz ?_
    obtain ⟨hi, h⟩ := am_in_s h
    obtain ⟨f10, ef10⟩ : ∃ y : Nat → Int32, y = (upd f8 ((8 : Int32) + x7).toNatClampNeg ((f8 ((8 : Int32) + x7).toNatClampNeg) / x1)) := ⟨_, rfl⟩
    replace h := am_let_s ef10 h
    refine va_iast (pc := 64) hx hb hK.1 hP hD hS 1 0 rfl rfl hi dX7_divides_64 (fun H locs hP hD hS => ?_)
    rw [← ef10] at hP hD
    replace hP : va_P D vwCl [(mself, .inr (7, [.ref msa, .ref mpasta, .ref mhelda, .int mpasts, .int mruns, .ref mtexta, .int mtyped, .ref mchosena, .ref mtimesa, .ref mrestsa, .ref mbeforea, .int mspot, .int mfrom, .int mreason, .int mcause, .int morders, .int mkind, .ref mtolda])), (msa, .inl (cI, 580, .inl f10)), (mpasta, .inl (cI, 2320, .inl mpast)), (mhelda, .inl (cI, 580, .inl mheld)), (mtexta, .inl (cI, 60, .inl mtext)), (mchosena, .inl (cI, 12, .inl mchosen)), (mtimesa, .inl (cI, 12, .inl mtimes)), (mrestsa, .inl (cJ, 12, .inr (.inl mrests))), (mbeforea, .inl (cI, 12, .inl mbefore)), (mtolda, .inl (cI, 2, .inl mtold))] H := hP
    replace hD : va_D A [(mself, .inr (7, [.ref msa, .ref mpasta, .ref mhelda, .int mpasts, .int mruns, .ref mtexta, .int mtyped, .ref mchosena, .ref mtimesa, .ref mrestsa, .ref mbeforea, .int mspot, .int mfrom, .int mreason, .int mcause, .int morders, .int mkind, .ref mtolda])), (msa, .inl (cI, 580, .inl f10)), (mpasta, .inl (cI, 2320, .inl mpast)), (mhelda, .inl (cI, 580, .inl mheld)), (mtexta, .inl (cI, 60, .inl mtext)), (mchosena, .inl (cI, 12, .inl mchosen)), (mtimesa, .inl (cI, 12, .inl mtimes)), (mrestsa, .inl (cJ, 12, .inr (.inl mrests))), (mbeforea, .inl (cI, 12, .inl mbefore)), (mtolda, .inl (cI, 2, .inl mtold))] := hD
    refine lv_aload_n (pc := 65) hx hb dX7_divides_65 rfl (lv_at hl 0 rfl) ?_
    refine va_get (pc := 66) (D := D) (ci := 7) (v := .ref msa) (C := RX7) (T := TX7) (N := 18) hx hb hts hnX7 hown hK.1 hP 0 rfl rfl 0 (Nat.le_of_ble_eq_true rfl) hk121 (fun _ h9 => h9) rfl dX7_divides_66 ?_
    refine lv_bipush (v := 8) (pc := 69) hx hb dX7_divides_69 (by decide) ?_
    refine lv_iload_n (pc := 71) hx hb dX7_divides_71 rfl (lv_at hl 3 rfl) ?_
    refine lv_iadd (pc := 72) hx hb dX7_divides_72 ?_
    obtain ⟨hi, h⟩ := am_in_s h
    refine va_iald (pc := 73) hx hb hK.1 hP 1 0 rfl rfl hi dX7_divides_73 ?_
    refine lv_iload_n (pc := 74) hx hb dX7_divides_74 rfl (lv_at hl 2 rfl) ?_
    refine lv_icmp_le (pc := 75) (tgt := 90) hx hb dX7_divides_75 (by decide) (fun cc => ?_) (fun cc => ?_)
    · replace h := am_t cc h
      refine lv_iload_n (pc := 90) hx hb dX7_divides_90 rfl (lv_at hl 2 rfl) ?_
      refine lv_istore_n (lv' := [(2, .int x6), (0, .ref mself), (1, .int x1), (3, .int x7)]) (pc := 91) hx hb dX7_divides_91 rfl hl (by decide) rfl (fun ls hl => ?_)
      obtain ⟨x11, ex11⟩ : ∃ y : Int32, y = (x7 + (1 : Int32)) := ⟨_, rfl⟩
      replace h := am_let_s ex11 h
      refine lv_iinc (pc := 92) (v := x11) (lv' := [(3, .int x11), (2, .int x6), (0, .ref mself), (1, .int x1)]) hx hb dX7_divides_92 hl (k := 3) rfl (by rw [ex11]; rfl) (by decide) rfl (fun ls hl => ?_)
      refine lv_goto (pc := 95) (tgt := 38) hx hb dX7_divides_95 (by decide) ?_
      exact ihrec9 _ _ _ h ls (lv_sub hl [2, 3, 1, 0] rfl) H locs hP hD hS
    replace h := am_f cc h
    refine lv_aload_n (pc := 78) hx hb dX7_divides_78 rfl (lv_at hl 0 rfl) ?_
    refine va_get (pc := 79) (D := D) (ci := 7) (v := .ref msa) (C := RX7) (T := TX7) (N := 18) hx hb hts hnX7 hown hK.1 hP 0 rfl rfl 0 (Nat.le_of_ble_eq_true rfl) hk121 (fun _ h9 => h9) rfl dX7_divides_79 ?_
    refine lv_bipush (v := 8) (pc := 82) hx hb dX7_divides_82 (by decide) ?_
    refine lv_iload_n (pc := 84) hx hb dX7_divides_84 rfl (lv_at hl 3 rfl) ?_
    refine lv_iadd (pc := 85) hx hb dX7_divides_85 ?_
    obtain ⟨hi, h⟩ := am_in_s h
    refine va_iald (pc := 86) hx hb hK.1 hP 1 0 rfl rfl hi dX7_divides_86 ?_
    refine lv_goto (pc := 87) (tgt := 91) hx hb dX7_divides_87 (by decide) ?_
    refine lv_topi (fun x12 ex12 => ?_)
    replace h := am_let_s ex12 h
    refine lv_istore_n (lv' := [(2, .int x12), (0, .ref mself), (1, .int x1), (3, .int x7)]) (pc := 91) hx hb dX7_divides_91 rfl hl (by decide) rfl (fun ls hl => ?_)
    obtain ⟨x13, ex13⟩ : ∃ y : Int32, y = (x7 + (1 : Int32)) := ⟨_, rfl⟩
    replace h := am_let_s ex13 h
    refine lv_iinc (pc := 92) (v := x13) (lv' := [(3, .int x13), (2, .int x12), (0, .ref mself), (1, .int x1)]) hx hb dX7_divides_92 hl (k := 3) rfl (by rw [ex13]; rfl) (by decide) rfl (fun ls hl => ?_)
    refine lv_goto (pc := 95) (tgt := 38) hx hb dX7_divides_95 (by decide) ?_
    exact ihrec9 _ _ _ h ls (lv_sub hl [2, 3, 1, 0] rfl) H locs hP hD hS
  refine am_loop2_s (fun (x14 : Int32) (x15 : Int32) => ∀ (ls : Array Slot), lv_has ls 4 [(0, .ref mself), (1, .int x14), (2, .int (0 : Int32)), (3, .int x15)] → W p l e rmX7_divides s m args below meth c s.heap [] 0 0 Q (F0 m 6 ls [])) (fun rec16 ihrec16 x14 x15 h ls hl => ?_) _ _ _ h ls (lv_sub hl [3, 2, 1, 0] rfl)
  unfold F_X7_divides_B6 at h
  refine lv_iload_n (pc := 6) hx hb dX7_divides_6 rfl (lv_at hl 3 rfl) ?_
  refine lv_aload_n (pc := 7) hx hb dX7_divides_7 rfl (lv_at hl 0 rfl) ?_
  refine va_get (pc := 8) (D := D) (ci := 7) (v := .ref msa) (C := RX7) (T := TX7) (N := 18) hx hb hts hnX7 hown hK.1 hP 0 rfl rfl 0 (Nat.le_of_ble_eq_true rfl) hk121 (fun _ h9 => h9) rfl dX7_divides_8 ?_
  refine lv_iconst (v := 0) (pc := 11) hx hb dX7_divides_11 (by decide) ?_
  refine va_iald (pc := 12) hx hb hK.1 hP 1 0 rfl rfl (vp_in_nI (n := 0) (N := 580) (by decide) (by decide)) dX7_divides_12 ?_
  refine lv_icmp_ge (pc := 13) (tgt := 36) hx hb dX7_divides_13 (by decide) (fun cc => ?_) (fun cc => ?_)
  · replace h := am_t cc h
    exact hK2 _ h ls (lv_sub hl [0, 1, 2] rfl)
  replace h := am_f cc h
  refine lv_aload_n (pc := 16) hx hb dX7_divides_16 rfl (lv_at hl 0 rfl) ?_
  refine va_get (pc := 17) (D := D) (ci := 7) (v := .ref msa) (C := RX7) (T := TX7) (N := 18) hx hb hts hnX7 hown hK.1 hP 0 rfl rfl 0 (Nat.le_of_ble_eq_true rfl) hk121 (fun _ h9 => h9) rfl dX7_divides_17 ?_
  refine lv_bipush (v := 8) (pc := 20) hx hb dX7_divides_20 (by decide) ?_
  refine lv_iload_n (pc := 22) hx hb dX7_divides_22 rfl (lv_at hl 3 rfl) ?_
  refine lv_iadd (pc := 23) hx hb dX7_divides_23 ?_
  obtain ⟨hi, h⟩ := am_in_s h
  refine va_iald (pc := 24) hx hb hK.1 hP 1 0 rfl rfl hi dX7_divides_24 ?_
  refine lv_iload_n (pc := 25) hx hb dX7_divides_25 rfl (lv_at hl 1 rfl) ?_
  obtain ⟨r17, hc17, h⟩ := am_bind_s h
  refine kc_Si (pc := 26) ⟨hx, hb, hml, hown, hts⟩ hP hK [.int (ms ((8 : Int32) + x15).toNatClampNeg), .int x14] (c_X7_divisor l D cI cJ (ms ((8 : Int32) + x15).toNatClampNeg) x14 r17 hc17) [] rfl (cwS 2 hts (gzS wl235 wl236 wl5 wl237) rfl rfl rfl ⟨rfl, hdX7_divisor⟩ ⟨Nat.le_of_ble_eq_true rfl, Nat.le_of_ble_eq_true rfl⟩) [] rfl hl.1 rfl (Nat.le_of_ble_eq_true rfl) dX7_divides_26 ⟨Nat.zero_le _, Nat.zero_le _⟩ ?_
  refine lv_istore_n (lv' := [(1, .int r17), (0, .ref mself), (2, .int (0 : Int32)), (3, .int x15)]) (pc := 29) hx hb dX7_divides_29 rfl hl (by decide) rfl (fun ls hl => ?_)
  obtain ⟨x18, ex18⟩ : ∃ y : Int32, y = (x15 + (1 : Int32)) := ⟨_, rfl⟩
  replace h := am_let_s ex18 h
  refine lv_iinc (pc := 30) (v := x18) (lv' := [(3, .int x18), (1, .int r17), (0, .ref mself), (2, .int (0 : Int32))]) hx hb dX7_divides_30 hl (k := 3) rfl (by rw [ex18]; rfl) (by decide) rfl (fun ls hl => ?_)
  refine lv_goto (pc := 33) (tgt := 6) hx hb dX7_divides_33 (by decide) ?_
  exact ihrec16 _ _ h ls (lv_sub hl [2, 1, 3, 0] rfl)
theorem hdX7_byPoints : yX7_byPoints.cls ≠ "java/lang/invoke/MethodHandle" ∧ yX7_byPoints.cls ≠ "java/lang/invoke/VarHandle" ∧ (parseMethodDescriptor yX7_byPoints.desc).map (fun d => d.parameters.length) = some 1 := by decide +kernel
abbrev rmX7_byPoints : Room := { frames := 1, cells := 0, slots := 0, locals := 22 }
set_option maxHeartbeats 20000000 in
set_option maxRecDepth 100000 in
theorem c_X7_byPoints (l : Launch) (D : va_G) (cI cJ : ClassId) (mself : Nat) (msa : Nat) (mpasta : Nat) (mhelda : Nat) (mtexta : Nat) (mchosena : Nat) (mtimesa : Nat) (mrestsa : Nat) (mbeforea : Nat) (mtolda : Nat) (mpasts : Int32) (mruns : Int32) (mtyped : Int32) (mspot : Int32) (mfrom : Int32) (mreason : Int32) (mcause : Int32) (morders : Int32) (mkind : Int32) (ms : Nat → Int32) (mpast : Nat → Int32) (mheld : Nat → Int32) (mtext : Nat → Int32) (mchosen : Nat → Int32) (mtimes : Nat → Int32) (mrests : Nat → Int64) (mbefore : Nat → Int32) (mtold : Nat → Int32) (p0 : Int32) (zms : Nat → Int32) (zmchosen : Nat → Int32) (hF : F_X7_byPoints ms mchosen p0 = some (zms, zmchosen)) (sz : Nat) : Met l yX7_byPoints (wz yX7_byPoints cX7_byPoints 13 none) rmX7_byPoints (kPw D cI cJ [(mself, .inr (7, [.ref msa, .ref mpasta, .ref mhelda, .int mpasts, .int mruns, .ref mtexta, .int mtyped, .ref mchosena, .ref mtimesa, .ref mrestsa, .ref mbeforea, .int mspot, .int mfrom, .int mreason, .int mcause, .int morders, .int mkind, .ref mtolda])), (msa, .inl (cI, 580, .inl ms)), (mpasta, .inl (cI, 2320, .inl mpast)), (mhelda, .inl (cI, 580, .inl mheld)), (mtexta, .inl (cI, 60, .inl mtext)), (mchosena, .inl (cI, 12, .inl mchosen)), (mtimesa, .inl (cI, 12, .inl mtimes)), (mrestsa, .inl (cJ, 12, .inr (.inl mrests))), (mbeforea, .inl (cI, 12, .inl mbefore)), (mtolda, .inl (cI, 2, .inl mtold))] sz [.ref mself, .int p0]) (kQv D [(mself, .inr (7, [.ref msa, .ref mpasta, .ref mhelda, .int mpasts, .int mruns, .ref mtexta, .int mtyped, .ref mchosena, .ref mtimesa, .ref mrestsa, .ref mbeforea, .int mspot, .int mfrom, .int mreason, .int mcause, .int morders, .int mkind, .ref mtolda])), (msa, .inl (cI, 580, .inl zms)), (mpasta, .inl (cI, 2320, .inl mpast)), (mhelda, .inl (cI, 580, .inl mheld)), (mtexta, .inl (cI, 60, .inl mtext)), (mchosena, .inl (cI, 12, .inl zmchosen)), (mtimesa, .inl (cI, 12, .inl mtimes)), (mrestsa, .inl (cJ, 12, .inr (.inl mrests))), (mbeforea, .inl (cI, 12, .inl mbefore)), (mtolda, .inl (cI, 2, .inl mtold))] (va_A [(mself, .inr (7, [.ref msa, .ref mpasta, .ref mhelda, .int mpasts, .int mruns, .ref mtexta, .int mtyped, .ref mchosena, .ref mtimesa, .ref mrestsa, .ref mbeforea, .int mspot, .int mfrom, .int mreason, .int mcause, .int morders, .int mkind, .ref mtolda])), (msa, .inl (cI, 580, .inl ms)), (mpasta, .inl (cI, 2320, .inl mpast)), (mhelda, .inl (cI, 580, .inl mheld)), (mtexta, .inl (cI, 60, .inl mtext)), (mchosena, .inl (cI, 12, .inl mchosen)), (mtimesa, .inl (cI, 12, .inl mtimes)), (mrestsa, .inl (cJ, 12, .inr (.inl mrests))), (mbeforea, .inl (cI, 12, .inl mbefore)), (mtolda, .inl (cI, 2, .inl mtold))] sz)) 0 0 (va_A [(mself, .inr (7, [.ref msa, .ref mpasta, .ref mhelda, .int mpasts, .int mruns, .ref mtexta, .int mtyped, .ref mchosena, .ref mtimesa, .ref mrestsa, .ref mbeforea, .int mspot, .int mfrom, .int mreason, .int mcause, .int morders, .int mkind, .ref mtolda])), (msa, .inl (cI, 580, .inl ms)), (mpasta, .inl (cI, 2320, .inl mpast)), (mhelda, .inl (cI, 580, .inl mheld)), (mtexta, .inl (cI, 60, .inl mtext)), (mchosena, .inl (cI, 12, .inl mchosen)), (mtimesa, .inl (cI, 12, .inl mtimes)), (mrestsa, .inl (cJ, 12, .inr (.inl mrests))), (mbeforea, .inl (cI, 12, .inl mbefore)), (mtolda, .inl (cI, 2, .inl mtold))] sz) := by
  refine kM_wv cX7_byPoints 13 (by decide +kernel) rfl rfl (Nat.le_of_ble_eq_true rfl) ⟨rfl, rfl⟩ ?_
  intro p e s m args below meth c Q A ls hx hb hml hown hts hP hK hD hA hS hl hret
  have hk121 := hts _ (List.mem_cons_of_mem _ wl121)
  have hk125 := hts _ (List.mem_cons_of_mem _ wl125)
  have hk404 := hts _ (List.mem_cons_of_mem _ wl404)
  have hnX7 : ∀ w ∈ u_ws RX7 TX7 18, w ∈ wz yX7_byPoints cX7_byPoints 13 none := fun w h => List.mem_cons_of_mem _ (inlX7 w h)
  replace hl : lv_has ls 13 [(0, .ref mself), (1, .int p0)] := hl
  have h := hF
  unfold F_X7_byPoints at h
  refine lv_aload_n (pc := 0) hx hb dX7_byPoints_0 rfl (lv_at hl 0 rfl) ?_
  refine va_get (pc := 1) (D := D) (ci := 7) (v := .ref msa) (C := RX7) (T := TX7) (N := 18) hx hb hts hnX7 hown hK.1 hP 0 rfl rfl 0 (Nat.le_of_ble_eq_true rfl) hk121 (fun _ h9 => h9) rfl dX7_byPoints_1 ?_
  refine lv_iconst (v := 0) (pc := 4) hx hb dX7_byPoints_4 (by decide) ?_
  refine va_iald (pc := 5) hx hb hK.1 hP 1 0 rfl rfl (vp_in_nI (n := 0) (N := 580) (by decide) (by decide)) dX7_byPoints_5 ?_
  refine lv_topi (fun x1 ex1 => ?_)
  replace h := am_let_s ex1 h
  refine lv_istore_n (lv' := [(2, .int x1), (0, .ref mself), (1, .int p0)]) (pc := 6) hx hb dX7_byPoints_6 rfl hl (by decide) rfl (fun ls hl => ?_)
  refine lv_aload_n (pc := 7) hx hb dX7_byPoints_7 rfl (lv_at hl 1 rfl) ?_
  obtain ⟨r2, hc2, h⟩ := am_bind_s h
  refine kc_Vi (pc := 8) (ci := 7) ⟨hx, hb, hml, hown, hts⟩ hP hK [] (c_X7_sum l D cI cJ mself msa mpasta mhelda mtexta mchosena mtimesa mrestsa mbeforea mtolda mpasts mruns mtyped mspot mfrom mreason mcause morders mkind ms mpast mheld mtext mchosen mtimes mrests mbefore mtold r2 hc2) [0, 1, 2, 3, 4, 5, 6, 7, 8, 9] rfl (cwV 0 hts (gzV wl227 wl228 wl229 wl5 wl230) rfl rfl rfl ⟨rfl, hdX7_sum⟩ ⟨Nat.le_of_ble_eq_true rfl, Nat.le_of_ble_eq_true rfl⟩) rfl rfl [] rfl hl.1 rfl (Nat.le_of_ble_eq_true rfl) dX7_byPoints_8 ⟨Nat.zero_le _, Nat.zero_le _⟩ ?_
  refine lv_i2l (pc := 11) hx hb dX7_byPoints_11 rfl ?_
  refine lv_topl (fun x3 ex3 => ?_)
  replace h := am_let_s ex3 h
  refine lv_lstore_n (lv' := [(3, .long x3), (2, .int x1), (0, .ref mself), (1, .int p0)]) (pc := 12) hx hb dX7_byPoints_12 rfl hl (by decide) rfl (fun ls hl => ?_)
  refine lv_aload_n (pc := 13) hx hb dX7_byPoints_13 rfl (lv_at hl 2 rfl) ?_
  refine va_get (pc := 14) (D := D) (ci := 7) (v := .ref msa) (C := RX7) (T := TX7) (N := 18) hx hb hts hnX7 hown hK.1 hP 0 rfl rfl 0 (Nat.le_of_ble_eq_true rfl) hk121 (fun _ h9 => h9) rfl dX7_byPoints_14 ?_
  refine lv_bipush (v := 7) (pc := 17) hx hb dX7_byPoints_17 (by decide) ?_
  refine va_iald (pc := 19) hx hb hK.1 hP 1 0 rfl rfl (vp_in_nI (n := 7) (N := 580) (by decide) (by decide)) dX7_byPoints_19 ?_
  refine lv_i2l (pc := 20) hx hb dX7_byPoints_20 rfl ?_
  refine lv_lload_n (pc := 21) hx hb dX7_byPoints_21 rfl (lv_at hl 0 rfl) ?_
  refine lv_lmul (pc := 22) hx hb dX7_byPoints_22 ?_
  refine lv_ldc2 (pc := 23) hx hb hown hk404 dX7_byPoints_23 ?_
  refine lv_ldiv (pc := 26) hx hb dX7_byPoints_26 (by decide) ?_
  refine lv_topl (fun x4 ex4 => ?_)
  replace h := am_let_s ex4 h
  refine lv_lstore (lv' := [(5, .long x4), (3, .long x3), (2, .int x1), (0, .ref mself), (1, .int p0)]) (pc := 27) hx hb dX7_byPoints_27 hl (by decide) rfl (fun ls hl => ?_)
  refine lv_iconst (v := 0) (pc := 29) hx hb dX7_byPoints_29 (by decide) ?_
  refine lv_istore (lv' := [(7, .int (0 : Int32)), (5, .long x4), (3, .long x3), (2, .int x1), (0, .ref mself), (1, .int p0)]) (pc := 30) hx hb dX7_byPoints_30 hl (by decide) rfl (fun ls hl => ?_)
  refine am_join2_s (fun (f5 : Nat → Int32) (f6 : Nat → Int32) => ∀ (ls : Array Slot), lv_has ls 13 [] → ∀ (H : Heap) (locs : List Loc), va_P D vwCl [(mself, .inr (7, [.ref msa, .ref mpasta, .ref mhelda, .int mpasts, .int mruns, .ref mtexta, .int mtyped, .ref mchosena, .ref mtimesa, .ref mrestsa, .ref mbeforea, .int mspot, .int mfrom, .int mreason, .int mcause, .int morders, .int mkind, .ref mtolda])), (msa, .inl (cI, 580, .inl f5)), (mpasta, .inl (cI, 2320, .inl mpast)), (mhelda, .inl (cI, 580, .inl mheld)), (mtexta, .inl (cI, 60, .inl mtext)), (mchosena, .inl (cI, 12, .inl f6)), (mtimesa, .inl (cI, 12, .inl mtimes)), (mrestsa, .inl (cJ, 12, .inr (.inl mrests))), (mbeforea, .inl (cI, 12, .inl mbefore)), (mtolda, .inl (cI, 2, .inl mtold))] H → va_D A [(mself, .inr (7, [.ref msa, .ref mpasta, .ref mhelda, .int mpasts, .int mruns, .ref mtexta, .int mtyped, .ref mchosena, .ref mtimesa, .ref mrestsa, .ref mbeforea, .int mspot, .int mfrom, .int mreason, .int mcause, .int morders, .int mkind, .ref mtolda])), (msa, .inl (cI, 580, .inl f5)), (mpasta, .inl (cI, 2320, .inl mpast)), (mhelda, .inl (cI, 580, .inl mheld)), (mtexta, .inl (cI, 60, .inl mtext)), (mchosena, .inl (cI, 12, .inl f6)), (mtimesa, .inl (cI, 12, .inl mtimes)), (mrestsa, .inl (cJ, 12, .inr (.inl mrests))), (mbeforea, .inl (cI, 12, .inl mbefore)), (mtolda, .inl (cI, 2, .inl mtold))] → va_S A s.heap H locs → W p l e rmX7_byPoints s m args below meth c H locs 0 0 Q (F0 m 123 ls [])) h (fun f5 f6 h ls hl H locs hP hD hS => ?_) (fun K7 hK7 h => ?_)
  · obtain ⟨e1, e2⟩ := am_ret2 h
    exact hret _ _ _ _ dX7_byPoints_123 (by rw [← e1, ← e2]; exact hP) hS
  refine am_loop3_s (fun (x8 : Int32) (f9 : Nat → Int32) (f10 : Nat → Int32) => ∀ (ls : Array Slot), lv_has ls 13 [(0, .ref mself), (1, .int p0), (2, .int x1), (3, .long x3), (5, .long x4), (7, .int x8)] → ∀ (H : Heap) (locs : List Loc), va_P D vwCl [(mself, .inr (7, [.ref msa, .ref mpasta, .ref mhelda, .int mpasts, .int mruns, .ref mtexta, .int mtyped, .ref mchosena, .ref mtimesa, .ref mrestsa, .ref mbeforea, .int mspot, .int mfrom, .int mreason, .int mcause, .int morders, .int mkind, .ref mtolda])), (msa, .inl (cI, 580, .inl f9)), (mpasta, .inl (cI, 2320, .inl mpast)), (mhelda, .inl (cI, 580, .inl mheld)), (mtexta, .inl (cI, 60, .inl mtext)), (mchosena, .inl (cI, 12, .inl f10)), (mtimesa, .inl (cI, 12, .inl mtimes)), (mrestsa, .inl (cJ, 12, .inr (.inl mrests))), (mbeforea, .inl (cI, 12, .inl mbefore)), (mtolda, .inl (cI, 2, .inl mtold))] H → va_D A [(mself, .inr (7, [.ref msa, .ref mpasta, .ref mhelda, .int mpasts, .int mruns, .ref mtexta, .int mtyped, .ref mchosena, .ref mtimesa, .ref mrestsa, .ref mbeforea, .int mspot, .int mfrom, .int mreason, .int mcause, .int morders, .int mkind, .ref mtolda])), (msa, .inl (cI, 580, .inl f9)), (mpasta, .inl (cI, 2320, .inl mpast)), (mhelda, .inl (cI, 580, .inl mheld)), (mtexta, .inl (cI, 60, .inl mtext)), (mchosena, .inl (cI, 12, .inl f10)), (mtimesa, .inl (cI, 12, .inl mtimes)), (mrestsa, .inl (cJ, 12, .inr (.inl mrests))), (mbeforea, .inl (cI, 12, .inl mbefore)), (mtolda, .inl (cI, 2, .inl mtold))] → va_S A s.heap H locs → W p l e rmX7_byPoints s m args below meth c H locs 0 0 Q (F0 m 32 ls [])) (fun rec11 ihrec11 x8 f9 f10 h ls hl H locs hP hD hS => ?_) _ _ _ _ h ls (lv_sub hl [4, 5, 3, 2, 1, 0] rfl) s.heap [] hP hD hS
  unfold F_X7_byPoints_B32 at h
  refine lv_iload (pc := 32) hx hb dX7_byPoints_32 (lv_at hl 5 rfl) ?_
  refine lv_iload_n (pc := 34) hx hb dX7_byPoints_34 rfl (lv_at hl 2 rfl) ?_
  refine lv_icmp_ge (pc := 35) (tgt := 123) hx hb dX7_byPoints_35 (by decide) (fun cc => ?_) (fun cc => ?_)
  · replace h := am_t cc h
    exact hK7 _ _ h ls (lv_sub hl [] rfl) H locs hP hD hS
  replace h := am_f cc h
  refine lv_iload (pc := 38) hx hb dX7_byPoints_38 (lv_at hl 5 rfl) ?_
  refine lv_i2l (pc := 40) hx hb dX7_byPoints_40 rfl ?_
  refine lv_lload_n (pc := 41) hx hb dX7_byPoints_41 rfl (lv_at hl 3 rfl) ?_
  refine lv_lmul (pc := 42) hx hb dX7_byPoints_42 ?_
  refine lv_iload_n (pc := 43) hx hb dX7_byPoints_43 rfl (lv_at hl 1 rfl) ?_
  refine am_join2_s (fun (j12 : Int64) (f13 : Nat → Int32) => ∀ (ls : Array Slot), lv_has ls 13 [(0, .ref mself), (1, .int p0), (2, .int x1), (3, .long x3), (5, .long x4), (7, .int x8)] → ∀ (H : Heap) (locs : List Loc), va_P D vwCl [(mself, .inr (7, [.ref msa, .ref mpasta, .ref mhelda, .int mpasts, .int mruns, .ref mtexta, .int mtyped, .ref mchosena, .ref mtimesa, .ref mrestsa, .ref mbeforea, .int mspot, .int mfrom, .int mreason, .int mcause, .int morders, .int mkind, .ref mtolda])), (msa, .inl (cI, 580, .inl f13)), (mpasta, .inl (cI, 2320, .inl mpast)), (mhelda, .inl (cI, 580, .inl mheld)), (mtexta, .inl (cI, 60, .inl mtext)), (mchosena, .inl (cI, 12, .inl f10)), (mtimesa, .inl (cI, 12, .inl mtimes)), (mrestsa, .inl (cJ, 12, .inr (.inl mrests))), (mbeforea, .inl (cI, 12, .inl mbefore)), (mtolda, .inl (cI, 2, .inl mtold))] H → va_D A [(mself, .inr (7, [.ref msa, .ref mpasta, .ref mhelda, .int mpasts, .int mruns, .ref mtexta, .int mtyped, .ref mchosena, .ref mtimesa, .ref mrestsa, .ref mbeforea, .int mspot, .int mfrom, .int mreason, .int mcause, .int morders, .int mkind, .ref mtolda])), (msa, .inl (cI, 580, .inl f13)), (mpasta, .inl (cI, 2320, .inl mpast)), (mhelda, .inl (cI, 580, .inl mheld)), (mtexta, .inl (cI, 60, .inl mtext)), (mchosena, .inl (cI, 12, .inl f10)), (mtimesa, .inl (cI, 12, .inl mtimes)), (mrestsa, .inl (cJ, 12, .inr (.inl mrests))), (mbeforea, .inl (cI, 12, .inl mbefore)), (mtolda, .inl (cI, 2, .inl mtold))] → va_S A s.heap H locs → W p l e rmX7_byPoints s m args below meth c H locs 0 0 Q (F0 m 59 ls [.long j12, .long (x8.toInt64 * x3)])) h (fun j12 f13 h ls hl H locs hP hD hS => ?_) (fun J14 hJ14 h => ?_)
  · refine lv_ladd (pc := 59) hx hb dX7_byPoints_59 ?_
    refine lv_topl (fun x15 ex15 => ?_)
    replace h := am_let_s ex15 h
    refine lv_lstore (lv' := [(8, .long x15), (0, .ref mself), (1, .int p0), (2, .int x1), (3, .long x3), (5, .long x4), (7, .int x8)]) (pc := 60) hx hb dX7_byPoints_60 hl (by decide) rfl (fun ls hl => ?_)
    refine lv_iconst (v := 0) (pc := 62) hx hb dX7_byPoints_62 (by decide) ?_
    refine lv_istore (lv' := [(10, .int (0 : Int32)), (8, .long x15), (0, .ref mself), (1, .int p0), (2, .int x1), (3, .long x3), (5, .long x4), (7, .int x8)]) (pc := 63) hx hb dX7_byPoints_63 hl (by decide) rfl (fun ls hl => ?_)
    refine lv_aload_n (pc := 65) hx hb dX7_byPoints_65 rfl (lv_at hl 2 rfl) ?_
    refine va_get (pc := 66) (D := D) (ci := 7) (v := .ref msa) (C := RX7) (T := TX7) (N := 18) hx hb hts hnX7 hown hK.1 hP 0 rfl rfl 0 (Nat.le_of_ble_eq_true rfl) hk121 (fun _ h9 => h9) rfl dX7_byPoints_66 ?_
    refine lv_bipush (v := 8) (pc := 69) hx hb dX7_byPoints_69 (by decide) ?_
    refine va_iald (pc := 71) hx hb hK.1 hP 1 0 rfl rfl (vp_in_nI (n := 8) (N := 580) (by decide) (by decide)) dX7_byPoints_71 ?_
    refine lv_i2l (pc := 72) hx hb dX7_byPoints_72 rfl ?_
    refine lv_topl (fun x16 ex16 => ?_)
    replace h := am_let_s ex16 h
    refine lv_lstore (lv' := [(11, .long x16), (10, .int (0 : Int32)), (8, .long x15), (0, .ref mself), (1, .int p0), (2, .int x1), (3, .long x3), (5, .long x4), (7, .int x8)]) (pc := 73) hx hb dX7_byPoints_73 hl (by decide) rfl (fun ls hl => ?_)
    refine am_join1_s (fun (x17 : Int32) => ∀ (ls : Array Slot), lv_has ls 13 [(0, .ref mself), (1, .int p0), (2, .int x1), (3, .long x3), (5, .long x4), (7, .int x8), (10, .int x17)] → W p l e rmX7_byPoints s m args below meth c H locs 0 0 Q (F0 m 108 ls [])) h (fun x17 h ls hl => ?_) (fun K18 hK18 h => ?_)
    · refine lv_aload_n (pc := 108) hx hb dX7_byPoints_108 rfl (lv_at hl 0 rfl) ?_
      refine va_get (pc := 109) (D := D) (ci := 7) (v := .ref mchosena) (C := RX7) (T := TX7) (N := 18) hx hb hts hnX7 hown hK.1 hP 0 rfl rfl 7 (Nat.le_of_ble_eq_true rfl) hk125 (fun _ h9 => h9) rfl dX7_byPoints_109 ?_
      refine lv_iload (pc := 112) hx hb dX7_byPoints_112 (lv_at hl 5 rfl) ?_
      refine lv_iload (pc := 114) hx hb dX7_byPoints_114 (lv_at hl 6 rfl) ?_
      obtain ⟨hi, h⟩ := am_in_s h
      obtain ⟨f19, ef19⟩ : ∃ y : Nat → Int32, y = (upd f10 x8.toNatClampNeg x17) := ⟨_, rfl⟩
      replace h := am_let_s ef19 h
      refine va_iast (pc := 116) hx hb hK.1 hP hD hS 5 0 rfl rfl hi dX7_byPoints_116 (fun H locs hP hD hS => ?_)
      rw [← ef19] at hP hD
      replace hP : va_P D vwCl [(mself, .inr (7, [.ref msa, .ref mpasta, .ref mhelda, .int mpasts, .int mruns, .ref mtexta, .int mtyped, .ref mchosena, .ref mtimesa, .ref mrestsa, .ref mbeforea, .int mspot, .int mfrom, .int mreason, .int mcause, .int morders, .int mkind, .ref mtolda])), (msa, .inl (cI, 580, .inl f13)), (mpasta, .inl (cI, 2320, .inl mpast)), (mhelda, .inl (cI, 580, .inl mheld)), (mtexta, .inl (cI, 60, .inl mtext)), (mchosena, .inl (cI, 12, .inl f19)), (mtimesa, .inl (cI, 12, .inl mtimes)), (mrestsa, .inl (cJ, 12, .inr (.inl mrests))), (mbeforea, .inl (cI, 12, .inl mbefore)), (mtolda, .inl (cI, 2, .inl mtold))] H := hP
      replace hD : va_D A [(mself, .inr (7, [.ref msa, .ref mpasta, .ref mhelda, .int mpasts, .int mruns, .ref mtexta, .int mtyped, .ref mchosena, .ref mtimesa, .ref mrestsa, .ref mbeforea, .int mspot, .int mfrom, .int mreason, .int mcause, .int morders, .int mkind, .ref mtolda])), (msa, .inl (cI, 580, .inl f13)), (mpasta, .inl (cI, 2320, .inl mpast)), (mhelda, .inl (cI, 580, .inl mheld)), (mtexta, .inl (cI, 60, .inl mtext)), (mchosena, .inl (cI, 12, .inl f19)), (mtimesa, .inl (cI, 12, .inl mtimes)), (mrestsa, .inl (cJ, 12, .inr (.inl mrests))), (mbeforea, .inl (cI, 12, .inl mbefore)), (mtolda, .inl (cI, 2, .inl mtold))] := hD
      obtain ⟨x20, ex20⟩ : ∃ y : Int32, y = (x8 + (1 : Int32)) := ⟨_, rfl⟩
      replace h := am_let_s ex20 h
      refine lv_iinc (pc := 117) (v := x20) (lv' := [(7, .int x20), (0, .ref mself), (1, .int p0), (2, .int x1), (3, .long x3), (5, .long x4), (10, .int x17)]) hx hb dX7_byPoints_117 hl (k := 5) rfl (by rw [ex20]; rfl) (by decide) rfl (fun ls hl => ?_)
      refine lv_goto (pc := 120) (tgt := 32) hx hb dX7_byPoints_120 (by decide) ?_
      exact ihrec11 _ _ _ h ls (lv_sub hl [1, 2, 3, 4, 5, 0] rfl) H locs hP hD hS
    refine am_loop2_s (fun (x21 : Int32) (x22 : Int64) => ∀ (ls : Array Slot), lv_has ls 13 [(0, .ref mself), (1, .int p0), (2, .int x1), (3, .long x3), (5, .long x4), (7, .int x8), (8, .long x15), (10, .int x21), (11, .long x22)] → W p l e rmX7_byPoints s m args below meth c H locs 0 0 Q (F0 m 75 ls [])) (fun rec23 ihrec23 x21 x22 h ls hl => ?_) _ _ _ h ls (lv_sub hl [3, 4, 5, 6, 7, 8, 2, 1, 0] rfl)
    unfold F_X7_byPoints_B75 at h
    refine lv_iload_n (pc := 75) hx hb dX7_byPoints_75 rfl (lv_at hl 2 rfl) ?_
    refine lv_i2l (pc := 76) hx hb dX7_byPoints_76 rfl ?_
    refine lv_lload (pc := 77) hx hb dX7_byPoints_77 (lv_at hl 8 rfl) ?_
    refine lv_lmul (pc := 79) hx hb dX7_byPoints_79 ?_
    refine lv_lload (pc := 80) hx hb dX7_byPoints_80 (lv_at hl 6 rfl) ?_
    refine W.lcmp (pc := 82) hx hb dX7_byPoints_82 ?_
    refine lv_if_gt (pc := 83) (tgt := 108) hx hb dX7_byPoints_83 (by decide) (fun cc => ?_) (fun cc => ?_)
    · replace h := am_t cc h
      exact hK18 _ h ls (lv_sub hl [0, 1, 2, 3, 4, 5, 7] rfl)
    replace h := am_f cc h
    obtain ⟨x24, ex24⟩ : ∃ y : Int32, y = (x21 + (1 : Int32)) := ⟨_, rfl⟩
    replace h := am_let_s ex24 h
    refine lv_iinc (pc := 86) (v := x24) (lv' := [(10, .int x24), (0, .ref mself), (1, .int p0), (2, .int x1), (3, .long x3), (5, .long x4), (7, .int x8), (8, .long x15), (11, .long x22)]) hx hb dX7_byPoints_86 hl (k := 7) rfl (by rw [ex24]; rfl) (by decide) rfl (fun ls hl => ?_)
    refine lv_lload (pc := 89) hx hb dX7_byPoints_89 (lv_at hl 8 rfl) ?_
    refine lv_aload_n (pc := 91) hx hb dX7_byPoints_91 rfl (lv_at hl 1 rfl) ?_
    refine va_get (pc := 92) (D := D) (ci := 7) (v := .ref msa) (C := RX7) (T := TX7) (N := 18) hx hb hts hnX7 hown hK.1 hP 0 rfl rfl 0 (Nat.le_of_ble_eq_true rfl) hk121 (fun _ h9 => h9) rfl dX7_byPoints_92 ?_
    refine lv_bipush (v := 8) (pc := 95) hx hb dX7_byPoints_95 (by decide) ?_
    refine lv_iload (pc := 97) hx hb dX7_byPoints_97 (lv_at hl 0 rfl) ?_
    refine lv_iadd (pc := 99) hx hb dX7_byPoints_99 ?_
    obtain ⟨hi, h⟩ := am_in_s h
    refine va_iald (pc := 100) hx hb hK.1 hP 1 0 rfl rfl hi dX7_byPoints_100 ?_
    refine lv_i2l (pc := 101) hx hb dX7_byPoints_101 rfl ?_
    refine lv_ladd (pc := 102) hx hb dX7_byPoints_102 ?_
    refine lv_topl (fun x25 ex25 => ?_)
    replace h := am_let_s ex25 h
    refine lv_lstore (lv' := [(11, .long x25), (10, .int x24), (0, .ref mself), (1, .int p0), (2, .int x1), (3, .long x3), (5, .long x4), (7, .int x8), (8, .long x15)]) (pc := 103) hx hb dX7_byPoints_103 hl (by decide) rfl (fun ls hl => ?_)
    refine lv_goto (pc := 105) (tgt := 75) hx hb dX7_byPoints_105 (by decide) ?_
    exact ihrec23 _ _ h ls (lv_sub hl [2, 3, 4, 5, 6, 7, 8, 1, 0] rfl)
  refine lv_if_ne (pc := 44) (tgt := 52) hx hb dX7_byPoints_44 (by decide) (fun cc => ?_) (fun cc => ?_)
  · replace h := am_f cc h
    refine lv_aload_n (pc := 52) hx hb dX7_byPoints_52 rfl (lv_at hl 0 rfl) ?_
    obtain ⟨r26, f27, hc27, h⟩ := am_call2_s h
    refine kc_Wi (pc := 53) (ci := 7) ⟨hx, hb, hml, hown, hts⟩ hP hK hD hS hA [] (c_X7_takes l D cI cJ mself msa mpasta mhelda mtexta mchosena mtimesa mrestsa mbeforea mtolda mpasts mruns mtyped mspot mfrom mreason mcause morders mkind f9 mpast mheld mtext f10 mtimes mrests mbefore mtold r26 f27 hc27 _) [0, 1, 2, 3, 4, 5, 6, 7, 8, 9] rfl rfl rfl (cwV 0 hts (gzV wl284 wl285 wl286 wl5 wl287) rfl rfl rfl ⟨rfl, hdX7_takes⟩ ⟨Nat.le_of_ble_eq_true rfl, Nat.le_of_ble_eq_true rfl⟩) rfl rfl [.long (x8.toInt64 * x3)] rfl hl.1 rfl (Nat.le_of_ble_eq_true rfl) dX7_byPoints_53 ⟨Nat.zero_le _, Nat.zero_le _⟩ (fun H locs hP hD hS => ?_)
    replace hP : va_P D vwCl [(mself, .inr (7, [.ref msa, .ref mpasta, .ref mhelda, .int mpasts, .int mruns, .ref mtexta, .int mtyped, .ref mchosena, .ref mtimesa, .ref mrestsa, .ref mbeforea, .int mspot, .int mfrom, .int mreason, .int mcause, .int morders, .int mkind, .ref mtolda])), (msa, .inl (cI, 580, .inl f27)), (mpasta, .inl (cI, 2320, .inl mpast)), (mhelda, .inl (cI, 580, .inl mheld)), (mtexta, .inl (cI, 60, .inl mtext)), (mchosena, .inl (cI, 12, .inl f10)), (mtimesa, .inl (cI, 12, .inl mtimes)), (mrestsa, .inl (cJ, 12, .inr (.inl mrests))), (mbeforea, .inl (cI, 12, .inl mbefore)), (mtolda, .inl (cI, 2, .inl mtold))] H := hP
    replace hD : va_D A [(mself, .inr (7, [.ref msa, .ref mpasta, .ref mhelda, .int mpasts, .int mruns, .ref mtexta, .int mtyped, .ref mchosena, .ref mtimesa, .ref mrestsa, .ref mbeforea, .int mspot, .int mfrom, .int mreason, .int mcause, .int morders, .int mkind, .ref mtolda])), (msa, .inl (cI, 580, .inl f27)), (mpasta, .inl (cI, 2320, .inl mpast)), (mhelda, .inl (cI, 580, .inl mheld)), (mtexta, .inl (cI, 60, .inl mtext)), (mchosena, .inl (cI, 12, .inl f10)), (mtimesa, .inl (cI, 12, .inl mtimes)), (mrestsa, .inl (cJ, 12, .inr (.inl mrests))), (mbeforea, .inl (cI, 12, .inl mbefore)), (mtolda, .inl (cI, 2, .inl mtold))] := hD
    refine lv_i2l (pc := 56) hx hb dX7_byPoints_56 rfl ?_
    refine lv_lload_n (pc := 57) hx hb dX7_byPoints_57 rfl (lv_at hl 3 rfl) ?_
    obtain ⟨hz, h⟩ := am_nzl_s h
    refine lv_lrem (pc := 58) hx hb dX7_byPoints_58 hz ?_
    exact hJ14 _ _ h ls (lv_sub hl [0, 1, 2, 3, 4, 5] rfl) H locs hP hD hS
  replace h := am_t cc h
  refine lv_lload (pc := 47) hx hb dX7_byPoints_47 (lv_at hl 4 rfl) ?_
  refine lv_goto (pc := 49) (tgt := 59) hx hb dX7_byPoints_49 (by decide) ?_
  exact hJ14 _ _ h ls (lv_sub hl [0, 1, 2, 3, 4, 5] rfl) H locs hP hD hS
theorem hdX7_byTimes : yX7_byTimes.cls ≠ "java/lang/invoke/MethodHandle" ∧ yX7_byTimes.cls ≠ "java/lang/invoke/VarHandle" ∧ (parseMethodDescriptor yX7_byTimes.desc).map (fun d => d.parameters.length) = some 0 := by decide +kernel
abbrev rmX7_byTimes : Room := { frames := 1, cells := 0, slots := 0, locals := 22 }
set_option maxHeartbeats 20000000 in
set_option maxRecDepth 100000 in
theorem c_X7_byTimes (l : Launch) (D : va_G) (cI cJ : ClassId) (mself : Nat) (msa : Nat) (mpasta : Nat) (mhelda : Nat) (mtexta : Nat) (mchosena : Nat) (mtimesa : Nat) (mrestsa : Nat) (mbeforea : Nat) (mtolda : Nat) (mpasts : Int32) (mruns : Int32) (mtyped : Int32) (mspot : Int32) (mfrom : Int32) (mreason : Int32) (mcause : Int32) (morders : Int32) (mkind : Int32) (ms : Nat → Int32) (mpast : Nat → Int32) (mheld : Nat → Int32) (mtext : Nat → Int32) (mchosen : Nat → Int32) (mtimes : Nat → Int32) (mrests : Nat → Int64) (mbefore : Nat → Int32) (mtold : Nat → Int32)  (zmchosen : Nat → Int32) (zmtimes : Nat → Int32) (zmrests : Nat → Int64) (hF : F_X7_byTimes ms mchosen mtimes mrests = some (zmchosen, zmtimes, zmrests)) (sz : Nat) : Met l yX7_byTimes (wz yX7_byTimes cX7_byTimes 8 none) rmX7_byTimes (kPw D cI cJ [(mself, .inr (7, [.ref msa, .ref mpasta, .ref mhelda, .int mpasts, .int mruns, .ref mtexta, .int mtyped, .ref mchosena, .ref mtimesa, .ref mrestsa, .ref mbeforea, .int mspot, .int mfrom, .int mreason, .int mcause, .int morders, .int mkind, .ref mtolda])), (msa, .inl (cI, 580, .inl ms)), (mpasta, .inl (cI, 2320, .inl mpast)), (mhelda, .inl (cI, 580, .inl mheld)), (mtexta, .inl (cI, 60, .inl mtext)), (mchosena, .inl (cI, 12, .inl mchosen)), (mtimesa, .inl (cI, 12, .inl mtimes)), (mrestsa, .inl (cJ, 12, .inr (.inl mrests))), (mbeforea, .inl (cI, 12, .inl mbefore)), (mtolda, .inl (cI, 2, .inl mtold))] sz [.ref mself]) (kQv D [(mself, .inr (7, [.ref msa, .ref mpasta, .ref mhelda, .int mpasts, .int mruns, .ref mtexta, .int mtyped, .ref mchosena, .ref mtimesa, .ref mrestsa, .ref mbeforea, .int mspot, .int mfrom, .int mreason, .int mcause, .int morders, .int mkind, .ref mtolda])), (msa, .inl (cI, 580, .inl ms)), (mpasta, .inl (cI, 2320, .inl mpast)), (mhelda, .inl (cI, 580, .inl mheld)), (mtexta, .inl (cI, 60, .inl mtext)), (mchosena, .inl (cI, 12, .inl zmchosen)), (mtimesa, .inl (cI, 12, .inl zmtimes)), (mrestsa, .inl (cJ, 12, .inr (.inl zmrests))), (mbeforea, .inl (cI, 12, .inl mbefore)), (mtolda, .inl (cI, 2, .inl mtold))] (va_A [(mself, .inr (7, [.ref msa, .ref mpasta, .ref mhelda, .int mpasts, .int mruns, .ref mtexta, .int mtyped, .ref mchosena, .ref mtimesa, .ref mrestsa, .ref mbeforea, .int mspot, .int mfrom, .int mreason, .int mcause, .int morders, .int mkind, .ref mtolda])), (msa, .inl (cI, 580, .inl ms)), (mpasta, .inl (cI, 2320, .inl mpast)), (mhelda, .inl (cI, 580, .inl mheld)), (mtexta, .inl (cI, 60, .inl mtext)), (mchosena, .inl (cI, 12, .inl mchosen)), (mtimesa, .inl (cI, 12, .inl mtimes)), (mrestsa, .inl (cJ, 12, .inr (.inl mrests))), (mbeforea, .inl (cI, 12, .inl mbefore)), (mtolda, .inl (cI, 2, .inl mtold))] sz)) 0 0 (va_A [(mself, .inr (7, [.ref msa, .ref mpasta, .ref mhelda, .int mpasts, .int mruns, .ref mtexta, .int mtyped, .ref mchosena, .ref mtimesa, .ref mrestsa, .ref mbeforea, .int mspot, .int mfrom, .int mreason, .int mcause, .int morders, .int mkind, .ref mtolda])), (msa, .inl (cI, 580, .inl ms)), (mpasta, .inl (cI, 2320, .inl mpast)), (mhelda, .inl (cI, 580, .inl mheld)), (mtexta, .inl (cI, 60, .inl mtext)), (mchosena, .inl (cI, 12, .inl mchosen)), (mtimesa, .inl (cI, 12, .inl mtimes)), (mrestsa, .inl (cJ, 12, .inr (.inl mrests))), (mbeforea, .inl (cI, 12, .inl mbefore)), (mtolda, .inl (cI, 2, .inl mtold))] sz) := by
  refine kM_wv cX7_byTimes 8 (by decide +kernel) rfl rfl (Nat.le_of_ble_eq_true rfl) ⟨rfl, rfl⟩ ?_
  intro p e s m args below meth c Q A ls hx hb hml hown hts hP hK hD hA hS hl hret
  have hk121 := hts _ (List.mem_cons_of_mem _ wl121)
  have hk125 := hts _ (List.mem_cons_of_mem _ wl125)
  have hk126 := hts _ (List.mem_cons_of_mem _ wl126)
  have hk127 := hts _ (List.mem_cons_of_mem _ wl127)
  have hk399 := hts _ (List.mem_cons_of_mem _ wl399)
  have hnX7 : ∀ w ∈ u_ws RX7 TX7 18, w ∈ wz yX7_byTimes cX7_byTimes 8 none := fun w h => List.mem_cons_of_mem _ (inlX7 w h)
  replace hl : lv_has ls 8 [(0, .ref mself)] := hl
  have h := hF
  unfold F_X7_byTimes at h
  refine lv_aload_n (pc := 0) hx hb dX7_byTimes_0 rfl (lv_at hl 0 rfl) ?_
  refine va_get (pc := 1) (D := D) (ci := 7) (v := .ref msa) (C := RX7) (T := TX7) (N := 18) hx hb hts hnX7 hown hK.1 hP 0 rfl rfl 0 (Nat.le_of_ble_eq_true rfl) hk121 (fun _ h9 => h9) rfl dX7_byTimes_1 ?_
  refine lv_iconst (v := 0) (pc := 4) hx hb dX7_byTimes_4 (by decide) ?_
  refine va_iald (pc := 5) hx hb hK.1 hP 1 0 rfl rfl (vp_in_nI (n := 0) (N := 580) (by decide) (by decide)) dX7_byTimes_5 ?_
  refine lv_topi (fun x1 ex1 => ?_)
  replace h := am_let_s ex1 h
  refine lv_istore_n (lv' := [(1, .int x1), (0, .ref mself)]) (pc := 6) hx hb dX7_byTimes_6 rfl hl (by decide) rfl (fun ls hl => ?_)
  refine lv_aload_n (pc := 7) hx hb dX7_byTimes_7 rfl (lv_at hl 1 rfl) ?_
  obtain ⟨r2, hc2, h⟩ := am_bind_s h
  refine kc_Vi (pc := 8) (ci := 7) ⟨hx, hb, hml, hown, hts⟩ hP hK [] (c_X7_sum l D cI cJ mself msa mpasta mhelda mtexta mchosena mtimesa mrestsa mbeforea mtolda mpasts mruns mtyped mspot mfrom mreason mcause morders mkind ms mpast mheld mtext mchosen mtimes mrests mbefore mtold r2 hc2) [0, 1, 2, 3, 4, 5, 6, 7, 8, 9] rfl (cwV 0 hts (gzV wl227 wl228 wl229 wl5 wl230) rfl rfl rfl ⟨rfl, hdX7_sum⟩ ⟨Nat.le_of_ble_eq_true rfl, Nat.le_of_ble_eq_true rfl⟩) rfl rfl [] rfl hl.1 rfl (Nat.le_of_ble_eq_true rfl) dX7_byTimes_8 ⟨Nat.zero_le _, Nat.zero_le _⟩ ?_
  refine lv_i2l (pc := 11) hx hb dX7_byTimes_11 rfl ?_
  refine lv_topl (fun x3 ex3 => ?_)
  replace h := am_let_s ex3 h
  refine lv_lstore_n (lv' := [(2, .long x3), (1, .int x1), (0, .ref mself)]) (pc := 12) hx hb dX7_byTimes_12 rfl hl (by decide) rfl (fun ls hl => ?_)
  refine lv_iload_n (pc := 13) hx hb dX7_byTimes_13 rfl (lv_at hl 1 rfl) ?_
  refine lv_istore (lv' := [(4, .int x1), (2, .long x3), (1, .int x1), (0, .ref mself)]) (pc := 14) hx hb dX7_byTimes_14 hl (by decide) rfl (fun ls hl => ?_)
  refine lv_iconst (v := 0) (pc := 16) hx hb dX7_byTimes_16 (by decide) ?_
  refine lv_istore (lv' := [(5, .int (0 : Int32)), (4, .int x1), (2, .long x3), (1, .int x1), (0, .ref mself)]) (pc := 17) hx hb dX7_byTimes_17 hl (by decide) rfl (fun ls hl => ?_)
  refine am_join3_s (fun (x4 : Int32) (f5 : Nat → Int32) (f6 : Nat → Int64) => ∀ (ls : Array Slot), lv_has ls 8 [(0, .ref mself), (1, .int x1), (4, .int x4)] → ∀ (H : Heap) (locs : List Loc), va_P D vwCl [(mself, .inr (7, [.ref msa, .ref mpasta, .ref mhelda, .int mpasts, .int mruns, .ref mtexta, .int mtyped, .ref mchosena, .ref mtimesa, .ref mrestsa, .ref mbeforea, .int mspot, .int mfrom, .int mreason, .int mcause, .int morders, .int mkind, .ref mtolda])), (msa, .inl (cI, 580, .inl ms)), (mpasta, .inl (cI, 2320, .inl mpast)), (mhelda, .inl (cI, 580, .inl mheld)), (mtexta, .inl (cI, 60, .inl mtext)), (mchosena, .inl (cI, 12, .inl mchosen)), (mtimesa, .inl (cI, 12, .inl f5)), (mrestsa, .inl (cJ, 12, .inr (.inl f6))), (mbeforea, .inl (cI, 12, .inl mbefore)), (mtolda, .inl (cI, 2, .inl mtold))] H → va_D A [(mself, .inr (7, [.ref msa, .ref mpasta, .ref mhelda, .int mpasts, .int mruns, .ref mtexta, .int mtyped, .ref mchosena, .ref mtimesa, .ref mrestsa, .ref mbeforea, .int mspot, .int mfrom, .int mreason, .int mcause, .int morders, .int mkind, .ref mtolda])), (msa, .inl (cI, 580, .inl ms)), (mpasta, .inl (cI, 2320, .inl mpast)), (mhelda, .inl (cI, 580, .inl mheld)), (mtexta, .inl (cI, 60, .inl mtext)), (mchosena, .inl (cI, 12, .inl mchosen)), (mtimesa, .inl (cI, 12, .inl f5)), (mrestsa, .inl (cJ, 12, .inr (.inl f6))), (mbeforea, .inl (cI, 12, .inl mbefore)), (mtolda, .inl (cI, 2, .inl mtold))] → va_S A s.heap H locs → W p l e rmX7_byTimes s m args below meth c H locs 0 0 Q (F0 m 90 ls [])) h (fun x4 f5 f6 h ls hl H locs hP hD hS => ?_) (fun K7 hK7 h => ?_)
  · refine lv_iconst (v := 0) (pc := 90) hx hb dX7_byTimes_90 (by decide) ?_
    refine lv_istore (lv' := [(5, .int (0 : Int32)), (0, .ref mself), (1, .int x1), (4, .int x4)]) (pc := 91) hx hb dX7_byTimes_91 hl (by decide) rfl (fun ls hl => ?_)
    refine am_join2_s (fun (f8 : Nat → Int32) (f9 : Nat → Int64) => ∀ (ls : Array Slot), lv_has ls 8 [(0, .ref mself), (1, .int x1)] → ∀ (H : Heap) (locs : List Loc), va_P D vwCl [(mself, .inr (7, [.ref msa, .ref mpasta, .ref mhelda, .int mpasts, .int mruns, .ref mtexta, .int mtyped, .ref mchosena, .ref mtimesa, .ref mrestsa, .ref mbeforea, .int mspot, .int mfrom, .int mreason, .int mcause, .int morders, .int mkind, .ref mtolda])), (msa, .inl (cI, 580, .inl ms)), (mpasta, .inl (cI, 2320, .inl mpast)), (mhelda, .inl (cI, 580, .inl mheld)), (mtexta, .inl (cI, 60, .inl mtext)), (mchosena, .inl (cI, 12, .inl mchosen)), (mtimesa, .inl (cI, 12, .inl f8)), (mrestsa, .inl (cJ, 12, .inr (.inl f9))), (mbeforea, .inl (cI, 12, .inl mbefore)), (mtolda, .inl (cI, 2, .inl mtold))] H → va_D A [(mself, .inr (7, [.ref msa, .ref mpasta, .ref mhelda, .int mpasts, .int mruns, .ref mtexta, .int mtyped, .ref mchosena, .ref mtimesa, .ref mrestsa, .ref mbeforea, .int mspot, .int mfrom, .int mreason, .int mcause, .int morders, .int mkind, .ref mtolda])), (msa, .inl (cI, 580, .inl ms)), (mpasta, .inl (cI, 2320, .inl mpast)), (mhelda, .inl (cI, 580, .inl mheld)), (mtexta, .inl (cI, 60, .inl mtext)), (mchosena, .inl (cI, 12, .inl mchosen)), (mtimesa, .inl (cI, 12, .inl f8)), (mrestsa, .inl (cJ, 12, .inr (.inl f9))), (mbeforea, .inl (cI, 12, .inl mbefore)), (mtolda, .inl (cI, 2, .inl mtold))] → va_S A s.heap H locs → W p l e rmX7_byTimes s m args below meth c H locs 0 0 Q (F0 m 172 ls [])) h (fun f8 f9 h ls hl H locs hP hD hS => ?_) (fun K10 hK10 h => ?_)
    · refine lv_iconst (v := 0) (pc := 172) hx hb dX7_byTimes_172 (by decide) ?_
      refine lv_istore (lv' := [(5, .int (0 : Int32)), (0, .ref mself), (1, .int x1)]) (pc := 173) hx hb dX7_byTimes_173 hl (by decide) rfl (fun ls hl => ?_)
      refine lv_iconst (v := 0) (pc := 175) hx hb dX7_byTimes_175 (by decide) ?_
      refine lv_istore (lv' := [(6, .int (0 : Int32)), (5, .int (0 : Int32)), (0, .ref mself), (1, .int x1)]) (pc := 176) hx hb dX7_byTimes_176 hl (by decide) rfl (fun ls hl => ?_)
      refine am_join1_s (fun (f11 : Nat → Int32) => ∀ (ls : Array Slot), lv_has ls 8 [] → ∀ (H : Heap) (locs : List Loc), va_P D vwCl [(mself, .inr (7, [.ref msa, .ref mpasta, .ref mhelda, .int mpasts, .int mruns, .ref mtexta, .int mtyped, .ref mchosena, .ref mtimesa, .ref mrestsa, .ref mbeforea, .int mspot, .int mfrom, .int mreason, .int mcause, .int morders, .int mkind, .ref mtolda])), (msa, .inl (cI, 580, .inl ms)), (mpasta, .inl (cI, 2320, .inl mpast)), (mhelda, .inl (cI, 580, .inl mheld)), (mtexta, .inl (cI, 60, .inl mtext)), (mchosena, .inl (cI, 12, .inl f11)), (mtimesa, .inl (cI, 12, .inl f8)), (mrestsa, .inl (cJ, 12, .inr (.inl f9))), (mbeforea, .inl (cI, 12, .inl mbefore)), (mtolda, .inl (cI, 2, .inl mtold))] H → va_D A [(mself, .inr (7, [.ref msa, .ref mpasta, .ref mhelda, .int mpasts, .int mruns, .ref mtexta, .int mtyped, .ref mchosena, .ref mtimesa, .ref mrestsa, .ref mbeforea, .int mspot, .int mfrom, .int mreason, .int mcause, .int morders, .int mkind, .ref mtolda])), (msa, .inl (cI, 580, .inl ms)), (mpasta, .inl (cI, 2320, .inl mpast)), (mhelda, .inl (cI, 580, .inl mheld)), (mtexta, .inl (cI, 60, .inl mtext)), (mchosena, .inl (cI, 12, .inl f11)), (mtimesa, .inl (cI, 12, .inl f8)), (mrestsa, .inl (cJ, 12, .inr (.inl f9))), (mbeforea, .inl (cI, 12, .inl mbefore)), (mtolda, .inl (cI, 2, .inl mtold))] → va_S A s.heap H locs → W p l e rmX7_byTimes s m args below meth c H locs 0 0 Q (F0 m 223 ls [])) h (fun f11 h ls hl H locs hP hD hS => ?_) (fun K12 hK12 h => ?_)
      · obtain ⟨e1, e2, e3⟩ := am_ret3 h
        exact hret _ _ _ _ dX7_byTimes_223 (by rw [← e1, ← e2, ← e3]; exact hP) hS
      refine am_loop3_s (fun (x13 : Int32) (x14 : Int32) (f15 : Nat → Int32) => ∀ (ls : Array Slot), lv_has ls 8 [(0, .ref mself), (1, .int x1), (5, .int x13), (6, .int x14)] → ∀ (H : Heap) (locs : List Loc), va_P D vwCl [(mself, .inr (7, [.ref msa, .ref mpasta, .ref mhelda, .int mpasts, .int mruns, .ref mtexta, .int mtyped, .ref mchosena, .ref mtimesa, .ref mrestsa, .ref mbeforea, .int mspot, .int mfrom, .int mreason, .int mcause, .int morders, .int mkind, .ref mtolda])), (msa, .inl (cI, 580, .inl ms)), (mpasta, .inl (cI, 2320, .inl mpast)), (mhelda, .inl (cI, 580, .inl mheld)), (mtexta, .inl (cI, 60, .inl mtext)), (mchosena, .inl (cI, 12, .inl f15)), (mtimesa, .inl (cI, 12, .inl f8)), (mrestsa, .inl (cJ, 12, .inr (.inl f9))), (mbeforea, .inl (cI, 12, .inl mbefore)), (mtolda, .inl (cI, 2, .inl mtold))] H → va_D A [(mself, .inr (7, [.ref msa, .ref mpasta, .ref mhelda, .int mpasts, .int mruns, .ref mtexta, .int mtyped, .ref mchosena, .ref mtimesa, .ref mrestsa, .ref mbeforea, .int mspot, .int mfrom, .int mreason, .int mcause, .int morders, .int mkind, .ref mtolda])), (msa, .inl (cI, 580, .inl ms)), (mpasta, .inl (cI, 2320, .inl mpast)), (mhelda, .inl (cI, 580, .inl mheld)), (mtexta, .inl (cI, 60, .inl mtext)), (mchosena, .inl (cI, 12, .inl f15)), (mtimesa, .inl (cI, 12, .inl f8)), (mrestsa, .inl (cJ, 12, .inr (.inl f9))), (mbeforea, .inl (cI, 12, .inl mbefore)), (mtolda, .inl (cI, 2, .inl mtold))] → va_S A s.heap H locs → W p l e rmX7_byTimes s m args below meth c H locs 0 0 Q (F0 m 178 ls [])) (fun rec16 ihrec16 x13 x14 f15 h ls hl H locs hP hD hS => ?_) _ _ _ _ h ls (lv_sub hl [2, 3, 1, 0] rfl) H locs hP hD hS
      unfold F_X7_byTimes_B178 at h
      refine lv_iload (pc := 178) hx hb dX7_byTimes_178 (lv_at hl 3 rfl) ?_
      refine lv_iload_n (pc := 180) hx hb dX7_byTimes_180 rfl (lv_at hl 1 rfl) ?_
      refine lv_icmp_ge (pc := 181) (tgt := 223) hx hb dX7_byTimes_181 (by decide) (fun cc => ?_) (fun cc => ?_)
      · replace h := am_t cc h
        exact hK12 _ h ls (lv_sub hl [] rfl) H locs hP hD hS
      replace h := am_f cc h
      refine lv_iconst (v := 0) (pc := 184) hx hb dX7_byTimes_184 (by decide) ?_
      refine lv_istore (lv' := [(7, .int (0 : Int32)), (0, .ref mself), (1, .int x1), (5, .int x13), (6, .int x14)]) (pc := 185) hx hb dX7_byTimes_185 hl (by decide) rfl (fun ls hl => ?_)
      refine am_join2_s (fun (x17 : Int32) (f18 : Nat → Int32) => ∀ (ls : Array Slot), lv_has ls 8 [(0, .ref mself), (1, .int x1), (5, .int x17), (6, .int x14)] → ∀ (H : Heap) (locs : List Loc), va_P D vwCl [(mself, .inr (7, [.ref msa, .ref mpasta, .ref mhelda, .int mpasts, .int mruns, .ref mtexta, .int mtyped, .ref mchosena, .ref mtimesa, .ref mrestsa, .ref mbeforea, .int mspot, .int mfrom, .int mreason, .int mcause, .int morders, .int mkind, .ref mtolda])), (msa, .inl (cI, 580, .inl ms)), (mpasta, .inl (cI, 2320, .inl mpast)), (mhelda, .inl (cI, 580, .inl mheld)), (mtexta, .inl (cI, 60, .inl mtext)), (mchosena, .inl (cI, 12, .inl f18)), (mtimesa, .inl (cI, 12, .inl f8)), (mrestsa, .inl (cJ, 12, .inr (.inl f9))), (mbeforea, .inl (cI, 12, .inl mbefore)), (mtolda, .inl (cI, 2, .inl mtold))] H → va_D A [(mself, .inr (7, [.ref msa, .ref mpasta, .ref mhelda, .int mpasts, .int mruns, .ref mtexta, .int mtyped, .ref mchosena, .ref mtimesa, .ref mrestsa, .ref mbeforea, .int mspot, .int mfrom, .int mreason, .int mcause, .int morders, .int mkind, .ref mtolda])), (msa, .inl (cI, 580, .inl ms)), (mpasta, .inl (cI, 2320, .inl mpast)), (mhelda, .inl (cI, 580, .inl mheld)), (mtexta, .inl (cI, 60, .inl mtext)), (mchosena, .inl (cI, 12, .inl f18)), (mtimesa, .inl (cI, 12, .inl f8)), (mrestsa, .inl (cJ, 12, .inr (.inl f9))), (mbeforea, .inl (cI, 12, .inl mbefore)), (mtolda, .inl (cI, 2, .inl mtold))] → va_S A s.heap H locs → W p l e rmX7_byTimes s m args below meth c H locs 0 0 Q (F0 m 217 ls [])) h (fun x17 f18 h ls hl H locs hP hD hS => ?_) (fun K19 hK19 h => ?_)
      · obtain ⟨x20, ex20⟩ : ∃ y : Int32, y = (x14 + (1 : Int32)) := ⟨_, rfl⟩
        replace h := am_let_s ex20 h
        refine lv_iinc (pc := 217) (v := x20) (lv' := [(6, .int x20), (0, .ref mself), (1, .int x1), (5, .int x17)]) hx hb dX7_byTimes_217 hl (k := 3) rfl (by rw [ex20]; rfl) (by decide) rfl (fun ls hl => ?_)
        refine lv_goto (pc := 220) (tgt := 178) hx hb dX7_byTimes_220 (by decide) ?_
        exact ihrec16 _ _ _ h ls (lv_sub hl [1, 2, 3, 0] rfl) H locs hP hD hS
      refine am_loop3_s (fun (x21 : Int32) (x22 : Int32) (f23 : Nat → Int32) => ∀ (ls : Array Slot), lv_has ls 8 [(0, .ref mself), (1, .int x1), (5, .int x21), (6, .int x14), (7, .int x22)] → ∀ (H : Heap) (locs : List Loc), va_P D vwCl [(mself, .inr (7, [.ref msa, .ref mpasta, .ref mhelda, .int mpasts, .int mruns, .ref mtexta, .int mtyped, .ref mchosena, .ref mtimesa, .ref mrestsa, .ref mbeforea, .int mspot, .int mfrom, .int mreason, .int mcause, .int morders, .int mkind, .ref mtolda])), (msa, .inl (cI, 580, .inl ms)), (mpasta, .inl (cI, 2320, .inl mpast)), (mhelda, .inl (cI, 580, .inl mheld)), (mtexta, .inl (cI, 60, .inl mtext)), (mchosena, .inl (cI, 12, .inl f23)), (mtimesa, .inl (cI, 12, .inl f8)), (mrestsa, .inl (cJ, 12, .inr (.inl f9))), (mbeforea, .inl (cI, 12, .inl mbefore)), (mtolda, .inl (cI, 2, .inl mtold))] H → va_D A [(mself, .inr (7, [.ref msa, .ref mpasta, .ref mhelda, .int mpasts, .int mruns, .ref mtexta, .int mtyped, .ref mchosena, .ref mtimesa, .ref mrestsa, .ref mbeforea, .int mspot, .int mfrom, .int mreason, .int mcause, .int morders, .int mkind, .ref mtolda])), (msa, .inl (cI, 580, .inl ms)), (mpasta, .inl (cI, 2320, .inl mpast)), (mhelda, .inl (cI, 580, .inl mheld)), (mtexta, .inl (cI, 60, .inl mtext)), (mchosena, .inl (cI, 12, .inl f23)), (mtimesa, .inl (cI, 12, .inl f8)), (mrestsa, .inl (cJ, 12, .inr (.inl f9))), (mbeforea, .inl (cI, 12, .inl mbefore)), (mtolda, .inl (cI, 2, .inl mtold))] → va_S A s.heap H locs → W p l e rmX7_byTimes s m args below meth c H locs 0 0 Q (F0 m 187 ls [])) (fun rec24 ihrec24 x21 x22 f23 h ls hl H locs hP hD hS => ?_) _ _ _ _ h ls (lv_sub hl [1, 2, 3, 4, 0] rfl) H locs hP hD hS
      unfold F_X7_byTimes_B187 at h
      refine lv_iload (pc := 187) hx hb dX7_byTimes_187 (lv_at hl 4 rfl) ?_
      refine lv_aload_n (pc := 189) hx hb dX7_byTimes_189 rfl (lv_at hl 0 rfl) ?_
      refine va_get (pc := 190) (D := D) (ci := 7) (v := .ref mtimesa) (C := RX7) (T := TX7) (N := 18) hx hb hts hnX7 hown hK.1 hP 0 rfl rfl 8 (Nat.le_of_ble_eq_true rfl) hk126 (fun _ h9 => h9) rfl dX7_byTimes_190 ?_
      refine lv_iload (pc := 193) hx hb dX7_byTimes_193 (lv_at hl 3 rfl) ?_
      obtain ⟨hi, h⟩ := am_in_s h
      refine va_iald (pc := 195) hx hb hK.1 hP 6 0 rfl rfl hi dX7_byTimes_195 ?_
      refine lv_icmp_ge (pc := 196) (tgt := 217) hx hb dX7_byTimes_196 (by decide) (fun cc => ?_) (fun cc => ?_)
      · replace h := am_t cc h
        exact hK19 _ _ h ls (lv_sub hl [0, 1, 2, 3] rfl) H locs hP hD hS
      replace h := am_f cc h
      refine lv_aload_n (pc := 199) hx hb dX7_byTimes_199 rfl (lv_at hl 0 rfl) ?_
      refine va_get (pc := 200) (D := D) (ci := 7) (v := .ref mchosena) (C := RX7) (T := TX7) (N := 18) hx hb hts hnX7 hown hK.1 hP 0 rfl rfl 7 (Nat.le_of_ble_eq_true rfl) hk125 (fun _ h9 => h9) rfl dX7_byTimes_200 ?_
      refine lv_iload (pc := 203) hx hb dX7_byTimes_203 (lv_at hl 2 rfl) ?_
      refine lv_iload (pc := 205) hx hb dX7_byTimes_205 (lv_at hl 3 rfl) ?_
      obtain ⟨hi, h⟩ := am_in_s h
      obtain ⟨f25, ef25⟩ : ∃ y : Nat → Int32, y = (upd f23 x21.toNatClampNeg x14) := ⟨_, rfl⟩
      replace h := am_let_s ef25 h
      refine va_iast (pc := 207) hx hb hK.1 hP hD hS 5 0 rfl rfl hi dX7_byTimes_207 (fun H locs hP hD hS => ?_)
      rw [← ef25] at hP hD
      replace hP : va_P D vwCl [(mself, .inr (7, [.ref msa, .ref mpasta, .ref mhelda, .int mpasts, .int mruns, .ref mtexta, .int mtyped, .ref mchosena, .ref mtimesa, .ref mrestsa, .ref mbeforea, .int mspot, .int mfrom, .int mreason, .int mcause, .int morders, .int mkind, .ref mtolda])), (msa, .inl (cI, 580, .inl ms)), (mpasta, .inl (cI, 2320, .inl mpast)), (mhelda, .inl (cI, 580, .inl mheld)), (mtexta, .inl (cI, 60, .inl mtext)), (mchosena, .inl (cI, 12, .inl f25)), (mtimesa, .inl (cI, 12, .inl f8)), (mrestsa, .inl (cJ, 12, .inr (.inl f9))), (mbeforea, .inl (cI, 12, .inl mbefore)), (mtolda, .inl (cI, 2, .inl mtold))] H := hP
      replace hD : va_D A [(mself, .inr (7, [.ref msa, .ref mpasta, .ref mhelda, .int mpasts, .int mruns, .ref mtexta, .int mtyped, .ref mchosena, .ref mtimesa, .ref mrestsa, .ref mbeforea, .int mspot, .int mfrom, .int mreason, .int mcause, .int morders, .int mkind, .ref mtolda])), (msa, .inl (cI, 580, .inl ms)), (mpasta, .inl (cI, 2320, .inl mpast)), (mhelda, .inl (cI, 580, .inl mheld)), (mtexta, .inl (cI, 60, .inl mtext)), (mchosena, .inl (cI, 12, .inl f25)), (mtimesa, .inl (cI, 12, .inl f8)), (mrestsa, .inl (cJ, 12, .inr (.inl f9))), (mbeforea, .inl (cI, 12, .inl mbefore)), (mtolda, .inl (cI, 2, .inl mtold))] := hD
      obtain ⟨x26, ex26⟩ : ∃ y : Int32, y = (x21 + (1 : Int32)) := ⟨_, rfl⟩
      replace h := am_let_s ex26 h
      refine lv_iinc (pc := 208) (v := x26) (lv' := [(5, .int x26), (0, .ref mself), (1, .int x1), (6, .int x14), (7, .int x22)]) hx hb dX7_byTimes_208 hl (k := 2) rfl (by rw [ex26]; rfl) (by decide) rfl (fun ls hl => ?_)
      obtain ⟨x27, ex27⟩ : ∃ y : Int32, y = (x22 + (1 : Int32)) := ⟨_, rfl⟩
      replace h := am_let_s ex27 h
      refine lv_iinc (pc := 211) (v := x27) (lv' := [(7, .int x27), (5, .int x26), (0, .ref mself), (1, .int x1), (6, .int x14)]) hx hb dX7_byTimes_211 hl (k := 4) rfl (by rw [ex27]; rfl) (by decide) rfl (fun ls hl => ?_)
      refine lv_goto (pc := 214) (tgt := 187) hx hb dX7_byTimes_214 (by decide) ?_
      exact ihrec24 _ _ _ h ls (lv_sub hl [2, 3, 1, 4, 0] rfl) H locs hP hD hS
    refine am_loop3_s (fun (x28 : Int32) (f29 : Nat → Int32) (f30 : Nat → Int64) => ∀ (ls : Array Slot), lv_has ls 8 [(0, .ref mself), (1, .int x1), (4, .int x4), (5, .int x28)] → ∀ (H : Heap) (locs : List Loc), va_P D vwCl [(mself, .inr (7, [.ref msa, .ref mpasta, .ref mhelda, .int mpasts, .int mruns, .ref mtexta, .int mtyped, .ref mchosena, .ref mtimesa, .ref mrestsa, .ref mbeforea, .int mspot, .int mfrom, .int mreason, .int mcause, .int morders, .int mkind, .ref mtolda])), (msa, .inl (cI, 580, .inl ms)), (mpasta, .inl (cI, 2320, .inl mpast)), (mhelda, .inl (cI, 580, .inl mheld)), (mtexta, .inl (cI, 60, .inl mtext)), (mchosena, .inl (cI, 12, .inl mchosen)), (mtimesa, .inl (cI, 12, .inl f29)), (mrestsa, .inl (cJ, 12, .inr (.inl f30))), (mbeforea, .inl (cI, 12, .inl mbefore)), (mtolda, .inl (cI, 2, .inl mtold))] H → va_D A [(mself, .inr (7, [.ref msa, .ref mpasta, .ref mhelda, .int mpasts, .int mruns, .ref mtexta, .int mtyped, .ref mchosena, .ref mtimesa, .ref mrestsa, .ref mbeforea, .int mspot, .int mfrom, .int mreason, .int mcause, .int morders, .int mkind, .ref mtolda])), (msa, .inl (cI, 580, .inl ms)), (mpasta, .inl (cI, 2320, .inl mpast)), (mhelda, .inl (cI, 580, .inl mheld)), (mtexta, .inl (cI, 60, .inl mtext)), (mchosena, .inl (cI, 12, .inl mchosen)), (mtimesa, .inl (cI, 12, .inl f29)), (mrestsa, .inl (cJ, 12, .inr (.inl f30))), (mbeforea, .inl (cI, 12, .inl mbefore)), (mtolda, .inl (cI, 2, .inl mtold))] → va_S A s.heap H locs → W p l e rmX7_byTimes s m args below meth c H locs 0 0 Q (F0 m 93 ls [])) (fun rec31 ihrec31 x28 f29 f30 h ls hl H locs hP hD hS => ?_) _ _ _ _ h ls (lv_sub hl [1, 2, 3, 0] rfl) H locs hP hD hS
    unfold F_X7_byTimes_B93 at h
    refine lv_iload (pc := 93) hx hb dX7_byTimes_93 (lv_at hl 3 rfl) ?_
    refine lv_iload (pc := 95) hx hb dX7_byTimes_95 (lv_at hl 2 rfl) ?_
    refine lv_icmp_ge (pc := 97) (tgt := 172) hx hb dX7_byTimes_97 (by decide) (fun cc => ?_) (fun cc => ?_)
    · replace h := am_t cc h
      exact hK10 _ _ h ls (lv_sub hl [0, 1] rfl) H locs hP hD hS
    replace h := am_f cc h
    refine lv_iconst (v := 0) (pc := 100) hx hb dX7_byTimes_100 (by decide) ?_
    refine lv_istore (lv' := [(6, .int (0 : Int32)), (0, .ref mself), (1, .int x1), (4, .int x4), (5, .int x28)]) (pc := 101) hx hb dX7_byTimes_101 hl (by decide) rfl (fun ls hl => ?_)
    refine lv_iconst (v := 1) (pc := 103) hx hb dX7_byTimes_103 (by decide) ?_
    refine lv_istore (lv' := [(7, .int (1 : Int32)), (6, .int (0 : Int32)), (0, .ref mself), (1, .int x1), (4, .int x4), (5, .int x28)]) (pc := 104) hx hb dX7_byTimes_104 hl (by decide) rfl (fun ls hl => ?_)
    refine am_join1_s (fun (x32 : Int32) => ∀ (ls : Array Slot), lv_has ls 8 [(0, .ref mself), (1, .int x1), (4, .int x4), (5, .int x28), (6, .int x32)] → W p l e rmX7_byTimes s m args below meth c H locs 0 0 Q (F0 m 145 ls [])) h (fun x32 h ls hl => ?_) (fun K33 hK33 h => ?_)
    · refine lv_aload_n (pc := 145) hx hb dX7_byTimes_145 rfl (lv_at hl 0 rfl) ?_
      refine va_get (pc := 146) (D := D) (ci := 7) (v := .ref mrestsa) (C := RX7) (T := TX7) (N := 18) hx hb hts hnX7 hown hK.1 hP 0 rfl rfl 9 (Nat.le_of_ble_eq_true rfl) hk127 (fun _ h9 => h9) rfl dX7_byTimes_146 ?_
      refine lv_iload (pc := 149) hx hb dX7_byTimes_149 (lv_at hl 4 rfl) ?_
      refine lv_ldc2 (pc := 151) hx hb hown hk399 dX7_byTimes_151 ?_
      obtain ⟨hi, h⟩ := am_in_s h
      obtain ⟨f34, ef34⟩ : ∃ y : Nat → Int64, y = (vp_updL f30 x32.toNatClampNeg (-1 : Int64)) := ⟨_, rfl⟩
      replace h := am_let_s ef34 h
      refine va_last (pc := 154) hx hb hK.1 hP hD hS 7 1 rfl rfl hi dX7_byTimes_154 (fun H locs hP hD hS => ?_)
      rw [← ef34] at hP hD
      replace hP : va_P D vwCl [(mself, .inr (7, [.ref msa, .ref mpasta, .ref mhelda, .int mpasts, .int mruns, .ref mtexta, .int mtyped, .ref mchosena, .ref mtimesa, .ref mrestsa, .ref mbeforea, .int mspot, .int mfrom, .int mreason, .int mcause, .int morders, .int mkind, .ref mtolda])), (msa, .inl (cI, 580, .inl ms)), (mpasta, .inl (cI, 2320, .inl mpast)), (mhelda, .inl (cI, 580, .inl mheld)), (mtexta, .inl (cI, 60, .inl mtext)), (mchosena, .inl (cI, 12, .inl mchosen)), (mtimesa, .inl (cI, 12, .inl f29)), (mrestsa, .inl (cJ, 12, .inr (.inl f34))), (mbeforea, .inl (cI, 12, .inl mbefore)), (mtolda, .inl (cI, 2, .inl mtold))] H := hP
      replace hD : va_D A [(mself, .inr (7, [.ref msa, .ref mpasta, .ref mhelda, .int mpasts, .int mruns, .ref mtexta, .int mtyped, .ref mchosena, .ref mtimesa, .ref mrestsa, .ref mbeforea, .int mspot, .int mfrom, .int mreason, .int mcause, .int morders, .int mkind, .ref mtolda])), (msa, .inl (cI, 580, .inl ms)), (mpasta, .inl (cI, 2320, .inl mpast)), (mhelda, .inl (cI, 580, .inl mheld)), (mtexta, .inl (cI, 60, .inl mtext)), (mchosena, .inl (cI, 12, .inl mchosen)), (mtimesa, .inl (cI, 12, .inl f29)), (mrestsa, .inl (cJ, 12, .inr (.inl f34))), (mbeforea, .inl (cI, 12, .inl mbefore)), (mtolda, .inl (cI, 2, .inl mtold))] := hD
      refine lv_aload_n (pc := 155) hx hb dX7_byTimes_155 rfl (lv_at hl 0 rfl) ?_
      refine va_get (pc := 156) (D := D) (ci := 7) (v := .ref mtimesa) (C := RX7) (T := TX7) (N := 18) hx hb hts hnX7 hown hK.1 hP 0 rfl rfl 8 (Nat.le_of_ble_eq_true rfl) hk126 (fun _ h9 => h9) rfl dX7_byTimes_156 ?_
      refine lv_iload (pc := 159) hx hb dX7_byTimes_159 (lv_at hl 4 rfl) ?_
      refine lv_dup2_11 (pc := 161) hx hb dX7_byTimes_161 rfl rfl ?_
      obtain ⟨hi, h⟩ := am_in_s h
      refine va_iald (pc := 162) hx hb hK.1 hP 6 0 rfl rfl hi dX7_byTimes_162 ?_
      refine lv_iconst (v := 1) (pc := 163) hx hb dX7_byTimes_163 (by decide) ?_
      refine lv_iadd (pc := 164) hx hb dX7_byTimes_164 ?_
      obtain ⟨hi, h⟩ := am_in_s h
      obtain ⟨f35, ef35⟩ : ∃ y : Nat → Int32, y = (upd f29 x32.toNatClampNeg ((f29 x32.toNatClampNeg) + (1 : Int32))) := ⟨_, rfl⟩
      replace h := am_let_s ef35 h
      refine va_iast (pc := 165) hx hb hK.1 hP hD hS 6 0 rfl rfl hi dX7_byTimes_165 (fun H locs hP hD hS => ?_)
      rw [← ef35] at hP hD
      replace hP : va_P D vwCl [(mself, .inr (7, [.ref msa, .ref mpasta, .ref mhelda, .int mpasts, .int mruns, .ref mtexta, .int mtyped, .ref mchosena, .ref mtimesa, .ref mrestsa, .ref mbeforea, .int mspot, .int mfrom, .int mreason, .int mcause, .int morders, .int mkind, .ref mtolda])), (msa, .inl (cI, 580, .inl ms)), (mpasta, .inl (cI, 2320, .inl mpast)), (mhelda, .inl (cI, 580, .inl mheld)), (mtexta, .inl (cI, 60, .inl mtext)), (mchosena, .inl (cI, 12, .inl mchosen)), (mtimesa, .inl (cI, 12, .inl f35)), (mrestsa, .inl (cJ, 12, .inr (.inl f34))), (mbeforea, .inl (cI, 12, .inl mbefore)), (mtolda, .inl (cI, 2, .inl mtold))] H := hP
      replace hD : va_D A [(mself, .inr (7, [.ref msa, .ref mpasta, .ref mhelda, .int mpasts, .int mruns, .ref mtexta, .int mtyped, .ref mchosena, .ref mtimesa, .ref mrestsa, .ref mbeforea, .int mspot, .int mfrom, .int mreason, .int mcause, .int morders, .int mkind, .ref mtolda])), (msa, .inl (cI, 580, .inl ms)), (mpasta, .inl (cI, 2320, .inl mpast)), (mhelda, .inl (cI, 580, .inl mheld)), (mtexta, .inl (cI, 60, .inl mtext)), (mchosena, .inl (cI, 12, .inl mchosen)), (mtimesa, .inl (cI, 12, .inl f35)), (mrestsa, .inl (cJ, 12, .inr (.inl f34))), (mbeforea, .inl (cI, 12, .inl mbefore)), (mtolda, .inl (cI, 2, .inl mtold))] := hD
      obtain ⟨x36, ex36⟩ : ∃ y : Int32, y = (x28 + (1 : Int32)) := ⟨_, rfl⟩
      replace h := am_let_s ex36 h
      refine lv_iinc (pc := 166) (v := x36) (lv' := [(5, .int x36), (0, .ref mself), (1, .int x1), (4, .int x4), (6, .int x32)]) hx hb dX7_byTimes_166 hl (k := 3) rfl (by rw [ex36]; rfl) (by decide) rfl (fun ls hl => ?_)
      refine lv_goto (pc := 169) (tgt := 93) hx hb dX7_byTimes_169 (by decide) ?_
      exact ihrec31 _ _ _ h ls (lv_sub hl [1, 2, 3, 0] rfl) H locs hP hD hS
    refine am_loop2_s (fun (x37 : Int32) (x38 : Int32) => ∀ (ls : Array Slot), lv_has ls 8 [(0, .ref mself), (1, .int x1), (4, .int x4), (5, .int x28), (6, .int x37), (7, .int x38)] → W p l e rmX7_byTimes s m args below meth c H locs 0 0 Q (F0 m 106 ls [])) (fun rec39 ihrec39 x37 x38 h ls hl => ?_) _ _ _ h ls (lv_sub hl [2, 3, 4, 5, 1, 0] rfl)
    unfold F_X7_byTimes_B106 at h
    refine lv_iload (pc := 106) hx hb dX7_byTimes_106 (lv_at hl 5 rfl) ?_
    refine lv_iload_n (pc := 108) hx hb dX7_byTimes_108 rfl (lv_at hl 1 rfl) ?_
    refine lv_icmp_ge (pc := 109) (tgt := 145) hx hb dX7_byTimes_109 (by decide) (fun cc => ?_) (fun cc => ?_)
    · replace h := am_t cc h
      exact hK33 _ h ls (lv_sub hl [0, 1, 2, 3, 4] rfl)
    replace h := am_f cc h
    refine lv_aload_n (pc := 112) hx hb dX7_byTimes_112 rfl (lv_at hl 0 rfl) ?_
    refine va_get (pc := 113) (D := D) (ci := 7) (v := .ref mrestsa) (C := RX7) (T := TX7) (N := 18) hx hb hts hnX7 hown hK.1 hP 0 rfl rfl 9 (Nat.le_of_ble_eq_true rfl) hk127 (fun _ h9 => h9) rfl dX7_byTimes_113 ?_
    refine lv_iload (pc := 116) hx hb dX7_byTimes_116 (lv_at hl 5 rfl) ?_
    obtain ⟨hi, h⟩ := am_in_s h
    refine va_lald (pc := 118) hx hb hK.1 hP 7 1 rfl rfl hi dX7_byTimes_118 ?_
    refine lv_aload_n (pc := 119) hx hb dX7_byTimes_119 rfl (lv_at hl 0 rfl) ?_
    refine va_get (pc := 120) (D := D) (ci := 7) (v := .ref mrestsa) (C := RX7) (T := TX7) (N := 18) hx hb hts hnX7 hown hK.1 hP 0 rfl rfl 9 (Nat.le_of_ble_eq_true rfl) hk127 (fun _ h9 => h9) rfl dX7_byTimes_120 ?_
    refine lv_iload (pc := 123) hx hb dX7_byTimes_123 (lv_at hl 4 rfl) ?_
    obtain ⟨hi, h⟩ := am_in_s h
    refine va_lald (pc := 125) hx hb hK.1 hP 7 1 rfl rfl hi dX7_byTimes_125 ?_
    refine W.lcmp (pc := 126) hx hb dX7_byTimes_126 ?_
    refine lv_if_le (pc := 127) (tgt := 135) hx hb dX7_byTimes_127 (by decide) (fun cc => ?_) (fun cc => ?_)
    · replace h := am_t cc h
      refine lv_iload (pc := 135) hx hb dX7_byTimes_135 (lv_at hl 4 rfl) ?_
      refine lv_istore (lv' := [(6, .int x37), (0, .ref mself), (1, .int x1), (4, .int x4), (5, .int x28), (7, .int x38)]) (pc := 137) hx hb dX7_byTimes_137 hl (by decide) rfl (fun ls hl => ?_)
      obtain ⟨x40, ex40⟩ : ∃ y : Int32, y = (x38 + (1 : Int32)) := ⟨_, rfl⟩
      replace h := am_let_s ex40 h
      refine lv_iinc (pc := 139) (v := x40) (lv' := [(7, .int x40), (6, .int x37), (0, .ref mself), (1, .int x1), (4, .int x4), (5, .int x28)]) hx hb dX7_byTimes_139 hl (k := 5) rfl (by rw [ex40]; rfl) (by decide) rfl (fun ls hl => ?_)
      refine lv_goto (pc := 142) (tgt := 106) hx hb dX7_byTimes_142 (by decide) ?_
      exact ihrec39 _ _ h ls (lv_sub hl [2, 3, 4, 5, 1, 0] rfl)
    replace h := am_f cc h
    refine lv_iload (pc := 130) hx hb dX7_byTimes_130 (lv_at hl 5 rfl) ?_
    refine lv_goto (pc := 132) (tgt := 137) hx hb dX7_byTimes_132 (by decide) ?_
    refine lv_istore (lv' := [(6, .int x38), (0, .ref mself), (1, .int x1), (4, .int x4), (5, .int x28), (7, .int x38)]) (pc := 137) hx hb dX7_byTimes_137 hl (by decide) rfl (fun ls hl => ?_)
    obtain ⟨x41, ex41⟩ : ∃ y : Int32, y = (x38 + (1 : Int32)) := ⟨_, rfl⟩
    replace h := am_let_s ex41 h
    refine lv_iinc (pc := 139) (v := x41) (lv' := [(7, .int x41), (6, .int x38), (0, .ref mself), (1, .int x1), (4, .int x4), (5, .int x28)]) hx hb dX7_byTimes_139 hl (k := 5) rfl (by rw [ex41]; rfl) (by decide) rfl (fun ls hl => ?_)
    refine lv_goto (pc := 142) (tgt := 106) hx hb dX7_byTimes_142 (by decide) ?_
    exact ihrec39 _ _ h ls (lv_sub hl [2, 3, 4, 5, 1, 0] rfl)
  refine am_loop4_s (fun (x42 : Int32) (x43 : Int32) (f44 : Nat → Int32) (f45 : Nat → Int64) => ∀ (ls : Array Slot), lv_has ls 8 [(0, .ref mself), (1, .int x1), (2, .long x3), (4, .int x42), (5, .int x43)] → ∀ (H : Heap) (locs : List Loc), va_P D vwCl [(mself, .inr (7, [.ref msa, .ref mpasta, .ref mhelda, .int mpasts, .int mruns, .ref mtexta, .int mtyped, .ref mchosena, .ref mtimesa, .ref mrestsa, .ref mbeforea, .int mspot, .int mfrom, .int mreason, .int mcause, .int morders, .int mkind, .ref mtolda])), (msa, .inl (cI, 580, .inl ms)), (mpasta, .inl (cI, 2320, .inl mpast)), (mhelda, .inl (cI, 580, .inl mheld)), (mtexta, .inl (cI, 60, .inl mtext)), (mchosena, .inl (cI, 12, .inl mchosen)), (mtimesa, .inl (cI, 12, .inl f44)), (mrestsa, .inl (cJ, 12, .inr (.inl f45))), (mbeforea, .inl (cI, 12, .inl mbefore)), (mtolda, .inl (cI, 2, .inl mtold))] H → va_D A [(mself, .inr (7, [.ref msa, .ref mpasta, .ref mhelda, .int mpasts, .int mruns, .ref mtexta, .int mtyped, .ref mchosena, .ref mtimesa, .ref mrestsa, .ref mbeforea, .int mspot, .int mfrom, .int mreason, .int mcause, .int morders, .int mkind, .ref mtolda])), (msa, .inl (cI, 580, .inl ms)), (mpasta, .inl (cI, 2320, .inl mpast)), (mhelda, .inl (cI, 580, .inl mheld)), (mtexta, .inl (cI, 60, .inl mtext)), (mchosena, .inl (cI, 12, .inl mchosen)), (mtimesa, .inl (cI, 12, .inl f44)), (mrestsa, .inl (cJ, 12, .inr (.inl f45))), (mbeforea, .inl (cI, 12, .inl mbefore)), (mtolda, .inl (cI, 2, .inl mtold))] → va_S A s.heap H locs → W p l e rmX7_byTimes s m args below meth c H locs 0 0 Q (F0 m 19 ls [])) (fun rec46 ihrec46 x42 x43 f44 f45 h ls hl H locs hP hD hS => ?_) _ _ _ _ _ h ls (lv_sub hl [4, 3, 2, 1, 0] rfl) s.heap [] hP hD hS
  unfold F_X7_byTimes_B19 at h
  refine lv_iload (pc := 19) hx hb dX7_byTimes_19 (lv_at hl 4 rfl) ?_
  refine lv_iload_n (pc := 21) hx hb dX7_byTimes_21 rfl (lv_at hl 1 rfl) ?_
  refine lv_icmp_ge (pc := 22) (tgt := 90) hx hb dX7_byTimes_22 (by decide) (fun cc => ?_) (fun cc => ?_)
  · replace h := am_t cc h
    exact hK7 _ _ _ h ls (lv_sub hl [0, 1, 3] rfl) H locs hP hD hS
  replace h := am_f cc h
  refine lv_aload_n (pc := 25) hx hb dX7_byTimes_25 rfl (lv_at hl 0 rfl) ?_
  refine va_get (pc := 26) (D := D) (ci := 7) (v := .ref mtimesa) (C := RX7) (T := TX7) (N := 18) hx hb hts hnX7 hown hK.1 hP 0 rfl rfl 8 (Nat.le_of_ble_eq_true rfl) hk126 (fun _ h9 => h9) rfl dX7_byTimes_26 ?_
  refine lv_iload (pc := 29) hx hb dX7_byTimes_29 (lv_at hl 4 rfl) ?_
  refine lv_iload_n (pc := 31) hx hb dX7_byTimes_31 rfl (lv_at hl 1 rfl) ?_
  refine lv_i2l (pc := 32) hx hb dX7_byTimes_32 rfl ?_
  refine lv_aload_n (pc := 33) hx hb dX7_byTimes_33 rfl (lv_at hl 0 rfl) ?_
  refine va_get (pc := 34) (D := D) (ci := 7) (v := .ref msa) (C := RX7) (T := TX7) (N := 18) hx hb hts hnX7 hown hK.1 hP 0 rfl rfl 0 (Nat.le_of_ble_eq_true rfl) hk121 (fun _ h9 => h9) rfl dX7_byTimes_34 ?_
  refine lv_bipush (v := 8) (pc := 37) hx hb dX7_byTimes_37 (by decide) ?_
  refine lv_iload (pc := 39) hx hb dX7_byTimes_39 (lv_at hl 4 rfl) ?_
  refine lv_iadd (pc := 41) hx hb dX7_byTimes_41 ?_
  obtain ⟨hi, h⟩ := am_in_s h
  refine va_iald (pc := 42) hx hb hK.1 hP 1 0 rfl rfl hi dX7_byTimes_42 ?_
  refine lv_i2l (pc := 43) hx hb dX7_byTimes_43 rfl ?_
  refine lv_lmul (pc := 44) hx hb dX7_byTimes_44 ?_
  refine lv_lload_n (pc := 45) hx hb dX7_byTimes_45 rfl (lv_at hl 2 rfl) ?_
  obtain ⟨hz, h⟩ := am_nzl_s h
  refine lv_ldiv (pc := 46) hx hb dX7_byTimes_46 hz ?_
  refine lv_l2i (pc := 47) hx hb dX7_byTimes_47 rfl ?_
  obtain ⟨hi, h⟩ := am_in_s h
  obtain ⟨f47, ef47⟩ : ∃ y : Nat → Int32, y = (upd f44 x43.toNatClampNeg ((x1.toInt64 * (ms ((8 : Int32) + x43).toNatClampNeg).toInt64) / x3).toInt32) := ⟨_, rfl⟩
  replace h := am_let_s ef47 h
  refine va_iast (pc := 48) hx hb hK.1 hP hD hS 6 0 rfl rfl hi dX7_byTimes_48 (fun H locs hP hD hS => ?_)
  rw [← ef47] at hP hD
  replace hP : va_P D vwCl [(mself, .inr (7, [.ref msa, .ref mpasta, .ref mhelda, .int mpasts, .int mruns, .ref mtexta, .int mtyped, .ref mchosena, .ref mtimesa, .ref mrestsa, .ref mbeforea, .int mspot, .int mfrom, .int mreason, .int mcause, .int morders, .int mkind, .ref mtolda])), (msa, .inl (cI, 580, .inl ms)), (mpasta, .inl (cI, 2320, .inl mpast)), (mhelda, .inl (cI, 580, .inl mheld)), (mtexta, .inl (cI, 60, .inl mtext)), (mchosena, .inl (cI, 12, .inl mchosen)), (mtimesa, .inl (cI, 12, .inl f47)), (mrestsa, .inl (cJ, 12, .inr (.inl f45))), (mbeforea, .inl (cI, 12, .inl mbefore)), (mtolda, .inl (cI, 2, .inl mtold))] H := hP
  replace hD : va_D A [(mself, .inr (7, [.ref msa, .ref mpasta, .ref mhelda, .int mpasts, .int mruns, .ref mtexta, .int mtyped, .ref mchosena, .ref mtimesa, .ref mrestsa, .ref mbeforea, .int mspot, .int mfrom, .int mreason, .int mcause, .int morders, .int mkind, .ref mtolda])), (msa, .inl (cI, 580, .inl ms)), (mpasta, .inl (cI, 2320, .inl mpast)), (mhelda, .inl (cI, 580, .inl mheld)), (mtexta, .inl (cI, 60, .inl mtext)), (mchosena, .inl (cI, 12, .inl mchosen)), (mtimesa, .inl (cI, 12, .inl f47)), (mrestsa, .inl (cJ, 12, .inr (.inl f45))), (mbeforea, .inl (cI, 12, .inl mbefore)), (mtolda, .inl (cI, 2, .inl mtold))] := hD
  refine lv_aload_n (pc := 49) hx hb dX7_byTimes_49 rfl (lv_at hl 0 rfl) ?_
  refine va_get (pc := 50) (D := D) (ci := 7) (v := .ref mrestsa) (C := RX7) (T := TX7) (N := 18) hx hb hts hnX7 hown hK.1 hP 0 rfl rfl 9 (Nat.le_of_ble_eq_true rfl) hk127 (fun _ h9 => h9) rfl dX7_byTimes_50 ?_
  refine lv_iload (pc := 53) hx hb dX7_byTimes_53 (lv_at hl 4 rfl) ?_
  refine lv_iload_n (pc := 55) hx hb dX7_byTimes_55 rfl (lv_at hl 1 rfl) ?_
  refine lv_i2l (pc := 56) hx hb dX7_byTimes_56 rfl ?_
  refine lv_aload_n (pc := 57) hx hb dX7_byTimes_57 rfl (lv_at hl 0 rfl) ?_
  refine va_get (pc := 58) (D := D) (ci := 7) (v := .ref msa) (C := RX7) (T := TX7) (N := 18) hx hb hts hnX7 hown hK.1 hP 0 rfl rfl 0 (Nat.le_of_ble_eq_true rfl) hk121 (fun _ h9 => h9) rfl dX7_byTimes_58 ?_
  refine lv_bipush (v := 8) (pc := 61) hx hb dX7_byTimes_61 (by decide) ?_
  refine lv_iload (pc := 63) hx hb dX7_byTimes_63 (lv_at hl 4 rfl) ?_
  refine lv_iadd (pc := 65) hx hb dX7_byTimes_65 ?_
  obtain ⟨hi, h⟩ := am_in_s h
  refine va_iald (pc := 66) hx hb hK.1 hP 1 0 rfl rfl hi dX7_byTimes_66 ?_
  refine lv_i2l (pc := 67) hx hb dX7_byTimes_67 rfl ?_
  refine lv_lmul (pc := 68) hx hb dX7_byTimes_68 ?_
  refine lv_lload_n (pc := 69) hx hb dX7_byTimes_69 rfl (lv_at hl 2 rfl) ?_
  obtain ⟨hz, h⟩ := am_nzl_s h
  refine lv_lrem (pc := 70) hx hb dX7_byTimes_70 hz ?_
  obtain ⟨hi, h⟩ := am_in_s h
  obtain ⟨f48, ef48⟩ : ∃ y : Nat → Int64, y = (vp_updL f45 x43.toNatClampNeg ((x1.toInt64 * (ms ((8 : Int32) + x43).toNatClampNeg).toInt64) - (x1.toInt64 * (ms ((8 : Int32) + x43).toNatClampNeg).toInt64) / x3 * x3)) := ⟨_, rfl⟩
  replace h := am_let_s ef48 h
  refine va_last (pc := 71) hx hb hK.1 hP hD hS 7 1 rfl rfl hi dX7_byTimes_71 (fun H locs hP hD hS => ?_)
  rw [← ef48] at hP hD
  replace hP : va_P D vwCl [(mself, .inr (7, [.ref msa, .ref mpasta, .ref mhelda, .int mpasts, .int mruns, .ref mtexta, .int mtyped, .ref mchosena, .ref mtimesa, .ref mrestsa, .ref mbeforea, .int mspot, .int mfrom, .int mreason, .int mcause, .int morders, .int mkind, .ref mtolda])), (msa, .inl (cI, 580, .inl ms)), (mpasta, .inl (cI, 2320, .inl mpast)), (mhelda, .inl (cI, 580, .inl mheld)), (mtexta, .inl (cI, 60, .inl mtext)), (mchosena, .inl (cI, 12, .inl mchosen)), (mtimesa, .inl (cI, 12, .inl f47)), (mrestsa, .inl (cJ, 12, .inr (.inl f48))), (mbeforea, .inl (cI, 12, .inl mbefore)), (mtolda, .inl (cI, 2, .inl mtold))] H := hP
  replace hD : va_D A [(mself, .inr (7, [.ref msa, .ref mpasta, .ref mhelda, .int mpasts, .int mruns, .ref mtexta, .int mtyped, .ref mchosena, .ref mtimesa, .ref mrestsa, .ref mbeforea, .int mspot, .int mfrom, .int mreason, .int mcause, .int morders, .int mkind, .ref mtolda])), (msa, .inl (cI, 580, .inl ms)), (mpasta, .inl (cI, 2320, .inl mpast)), (mhelda, .inl (cI, 580, .inl mheld)), (mtexta, .inl (cI, 60, .inl mtext)), (mchosena, .inl (cI, 12, .inl mchosen)), (mtimesa, .inl (cI, 12, .inl f47)), (mrestsa, .inl (cJ, 12, .inr (.inl f48))), (mbeforea, .inl (cI, 12, .inl mbefore)), (mtolda, .inl (cI, 2, .inl mtold))] := hD
  refine lv_iload (pc := 72) hx hb dX7_byTimes_72 (lv_at hl 3 rfl) ?_
  refine lv_aload_n (pc := 74) hx hb dX7_byTimes_74 rfl (lv_at hl 0 rfl) ?_
  refine va_get (pc := 75) (D := D) (ci := 7) (v := .ref mtimesa) (C := RX7) (T := TX7) (N := 18) hx hb hts hnX7 hown hK.1 hP 0 rfl rfl 8 (Nat.le_of_ble_eq_true rfl) hk126 (fun _ h9 => h9) rfl dX7_byTimes_75 ?_
  refine lv_iload (pc := 78) hx hb dX7_byTimes_78 (lv_at hl 4 rfl) ?_
  obtain ⟨hi, h⟩ := am_in_s h
  refine va_iald (pc := 80) hx hb hK.1 hP 6 0 rfl rfl hi dX7_byTimes_80 ?_
  refine lv_isub (pc := 81) hx hb dX7_byTimes_81 ?_
  refine lv_topi (fun x49 ex49 => ?_)
  replace h := am_let_s ex49 h
  refine lv_istore (lv' := [(4, .int x49), (0, .ref mself), (1, .int x1), (2, .long x3), (5, .int x43)]) (pc := 82) hx hb dX7_byTimes_82 hl (by decide) rfl (fun ls hl => ?_)
  obtain ⟨x50, ex50⟩ : ∃ y : Int32, y = (x43 + (1 : Int32)) := ⟨_, rfl⟩
  replace h := am_let_s ex50 h
  refine lv_iinc (pc := 84) (v := x50) (lv' := [(5, .int x50), (4, .int x49), (0, .ref mself), (1, .int x1), (2, .long x3)]) hx hb dX7_byTimes_84 hl (k := 4) rfl (by rw [ex50]; rfl) (by decide) rfl (fun ls hl => ?_)
  refine lv_goto (pc := 87) (tgt := 19) hx hb dX7_byTimes_87 (by decide) ?_
  exact ihrec46 _ _ _ _ h ls (lv_sub hl [2, 3, 4, 1, 0] rfl) H locs hP hD hS
theorem hdX7_chooses : yX7_chooses.cls ≠ "java/lang/invoke/MethodHandle" ∧ yX7_chooses.cls ≠ "java/lang/invoke/VarHandle" ∧ (parseMethodDescriptor yX7_chooses.desc).map (fun d => d.parameters.length) = some 1 := by decide +kernel
abbrev rmX7_chooses : Room := { frames := 2, cells := 0, slots := 0, locals := 54 }
set_option maxHeartbeats 20000000 in
set_option maxRecDepth 100000 in
theorem c_X7_chooses (l : Launch) (D : va_G) (cI cJ : ClassId) (mself : Nat) (msa : Nat) (mpasta : Nat) (mhelda : Nat) (mtexta : Nat) (mchosena : Nat) (mtimesa : Nat) (mrestsa : Nat) (mbeforea : Nat) (mtolda : Nat) (mpasts : Int32) (mruns : Int32) (mtyped : Int32) (mspot : Int32) (mfrom : Int32) (mreason : Int32) (mcause : Int32) (morders : Int32) (mkind : Int32) (ms : Nat → Int32) (mpast : Nat → Int32) (mheld : Nat → Int32) (mtext : Nat → Int32) (mchosen : Nat → Int32) (mtimes : Nat → Int32) (mrests : Nat → Int64) (mbefore : Nat → Int32) (mtold : Nat → Int32) (p0 : Int32) (zms : Nat → Int32) (zmchosen : Nat → Int32) (zmtimes : Nat → Int32) (zmrests : Nat → Int64) (hF : F_X7_chooses ms mchosen mtimes mrests p0 = some (zms, zmchosen, zmtimes, zmrests)) (sz : Nat) : Met l yX7_chooses (wz yX7_chooses cX7_chooses 2 none) rmX7_chooses (kPw D cI cJ [(mself, .inr (7, [.ref msa, .ref mpasta, .ref mhelda, .int mpasts, .int mruns, .ref mtexta, .int mtyped, .ref mchosena, .ref mtimesa, .ref mrestsa, .ref mbeforea, .int mspot, .int mfrom, .int mreason, .int mcause, .int morders, .int mkind, .ref mtolda])), (msa, .inl (cI, 580, .inl ms)), (mpasta, .inl (cI, 2320, .inl mpast)), (mhelda, .inl (cI, 580, .inl mheld)), (mtexta, .inl (cI, 60, .inl mtext)), (mchosena, .inl (cI, 12, .inl mchosen)), (mtimesa, .inl (cI, 12, .inl mtimes)), (mrestsa, .inl (cJ, 12, .inr (.inl mrests))), (mbeforea, .inl (cI, 12, .inl mbefore)), (mtolda, .inl (cI, 2, .inl mtold))] sz [.ref mself, .int p0]) (kQv D [(mself, .inr (7, [.ref msa, .ref mpasta, .ref mhelda, .int mpasts, .int mruns, .ref mtexta, .int mtyped, .ref mchosena, .ref mtimesa, .ref mrestsa, .ref mbeforea, .int mspot, .int mfrom, .int mreason, .int mcause, .int morders, .int mkind, .ref mtolda])), (msa, .inl (cI, 580, .inl zms)), (mpasta, .inl (cI, 2320, .inl mpast)), (mhelda, .inl (cI, 580, .inl mheld)), (mtexta, .inl (cI, 60, .inl mtext)), (mchosena, .inl (cI, 12, .inl zmchosen)), (mtimesa, .inl (cI, 12, .inl zmtimes)), (mrestsa, .inl (cJ, 12, .inr (.inl zmrests))), (mbeforea, .inl (cI, 12, .inl mbefore)), (mtolda, .inl (cI, 2, .inl mtold))] (va_A [(mself, .inr (7, [.ref msa, .ref mpasta, .ref mhelda, .int mpasts, .int mruns, .ref mtexta, .int mtyped, .ref mchosena, .ref mtimesa, .ref mrestsa, .ref mbeforea, .int mspot, .int mfrom, .int mreason, .int mcause, .int morders, .int mkind, .ref mtolda])), (msa, .inl (cI, 580, .inl ms)), (mpasta, .inl (cI, 2320, .inl mpast)), (mhelda, .inl (cI, 580, .inl mheld)), (mtexta, .inl (cI, 60, .inl mtext)), (mchosena, .inl (cI, 12, .inl mchosen)), (mtimesa, .inl (cI, 12, .inl mtimes)), (mrestsa, .inl (cJ, 12, .inr (.inl mrests))), (mbeforea, .inl (cI, 12, .inl mbefore)), (mtolda, .inl (cI, 2, .inl mtold))] sz)) 0 0 (va_A [(mself, .inr (7, [.ref msa, .ref mpasta, .ref mhelda, .int mpasts, .int mruns, .ref mtexta, .int mtyped, .ref mchosena, .ref mtimesa, .ref mrestsa, .ref mbeforea, .int mspot, .int mfrom, .int mreason, .int mcause, .int morders, .int mkind, .ref mtolda])), (msa, .inl (cI, 580, .inl ms)), (mpasta, .inl (cI, 2320, .inl mpast)), (mhelda, .inl (cI, 580, .inl mheld)), (mtexta, .inl (cI, 60, .inl mtext)), (mchosena, .inl (cI, 12, .inl mchosen)), (mtimesa, .inl (cI, 12, .inl mtimes)), (mrestsa, .inl (cJ, 12, .inr (.inl mrests))), (mbeforea, .inl (cI, 12, .inl mbefore)), (mtolda, .inl (cI, 2, .inl mtold))] sz) := by
  refine kM_wv cX7_chooses 2 (by decide +kernel) rfl rfl (Nat.le_of_ble_eq_true rfl) ⟨rfl, rfl⟩ ?_
  intro p e s m args below meth c Q A ls hx hb hml hown hts hP hK hD hA hS hl hret
  replace hl : lv_has ls 2 [(0, .ref mself), (1, .int p0)] := hl
  have h := hF
  unfold F_X7_chooses at h
  refine lv_iload_n (pc := 0) hx hb dX7_chooses_0 rfl (lv_at hl 1 rfl) ?_
  refine lv_iconst (v := 2) (pc := 1) hx hb dX7_chooses_1 (by decide) ?_
  refine lv_icmp_ne (pc := 2) (tgt := 12) hx hb dX7_chooses_2 (by decide) (fun cc => ?_) (fun cc => ?_)
  · replace h := am_f cc h
    refine lv_aload_n (pc := 12) hx hb dX7_chooses_12 rfl (lv_at hl 0 rfl) ?_
    refine lv_iload_n (pc := 13) hx hb dX7_chooses_13 rfl (lv_at hl 1 rfl) ?_
    obtain ⟨f1, f2, hc2, h⟩ := am_call2_s h
    refine kc_Wv (pc := 14) (ci := 7) ⟨hx, hb, hml, hown, hts⟩ hP hK hD hS hA [.int p0] (c_X7_byPoints l D cI cJ mself msa mpasta mhelda mtexta mchosena mtimesa mrestsa mbeforea mtolda mpasts mruns mtyped mspot mfrom mreason mcause morders mkind ms mpast mheld mtext mchosen mtimes mrests mbefore mtold p0 f1 f2 hc2 _) [0, 1, 2, 3, 4, 5, 6, 7, 8, 9] rfl rfl rfl (cwV 1 hts (gzV wl400 wl401 wl402 wl5 wl403) rfl rfl rfl ⟨rfl, hdX7_byPoints⟩ ⟨Nat.le_of_ble_eq_true rfl, Nat.le_of_ble_eq_true rfl⟩) rfl rfl [] rfl hl.1 rfl (Nat.le_of_ble_eq_true rfl) dX7_chooses_14 ⟨Nat.zero_le _, Nat.zero_le _⟩ (fun H locs hP hD hS => ?_)
    replace hP : va_P D vwCl [(mself, .inr (7, [.ref msa, .ref mpasta, .ref mhelda, .int mpasts, .int mruns, .ref mtexta, .int mtyped, .ref mchosena, .ref mtimesa, .ref mrestsa, .ref mbeforea, .int mspot, .int mfrom, .int mreason, .int mcause, .int morders, .int mkind, .ref mtolda])), (msa, .inl (cI, 580, .inl f1)), (mpasta, .inl (cI, 2320, .inl mpast)), (mhelda, .inl (cI, 580, .inl mheld)), (mtexta, .inl (cI, 60, .inl mtext)), (mchosena, .inl (cI, 12, .inl f2)), (mtimesa, .inl (cI, 12, .inl mtimes)), (mrestsa, .inl (cJ, 12, .inr (.inl mrests))), (mbeforea, .inl (cI, 12, .inl mbefore)), (mtolda, .inl (cI, 2, .inl mtold))] H := hP
    replace hD : va_D A [(mself, .inr (7, [.ref msa, .ref mpasta, .ref mhelda, .int mpasts, .int mruns, .ref mtexta, .int mtyped, .ref mchosena, .ref mtimesa, .ref mrestsa, .ref mbeforea, .int mspot, .int mfrom, .int mreason, .int mcause, .int morders, .int mkind, .ref mtolda])), (msa, .inl (cI, 580, .inl f1)), (mpasta, .inl (cI, 2320, .inl mpast)), (mhelda, .inl (cI, 580, .inl mheld)), (mtexta, .inl (cI, 60, .inl mtext)), (mchosena, .inl (cI, 12, .inl f2)), (mtimesa, .inl (cI, 12, .inl mtimes)), (mrestsa, .inl (cJ, 12, .inr (.inl mrests))), (mbeforea, .inl (cI, 12, .inl mbefore)), (mtolda, .inl (cI, 2, .inl mtold))] := hD
    obtain ⟨e1, e2, e3, e4⟩ := am_ret4 h
    exact hret _ _ _ _ dX7_chooses_17 (by rw [← e1, ← e2, ← e3, ← e4]; exact hP) hS
  replace h := am_t cc h
  refine lv_aload_n (pc := 5) hx hb dX7_chooses_5 rfl (lv_at hl 0 rfl) ?_
  obtain ⟨f3, f4, f5, hc5, h⟩ := am_call3_s h
  refine kc_Wv (pc := 6) (ci := 7) ⟨hx, hb, hml, hown, hts⟩ hP hK hD hS hA [] (c_X7_byTimes l D cI cJ mself msa mpasta mhelda mtexta mchosena mtimesa mrestsa mbeforea mtolda mpasts mruns mtyped mspot mfrom mreason mcause morders mkind ms mpast mheld mtext mchosen mtimes mrests mbefore mtold f3 f4 f5 hc5 _) [0, 1, 2, 3, 4, 5, 6, 7, 8, 9] rfl rfl rfl (cwV 0 hts (gzV wl395 wl396 wl397 wl5 wl398) rfl rfl rfl ⟨rfl, hdX7_byTimes⟩ ⟨Nat.le_of_ble_eq_true rfl, Nat.le_of_ble_eq_true rfl⟩) rfl rfl [] rfl hl.1 rfl (Nat.le_of_ble_eq_true rfl) dX7_chooses_6 ⟨Nat.zero_le _, Nat.zero_le _⟩ (fun H locs hP hD hS => ?_)
  replace hP : va_P D vwCl [(mself, .inr (7, [.ref msa, .ref mpasta, .ref mhelda, .int mpasts, .int mruns, .ref mtexta, .int mtyped, .ref mchosena, .ref mtimesa, .ref mrestsa, .ref mbeforea, .int mspot, .int mfrom, .int mreason, .int mcause, .int morders, .int mkind, .ref mtolda])), (msa, .inl (cI, 580, .inl ms)), (mpasta, .inl (cI, 2320, .inl mpast)), (mhelda, .inl (cI, 580, .inl mheld)), (mtexta, .inl (cI, 60, .inl mtext)), (mchosena, .inl (cI, 12, .inl f3)), (mtimesa, .inl (cI, 12, .inl f4)), (mrestsa, .inl (cJ, 12, .inr (.inl f5))), (mbeforea, .inl (cI, 12, .inl mbefore)), (mtolda, .inl (cI, 2, .inl mtold))] H := hP
  replace hD : va_D A [(mself, .inr (7, [.ref msa, .ref mpasta, .ref mhelda, .int mpasts, .int mruns, .ref mtexta, .int mtyped, .ref mchosena, .ref mtimesa, .ref mrestsa, .ref mbeforea, .int mspot, .int mfrom, .int mreason, .int mcause, .int morders, .int mkind, .ref mtolda])), (msa, .inl (cI, 580, .inl ms)), (mpasta, .inl (cI, 2320, .inl mpast)), (mhelda, .inl (cI, 580, .inl mheld)), (mtexta, .inl (cI, 60, .inl mtext)), (mchosena, .inl (cI, 12, .inl f3)), (mtimesa, .inl (cI, 12, .inl f4)), (mrestsa, .inl (cJ, 12, .inr (.inl f5))), (mbeforea, .inl (cI, 12, .inl mbefore)), (mtolda, .inl (cI, 2, .inl mtold))] := hD
  refine lv_goto (pc := 9) (tgt := 17) hx hb dX7_chooses_9 (by decide) ?_
  obtain ⟨e1, e2, e3, e4⟩ := am_ret4 h
  exact hret _ _ _ _ dX7_chooses_17 (by rw [← e1, ← e2, ← e3, ← e4]; exact hP) hS
theorem hdX7_follows : yX7_follows.cls ≠ "java/lang/invoke/MethodHandle" ∧ yX7_follows.cls ≠ "java/lang/invoke/VarHandle" ∧ (parseMethodDescriptor yX7_follows.desc).map (fun d => d.parameters.length) = some 4 := by decide +kernel
abbrev rmX7_follows : Room := { frames := 0, cells := 0, slots := 0, locals := 0 }
set_option maxHeartbeats 20000000 in
set_option maxRecDepth 100000 in
theorem c_X7_follows (l : Launch) (D : va_G) (cI cJ : ClassId) (mself : Nat) (msa : Nat) (mpasta : Nat) (mhelda : Nat) (mtexta : Nat) (mchosena : Nat) (mtimesa : Nat) (mrestsa : Nat) (mbeforea : Nat) (mtolda : Nat) (mpasts : Int32) (mruns : Int32) (mtyped : Int32) (mspot : Int32) (mfrom : Int32) (mreason : Int32) (mcause : Int32) (morders : Int32) (mkind : Int32) (ms : Nat → Int32) (mpast : Nat → Int32) (mheld : Nat → Int32) (mtext : Nat → Int32) (mchosen : Nat → Int32) (mtimes : Nat → Int32) (mrests : Nat → Int64) (mbefore : Nat → Int32) (mtold : Nat → Int32) (p0 : Int32) (p1 : Int32) (p2 : Int32) (p3 : Int32) (r0 : Int32) (zms : Nat → Int32) (hF : F_X7_follows ms p0 p1 p2 p3 = some (r0, zms)) (sz : Nat) : Met l yX7_follows (wz yX7_follows cX7_follows 7 (some .int)) rmX7_follows (kPw D cI cJ [(mself, .inr (7, [.ref msa, .ref mpasta, .ref mhelda, .int mpasts, .int mruns, .ref mtexta, .int mtyped, .ref mchosena, .ref mtimesa, .ref mrestsa, .ref mbeforea, .int mspot, .int mfrom, .int mreason, .int mcause, .int morders, .int mkind, .ref mtolda])), (msa, .inl (cI, 580, .inl ms)), (mpasta, .inl (cI, 2320, .inl mpast)), (mhelda, .inl (cI, 580, .inl mheld)), (mtexta, .inl (cI, 60, .inl mtext)), (mchosena, .inl (cI, 12, .inl mchosen)), (mtimesa, .inl (cI, 12, .inl mtimes)), (mrestsa, .inl (cJ, 12, .inr (.inl mrests))), (mbeforea, .inl (cI, 12, .inl mbefore)), (mtolda, .inl (cI, 2, .inl mtold))] sz [.ref mself, .int p0, .int p1, .int p2, .int p3]) (kQi D r0 [(mself, .inr (7, [.ref msa, .ref mpasta, .ref mhelda, .int mpasts, .int mruns, .ref mtexta, .int mtyped, .ref mchosena, .ref mtimesa, .ref mrestsa, .ref mbeforea, .int mspot, .int mfrom, .int mreason, .int mcause, .int morders, .int mkind, .ref mtolda])), (msa, .inl (cI, 580, .inl zms)), (mpasta, .inl (cI, 2320, .inl mpast)), (mhelda, .inl (cI, 580, .inl mheld)), (mtexta, .inl (cI, 60, .inl mtext)), (mchosena, .inl (cI, 12, .inl mchosen)), (mtimesa, .inl (cI, 12, .inl mtimes)), (mrestsa, .inl (cJ, 12, .inr (.inl mrests))), (mbeforea, .inl (cI, 12, .inl mbefore)), (mtolda, .inl (cI, 2, .inl mtold))] (va_A [(mself, .inr (7, [.ref msa, .ref mpasta, .ref mhelda, .int mpasts, .int mruns, .ref mtexta, .int mtyped, .ref mchosena, .ref mtimesa, .ref mrestsa, .ref mbeforea, .int mspot, .int mfrom, .int mreason, .int mcause, .int morders, .int mkind, .ref mtolda])), (msa, .inl (cI, 580, .inl ms)), (mpasta, .inl (cI, 2320, .inl mpast)), (mhelda, .inl (cI, 580, .inl mheld)), (mtexta, .inl (cI, 60, .inl mtext)), (mchosena, .inl (cI, 12, .inl mchosen)), (mtimesa, .inl (cI, 12, .inl mtimes)), (mrestsa, .inl (cJ, 12, .inr (.inl mrests))), (mbeforea, .inl (cI, 12, .inl mbefore)), (mtolda, .inl (cI, 2, .inl mtold))] sz)) 0 0 (va_A [(mself, .inr (7, [.ref msa, .ref mpasta, .ref mhelda, .int mpasts, .int mruns, .ref mtexta, .int mtyped, .ref mchosena, .ref mtimesa, .ref mrestsa, .ref mbeforea, .int mspot, .int mfrom, .int mreason, .int mcause, .int morders, .int mkind, .ref mtolda])), (msa, .inl (cI, 580, .inl ms)), (mpasta, .inl (cI, 2320, .inl mpast)), (mhelda, .inl (cI, 580, .inl mheld)), (mtexta, .inl (cI, 60, .inl mtext)), (mchosena, .inl (cI, 12, .inl mchosen)), (mtimesa, .inl (cI, 12, .inl mtimes)), (mrestsa, .inl (cJ, 12, .inr (.inl mrests))), (mbeforea, .inl (cI, 12, .inl mbefore)), (mtolda, .inl (cI, 2, .inl mtold))] sz) := by
  refine kM_wi cX7_follows 7 .int (by decide +kernel) rfl rfl (Nat.le_of_ble_eq_true rfl) ⟨rfl, rfl⟩ ?_
  intro p e s m args below meth c Q A ls hx hb hml hown hts hP hK hD hA hS hl hret
  have hk121 := hts _ (List.mem_cons_of_mem _ wl121)
  have hnX7 : ∀ w ∈ u_ws RX7 TX7 18, w ∈ wz yX7_follows cX7_follows 7 (some .int) := fun w h => List.mem_cons_of_mem _ (inlX7 w h)
  replace hl : lv_has ls 7 [(0, .ref mself), (1, .int p0), (2, .int p1), (3, .int p2), (4, .int p3)] := hl
  have h := hF
  unfold F_X7_follows at h
  refine lv_aload_n (pc := 0) hx hb dX7_follows_0 rfl (lv_at hl 0 rfl) ?_
  refine va_get (pc := 1) (D := D) (ci := 7) (v := .ref msa) (C := RX7) (T := TX7) (N := 18) hx hb hts hnX7 hown hK.1 hP 0 rfl rfl 0 (Nat.le_of_ble_eq_true rfl) hk121 (fun _ h9 => h9) rfl dX7_follows_1 ?_
  refine lv_iconst (v := 1) (pc := 4) hx hb dX7_follows_4 (by decide) ?_
  refine va_iald (pc := 5) hx hb hK.1 hP 1 0 rfl rfl (vp_in_nI (n := 1) (N := 580) (by decide) (by decide)) dX7_follows_5 ?_
  refine lv_topi (fun x1 ex1 => ?_)
  replace h := am_let_s ex1 h
  refine lv_istore (lv' := [(5, .int x1), (0, .ref mself), (1, .int p0), (2, .int p1), (3, .int p2), (4, .int p3)]) (pc := 6) hx hb dX7_follows_6 hl (by decide) rfl (fun ls hl => ?_)
  refine lv_bipush (v := 20) (pc := 8) hx hb dX7_follows_8 (by decide) ?_
  refine lv_iconst (v := 4) (pc := 10) hx hb dX7_follows_10 (by decide) ?_
  refine lv_iload (pc := 11) hx hb dX7_follows_11 (lv_at hl 0 rfl) ?_
  refine lv_imul (pc := 13) hx hb dX7_follows_13 ?_
  refine lv_iadd (pc := 14) hx hb dX7_follows_14 ?_
  refine lv_topi (fun x2 ex2 => ?_)
  replace h := am_let_s ex2 h
  refine lv_istore (lv' := [(6, .int x2), (5, .int x1), (0, .ref mself), (1, .int p0), (2, .int p1), (3, .int p2), (4, .int p3)]) (pc := 15) hx hb dX7_follows_15 hl (by decide) rfl (fun ls hl => ?_)
  refine lv_aload_n (pc := 17) hx hb dX7_follows_17 rfl (lv_at hl 2 rfl) ?_
  refine va_get (pc := 18) (D := D) (ci := 7) (v := .ref msa) (C := RX7) (T := TX7) (N := 18) hx hb hts hnX7 hown hK.1 hP 0 rfl rfl 0 (Nat.le_of_ble_eq_true rfl) hk121 (fun _ h9 => h9) rfl dX7_follows_18 ?_
  refine lv_iload (pc := 21) hx hb dX7_follows_21 (lv_at hl 0 rfl) ?_
  refine lv_iload_n (pc := 23) hx hb dX7_follows_23 rfl (lv_at hl 3 rfl) ?_
  obtain ⟨hi, h⟩ := am_in_s h
  obtain ⟨f3, ef3⟩ : ∃ y : Nat → Int32, y = (upd ms x2.toNatClampNeg p0) := ⟨_, rfl⟩
  replace h := am_let_s ef3 h
  refine va_iast (pc := 24) hx hb hK.1 hP hD hS 1 0 rfl rfl hi dX7_follows_24 (fun H locs hP hD hS => ?_)
  rw [← ef3] at hP hD
  replace hP : va_P D vwCl [(mself, .inr (7, [.ref msa, .ref mpasta, .ref mhelda, .int mpasts, .int mruns, .ref mtexta, .int mtyped, .ref mchosena, .ref mtimesa, .ref mrestsa, .ref mbeforea, .int mspot, .int mfrom, .int mreason, .int mcause, .int morders, .int mkind, .ref mtolda])), (msa, .inl (cI, 580, .inl f3)), (mpasta, .inl (cI, 2320, .inl mpast)), (mhelda, .inl (cI, 580, .inl mheld)), (mtexta, .inl (cI, 60, .inl mtext)), (mchosena, .inl (cI, 12, .inl mchosen)), (mtimesa, .inl (cI, 12, .inl mtimes)), (mrestsa, .inl (cJ, 12, .inr (.inl mrests))), (mbeforea, .inl (cI, 12, .inl mbefore)), (mtolda, .inl (cI, 2, .inl mtold))] H := hP
  replace hD : va_D A [(mself, .inr (7, [.ref msa, .ref mpasta, .ref mhelda, .int mpasts, .int mruns, .ref mtexta, .int mtyped, .ref mchosena, .ref mtimesa, .ref mrestsa, .ref mbeforea, .int mspot, .int mfrom, .int mreason, .int mcause, .int morders, .int mkind, .ref mtolda])), (msa, .inl (cI, 580, .inl f3)), (mpasta, .inl (cI, 2320, .inl mpast)), (mhelda, .inl (cI, 580, .inl mheld)), (mtexta, .inl (cI, 60, .inl mtext)), (mchosena, .inl (cI, 12, .inl mchosen)), (mtimesa, .inl (cI, 12, .inl mtimes)), (mrestsa, .inl (cJ, 12, .inr (.inl mrests))), (mbeforea, .inl (cI, 12, .inl mbefore)), (mtolda, .inl (cI, 2, .inl mtold))] := hD
  refine lv_aload_n (pc := 25) hx hb dX7_follows_25 rfl (lv_at hl 2 rfl) ?_
  refine va_get (pc := 26) (D := D) (ci := 7) (v := .ref msa) (C := RX7) (T := TX7) (N := 18) hx hb hts hnX7 hown hK.1 hP 0 rfl rfl 0 (Nat.le_of_ble_eq_true rfl) hk121 (fun _ h9 => h9) rfl dX7_follows_26 ?_
  refine lv_iload (pc := 29) hx hb dX7_follows_29 (lv_at hl 0 rfl) ?_
  refine lv_iconst (v := 1) (pc := 31) hx hb dX7_follows_31 (by decide) ?_
  refine lv_iadd (pc := 32) hx hb dX7_follows_32 ?_
  refine lv_iload_n (pc := 33) hx hb dX7_follows_33 rfl (lv_at hl 4 rfl) ?_
  obtain ⟨hi, h⟩ := am_in_s h
  obtain ⟨f4, ef4⟩ : ∃ y : Nat → Int32, y = (upd f3 (x2 + (1 : Int32)).toNatClampNeg p1) := ⟨_, rfl⟩
  replace h := am_let_s ef4 h
  refine va_iast (pc := 34) hx hb hK.1 hP hD hS 1 0 rfl rfl hi dX7_follows_34 (fun H locs hP hD hS => ?_)
  rw [← ef4] at hP hD
  replace hP : va_P D vwCl [(mself, .inr (7, [.ref msa, .ref mpasta, .ref mhelda, .int mpasts, .int mruns, .ref mtexta, .int mtyped, .ref mchosena, .ref mtimesa, .ref mrestsa, .ref mbeforea, .int mspot, .int mfrom, .int mreason, .int mcause, .int morders, .int mkind, .ref mtolda])), (msa, .inl (cI, 580, .inl f4)), (mpasta, .inl (cI, 2320, .inl mpast)), (mhelda, .inl (cI, 580, .inl mheld)), (mtexta, .inl (cI, 60, .inl mtext)), (mchosena, .inl (cI, 12, .inl mchosen)), (mtimesa, .inl (cI, 12, .inl mtimes)), (mrestsa, .inl (cJ, 12, .inr (.inl mrests))), (mbeforea, .inl (cI, 12, .inl mbefore)), (mtolda, .inl (cI, 2, .inl mtold))] H := hP
  replace hD : va_D A [(mself, .inr (7, [.ref msa, .ref mpasta, .ref mhelda, .int mpasts, .int mruns, .ref mtexta, .int mtyped, .ref mchosena, .ref mtimesa, .ref mrestsa, .ref mbeforea, .int mspot, .int mfrom, .int mreason, .int mcause, .int morders, .int mkind, .ref mtolda])), (msa, .inl (cI, 580, .inl f4)), (mpasta, .inl (cI, 2320, .inl mpast)), (mhelda, .inl (cI, 580, .inl mheld)), (mtexta, .inl (cI, 60, .inl mtext)), (mchosena, .inl (cI, 12, .inl mchosen)), (mtimesa, .inl (cI, 12, .inl mtimes)), (mrestsa, .inl (cJ, 12, .inr (.inl mrests))), (mbeforea, .inl (cI, 12, .inl mbefore)), (mtolda, .inl (cI, 2, .inl mtold))] := hD
  refine lv_aload_n (pc := 35) hx hb dX7_follows_35 rfl (lv_at hl 2 rfl) ?_
  refine va_get (pc := 36) (D := D) (ci := 7) (v := .ref msa) (C := RX7) (T := TX7) (N := 18) hx hb hts hnX7 hown hK.1 hP 0 rfl rfl 0 (Nat.le_of_ble_eq_true rfl) hk121 (fun _ h9 => h9) rfl dX7_follows_36 ?_
  refine lv_iload (pc := 39) hx hb dX7_follows_39 (lv_at hl 0 rfl) ?_
  refine lv_iconst (v := 2) (pc := 41) hx hb dX7_follows_41 (by decide) ?_
  refine lv_iadd (pc := 42) hx hb dX7_follows_42 ?_
  refine lv_iload_n (pc := 43) hx hb dX7_follows_43 rfl (lv_at hl 5 rfl) ?_
  obtain ⟨hi, h⟩ := am_in_s h
  obtain ⟨f5, ef5⟩ : ∃ y : Nat → Int32, y = (upd f4 (x2 + (2 : Int32)).toNatClampNeg p2) := ⟨_, rfl⟩
  replace h := am_let_s ef5 h
  refine va_iast (pc := 44) hx hb hK.1 hP hD hS 1 0 rfl rfl hi dX7_follows_44 (fun H locs hP hD hS => ?_)
  rw [← ef5] at hP hD
  replace hP : va_P D vwCl [(mself, .inr (7, [.ref msa, .ref mpasta, .ref mhelda, .int mpasts, .int mruns, .ref mtexta, .int mtyped, .ref mchosena, .ref mtimesa, .ref mrestsa, .ref mbeforea, .int mspot, .int mfrom, .int mreason, .int mcause, .int morders, .int mkind, .ref mtolda])), (msa, .inl (cI, 580, .inl f5)), (mpasta, .inl (cI, 2320, .inl mpast)), (mhelda, .inl (cI, 580, .inl mheld)), (mtexta, .inl (cI, 60, .inl mtext)), (mchosena, .inl (cI, 12, .inl mchosen)), (mtimesa, .inl (cI, 12, .inl mtimes)), (mrestsa, .inl (cJ, 12, .inr (.inl mrests))), (mbeforea, .inl (cI, 12, .inl mbefore)), (mtolda, .inl (cI, 2, .inl mtold))] H := hP
  replace hD : va_D A [(mself, .inr (7, [.ref msa, .ref mpasta, .ref mhelda, .int mpasts, .int mruns, .ref mtexta, .int mtyped, .ref mchosena, .ref mtimesa, .ref mrestsa, .ref mbeforea, .int mspot, .int mfrom, .int mreason, .int mcause, .int morders, .int mkind, .ref mtolda])), (msa, .inl (cI, 580, .inl f5)), (mpasta, .inl (cI, 2320, .inl mpast)), (mhelda, .inl (cI, 580, .inl mheld)), (mtexta, .inl (cI, 60, .inl mtext)), (mchosena, .inl (cI, 12, .inl mchosen)), (mtimesa, .inl (cI, 12, .inl mtimes)), (mrestsa, .inl (cJ, 12, .inr (.inl mrests))), (mbeforea, .inl (cI, 12, .inl mbefore)), (mtolda, .inl (cI, 2, .inl mtold))] := hD
  refine lv_aload_n (pc := 45) hx hb dX7_follows_45 rfl (lv_at hl 2 rfl) ?_
  refine va_get (pc := 46) (D := D) (ci := 7) (v := .ref msa) (C := RX7) (T := TX7) (N := 18) hx hb hts hnX7 hown hK.1 hP 0 rfl rfl 0 (Nat.le_of_ble_eq_true rfl) hk121 (fun _ h9 => h9) rfl dX7_follows_46 ?_
  refine lv_iload (pc := 49) hx hb dX7_follows_49 (lv_at hl 0 rfl) ?_
  refine lv_iconst (v := 3) (pc := 51) hx hb dX7_follows_51 (by decide) ?_
  refine lv_iadd (pc := 52) hx hb dX7_follows_52 ?_
  refine lv_iload (pc := 53) hx hb dX7_follows_53 (lv_at hl 6 rfl) ?_
  obtain ⟨hi, h⟩ := am_in_s h
  obtain ⟨f6, ef6⟩ : ∃ y : Nat → Int32, y = (upd f5 (x2 + (3 : Int32)).toNatClampNeg p3) := ⟨_, rfl⟩
  replace h := am_let_s ef6 h
  refine va_iast (pc := 55) hx hb hK.1 hP hD hS 1 0 rfl rfl hi dX7_follows_55 (fun H locs hP hD hS => ?_)
  rw [← ef6] at hP hD
  replace hP : va_P D vwCl [(mself, .inr (7, [.ref msa, .ref mpasta, .ref mhelda, .int mpasts, .int mruns, .ref mtexta, .int mtyped, .ref mchosena, .ref mtimesa, .ref mrestsa, .ref mbeforea, .int mspot, .int mfrom, .int mreason, .int mcause, .int morders, .int mkind, .ref mtolda])), (msa, .inl (cI, 580, .inl f6)), (mpasta, .inl (cI, 2320, .inl mpast)), (mhelda, .inl (cI, 580, .inl mheld)), (mtexta, .inl (cI, 60, .inl mtext)), (mchosena, .inl (cI, 12, .inl mchosen)), (mtimesa, .inl (cI, 12, .inl mtimes)), (mrestsa, .inl (cJ, 12, .inr (.inl mrests))), (mbeforea, .inl (cI, 12, .inl mbefore)), (mtolda, .inl (cI, 2, .inl mtold))] H := hP
  replace hD : va_D A [(mself, .inr (7, [.ref msa, .ref mpasta, .ref mhelda, .int mpasts, .int mruns, .ref mtexta, .int mtyped, .ref mchosena, .ref mtimesa, .ref mrestsa, .ref mbeforea, .int mspot, .int mfrom, .int mreason, .int mcause, .int morders, .int mkind, .ref mtolda])), (msa, .inl (cI, 580, .inl f6)), (mpasta, .inl (cI, 2320, .inl mpast)), (mhelda, .inl (cI, 580, .inl mheld)), (mtexta, .inl (cI, 60, .inl mtext)), (mchosena, .inl (cI, 12, .inl mchosen)), (mtimesa, .inl (cI, 12, .inl mtimes)), (mrestsa, .inl (cJ, 12, .inr (.inl mrests))), (mbeforea, .inl (cI, 12, .inl mbefore)), (mtolda, .inl (cI, 2, .inl mtold))] := hD
  refine lv_aload_n (pc := 56) hx hb dX7_follows_56 rfl (lv_at hl 2 rfl) ?_
  refine va_get (pc := 57) (D := D) (ci := 7) (v := .ref msa) (C := RX7) (T := TX7) (N := 18) hx hb hts hnX7 hown hK.1 hP 0 rfl rfl 0 (Nat.le_of_ble_eq_true rfl) hk121 (fun _ h9 => h9) rfl dX7_follows_57 ?_
  refine lv_iconst (v := 1) (pc := 60) hx hb dX7_follows_60 (by decide) ?_
  refine lv_dup2_11 (pc := 61) hx hb dX7_follows_61 rfl rfl ?_
  refine va_iald (pc := 62) hx hb hK.1 hP 1 0 rfl rfl (vp_in_nI (n := 1) (N := 580) (by decide) (by decide)) dX7_follows_62 ?_
  refine lv_iconst (v := 1) (pc := 63) hx hb dX7_follows_63 (by decide) ?_
  refine lv_iadd (pc := 64) hx hb dX7_follows_64 ?_
  obtain ⟨f7, ef7⟩ : ∃ y : Nat → Int32, y = (upd f6 (1 : Int32).toNatClampNeg ((f6 (1 : Int32).toNatClampNeg) + (1 : Int32))) := ⟨_, rfl⟩
  replace h := am_let_s ef7 h
  refine va_iast (pc := 65) hx hb hK.1 hP hD hS 1 0 rfl rfl (vp_in_nI (n := 1) (N := 580) (by decide) (by decide)) dX7_follows_65 (fun H locs hP hD hS => ?_)
  rw [← ef7] at hP hD
  replace hP : va_P D vwCl [(mself, .inr (7, [.ref msa, .ref mpasta, .ref mhelda, .int mpasts, .int mruns, .ref mtexta, .int mtyped, .ref mchosena, .ref mtimesa, .ref mrestsa, .ref mbeforea, .int mspot, .int mfrom, .int mreason, .int mcause, .int morders, .int mkind, .ref mtolda])), (msa, .inl (cI, 580, .inl f7)), (mpasta, .inl (cI, 2320, .inl mpast)), (mhelda, .inl (cI, 580, .inl mheld)), (mtexta, .inl (cI, 60, .inl mtext)), (mchosena, .inl (cI, 12, .inl mchosen)), (mtimesa, .inl (cI, 12, .inl mtimes)), (mrestsa, .inl (cJ, 12, .inr (.inl mrests))), (mbeforea, .inl (cI, 12, .inl mbefore)), (mtolda, .inl (cI, 2, .inl mtold))] H := hP
  replace hD : va_D A [(mself, .inr (7, [.ref msa, .ref mpasta, .ref mhelda, .int mpasts, .int mruns, .ref mtexta, .int mtyped, .ref mchosena, .ref mtimesa, .ref mrestsa, .ref mbeforea, .int mspot, .int mfrom, .int mreason, .int mcause, .int morders, .int mkind, .ref mtolda])), (msa, .inl (cI, 580, .inl f7)), (mpasta, .inl (cI, 2320, .inl mpast)), (mhelda, .inl (cI, 580, .inl mheld)), (mtexta, .inl (cI, 60, .inl mtext)), (mchosena, .inl (cI, 12, .inl mchosen)), (mtimesa, .inl (cI, 12, .inl mtimes)), (mrestsa, .inl (cJ, 12, .inr (.inl mrests))), (mbeforea, .inl (cI, 12, .inl mbefore)), (mtolda, .inl (cI, 2, .inl mtold))] := hD
  refine lv_iload (pc := 66) hx hb dX7_follows_66 (lv_at hl 1 rfl) ?_
  obtain ⟨e1, e2⟩ := am_ret2 h
  exact hret _ _ _ _ _ dX7_follows_68 rfl e1 (by rw [← e2]; exact hP) hS
theorem hdX7_resamples : yX7_resamples.cls ≠ "java/lang/invoke/MethodHandle" ∧ yX7_resamples.cls ≠ "java/lang/invoke/VarHandle" ∧ (parseMethodDescriptor yX7_resamples.desc).map (fun d => d.parameters.length) = some 0 := by decide +kernel
abbrev rmX7_resamples : Room := { frames := 3, cells := 0, slots := 0, locals := 75 }
set_option maxHeartbeats 20000000 in
set_option maxRecDepth 100000 in
theorem c_X7_resamples (l : Launch) (D : va_G) (cI cJ : ClassId) (mself : Nat) (msa : Nat) (mpasta : Nat) (mhelda : Nat) (mtexta : Nat) (mchosena : Nat) (mtimesa : Nat) (mrestsa : Nat) (mbeforea : Nat) (mtolda : Nat) (mpasts : Int32) (mruns : Int32) (mtyped : Int32) (mspot : Int32) (mfrom : Int32) (mreason : Int32) (mcause : Int32) (morders : Int32) (mkind : Int32) (ms : Nat → Int32) (mpast : Nat → Int32) (mheld : Nat → Int32) (mtext : Nat → Int32) (mchosen : Nat → Int32) (mtimes : Nat → Int32) (mrests : Nat → Int64) (mbefore : Nat → Int32) (mtold : Nat → Int32)  (zms : Nat → Int32) (zmchosen : Nat → Int32) (zmtimes : Nat → Int32) (zmrests : Nat → Int64) (hF : F_X7_resamples ms mchosen mtimes mrests = some (zms, zmchosen, zmtimes, zmrests)) (sz : Nat) : Met l yX7_resamples (wz yX7_resamples cX7_resamples 3 none) rmX7_resamples (kPw D cI cJ [(mself, .inr (7, [.ref msa, .ref mpasta, .ref mhelda, .int mpasts, .int mruns, .ref mtexta, .int mtyped, .ref mchosena, .ref mtimesa, .ref mrestsa, .ref mbeforea, .int mspot, .int mfrom, .int mreason, .int mcause, .int morders, .int mkind, .ref mtolda])), (msa, .inl (cI, 580, .inl ms)), (mpasta, .inl (cI, 2320, .inl mpast)), (mhelda, .inl (cI, 580, .inl mheld)), (mtexta, .inl (cI, 60, .inl mtext)), (mchosena, .inl (cI, 12, .inl mchosen)), (mtimesa, .inl (cI, 12, .inl mtimes)), (mrestsa, .inl (cJ, 12, .inr (.inl mrests))), (mbeforea, .inl (cI, 12, .inl mbefore)), (mtolda, .inl (cI, 2, .inl mtold))] sz [.ref mself]) (kQv D [(mself, .inr (7, [.ref msa, .ref mpasta, .ref mhelda, .int mpasts, .int mruns, .ref mtexta, .int mtyped, .ref mchosena, .ref mtimesa, .ref mrestsa, .ref mbeforea, .int mspot, .int mfrom, .int mreason, .int mcause, .int morders, .int mkind, .ref mtolda])), (msa, .inl (cI, 580, .inl zms)), (mpasta, .inl (cI, 2320, .inl mpast)), (mhelda, .inl (cI, 580, .inl mheld)), (mtexta, .inl (cI, 60, .inl mtext)), (mchosena, .inl (cI, 12, .inl zmchosen)), (mtimesa, .inl (cI, 12, .inl zmtimes)), (mrestsa, .inl (cJ, 12, .inr (.inl zmrests))), (mbeforea, .inl (cI, 12, .inl mbefore)), (mtolda, .inl (cI, 2, .inl mtold))] (va_A [(mself, .inr (7, [.ref msa, .ref mpasta, .ref mhelda, .int mpasts, .int mruns, .ref mtexta, .int mtyped, .ref mchosena, .ref mtimesa, .ref mrestsa, .ref mbeforea, .int mspot, .int mfrom, .int mreason, .int mcause, .int morders, .int mkind, .ref mtolda])), (msa, .inl (cI, 580, .inl ms)), (mpasta, .inl (cI, 2320, .inl mpast)), (mhelda, .inl (cI, 580, .inl mheld)), (mtexta, .inl (cI, 60, .inl mtext)), (mchosena, .inl (cI, 12, .inl mchosen)), (mtimesa, .inl (cI, 12, .inl mtimes)), (mrestsa, .inl (cJ, 12, .inr (.inl mrests))), (mbeforea, .inl (cI, 12, .inl mbefore)), (mtolda, .inl (cI, 2, .inl mtold))] sz)) 0 0 (va_A [(mself, .inr (7, [.ref msa, .ref mpasta, .ref mhelda, .int mpasts, .int mruns, .ref mtexta, .int mtyped, .ref mchosena, .ref mtimesa, .ref mrestsa, .ref mbeforea, .int mspot, .int mfrom, .int mreason, .int mcause, .int morders, .int mkind, .ref mtolda])), (msa, .inl (cI, 580, .inl ms)), (mpasta, .inl (cI, 2320, .inl mpast)), (mhelda, .inl (cI, 580, .inl mheld)), (mtexta, .inl (cI, 60, .inl mtext)), (mchosena, .inl (cI, 12, .inl mchosen)), (mtimesa, .inl (cI, 12, .inl mtimes)), (mrestsa, .inl (cJ, 12, .inr (.inl mrests))), (mbeforea, .inl (cI, 12, .inl mbefore)), (mtolda, .inl (cI, 2, .inl mtold))] sz) := by
  refine kM_wv cX7_resamples 3 (by decide +kernel) rfl rfl (Nat.le_of_ble_eq_true rfl) ⟨rfl, rfl⟩ ?_
  intro p e s m args below meth c Q A ls hx hb hml hown hts hP hK hD hA hS hl hret
  have hk121 := hts _ (List.mem_cons_of_mem _ wl121)
  have hk125 := hts _ (List.mem_cons_of_mem _ wl125)
  have hnX7 : ∀ w ∈ u_ws RX7 TX7 18, w ∈ wz yX7_resamples cX7_resamples 3 none := fun w h => List.mem_cons_of_mem _ (inlX7 w h)
  replace hl : lv_has ls 3 [(0, .ref mself)] := hl
  have h := hF
  unfold F_X7_resamples at h
  refine lv_aload_n (pc := 0) hx hb dX7_resamples_0 rfl (lv_at hl 0 rfl) ?_
  refine lv_aload_n (pc := 1) hx hb dX7_resamples_1 rfl (lv_at hl 0 rfl) ?_
  refine va_get (pc := 2) (D := D) (ci := 7) (v := .ref msa) (C := RX7) (T := TX7) (N := 18) hx hb hts hnX7 hown hK.1 hP 0 rfl rfl 0 (Nat.le_of_ble_eq_true rfl) hk121 (fun _ h9 => h9) rfl dX7_resamples_2 ?_
  refine lv_bipush (v := 6) (pc := 5) hx hb dX7_resamples_5 (by decide) ?_
  refine va_iald (pc := 7) hx hb hK.1 hP 1 0 rfl rfl (vp_in_nI (n := 6) (N := 580) (by decide) (by decide)) dX7_resamples_7 ?_
  obtain ⟨f1, f2, f3, f4, hc4, h⟩ := am_call4_s h
  refine kc_Wv (pc := 8) (ci := 7) ⟨hx, hb, hml, hown, hts⟩ hP hK hD hS hA [.int (ms (6 : Int32).toNatClampNeg)] (c_X7_chooses l D cI cJ mself msa mpasta mhelda mtexta mchosena mtimesa mrestsa mbeforea mtolda mpasts mruns mtyped mspot mfrom mreason mcause morders mkind ms mpast mheld mtext mchosen mtimes mrests mbefore mtold (ms (6 : Int32).toNatClampNeg) f1 f2 f3 f4 hc4 _) [0, 1, 2, 3, 4, 5, 6, 7, 8, 9] rfl rfl rfl (cwV 1 hts (gzV wl391 wl392 wl393 wl5 wl394) rfl rfl rfl ⟨rfl, hdX7_chooses⟩ ⟨Nat.le_of_ble_eq_true rfl, Nat.le_of_ble_eq_true rfl⟩) rfl rfl [] rfl hl.1 rfl (Nat.le_of_ble_eq_true rfl) dX7_resamples_8 ⟨Nat.zero_le _, Nat.zero_le _⟩ (fun H locs hP hD hS => ?_)
  replace hP : va_P D vwCl [(mself, .inr (7, [.ref msa, .ref mpasta, .ref mhelda, .int mpasts, .int mruns, .ref mtexta, .int mtyped, .ref mchosena, .ref mtimesa, .ref mrestsa, .ref mbeforea, .int mspot, .int mfrom, .int mreason, .int mcause, .int morders, .int mkind, .ref mtolda])), (msa, .inl (cI, 580, .inl f1)), (mpasta, .inl (cI, 2320, .inl mpast)), (mhelda, .inl (cI, 580, .inl mheld)), (mtexta, .inl (cI, 60, .inl mtext)), (mchosena, .inl (cI, 12, .inl f2)), (mtimesa, .inl (cI, 12, .inl f3)), (mrestsa, .inl (cJ, 12, .inr (.inl f4))), (mbeforea, .inl (cI, 12, .inl mbefore)), (mtolda, .inl (cI, 2, .inl mtold))] H := hP
  replace hD : va_D A [(mself, .inr (7, [.ref msa, .ref mpasta, .ref mhelda, .int mpasts, .int mruns, .ref mtexta, .int mtyped, .ref mchosena, .ref mtimesa, .ref mrestsa, .ref mbeforea, .int mspot, .int mfrom, .int mreason, .int mcause, .int morders, .int mkind, .ref mtolda])), (msa, .inl (cI, 580, .inl f1)), (mpasta, .inl (cI, 2320, .inl mpast)), (mhelda, .inl (cI, 580, .inl mheld)), (mtexta, .inl (cI, 60, .inl mtext)), (mchosena, .inl (cI, 12, .inl f2)), (mtimesa, .inl (cI, 12, .inl f3)), (mrestsa, .inl (cJ, 12, .inr (.inl f4))), (mbeforea, .inl (cI, 12, .inl mbefore)), (mtolda, .inl (cI, 2, .inl mtold))] := hD
  refine lv_aload_n (pc := 11) hx hb dX7_resamples_11 rfl (lv_at hl 0 rfl) ?_
  refine lv_iconst (v := 2) (pc := 12) hx hb dX7_resamples_12 (by decide) ?_
  refine lv_iconst (v := 0) (pc := 13) hx hb dX7_resamples_13 (by decide) ?_
  refine lv_iconst (v := 0) (pc := 14) hx hb dX7_resamples_14 (by decide) ?_
  refine lv_aload_n (pc := 15) hx hb dX7_resamples_15 rfl (lv_at hl 0 rfl) ?_
  refine va_get (pc := 16) (D := D) (ci := 7) (v := .ref msa) (C := RX7) (T := TX7) (N := 18) hx hb hts hnX7 hown hK.1 hP 0 rfl rfl 0 (Nat.le_of_ble_eq_true rfl) hk121 (fun _ h9 => h9) rfl dX7_resamples_16 ?_
  refine lv_bipush (v := 6) (pc := 19) hx hb dX7_resamples_19 (by decide) ?_
  refine va_iald (pc := 21) hx hb hK.1 hP 1 0 rfl rfl (vp_in_nI (n := 6) (N := 580) (by decide) (by decide)) dX7_resamples_21 ?_
  obtain ⟨r5, f6, hc6, h⟩ := am_call2_s h
  refine kc_Wi (pc := 22) (ci := 7) ⟨hx, hb, hml, hown, hts⟩ hP hK hD hS hA [.int (2 : Int32), .int (0 : Int32), .int (0 : Int32), .int (f1 (6 : Int32).toNatClampNeg)] (c_X7_follows l D cI cJ mself msa mpasta mhelda mtexta mchosena mtimesa mrestsa mbeforea mtolda mpasts mruns mtyped mspot mfrom mreason mcause morders mkind f1 mpast mheld mtext f2 f3 f4 mbefore mtold (2 : Int32) (0 : Int32) (0 : Int32) (f1 (6 : Int32).toNatClampNeg) r5 f6 hc6 _) [0, 1, 2, 3, 4, 5, 6, 7, 8, 9] rfl rfl rfl (cwV 4 hts (gzV wl276 wl277 wl278 wl5 wl279) rfl rfl rfl ⟨rfl, hdX7_follows⟩ ⟨Nat.le_of_ble_eq_true rfl, Nat.le_of_ble_eq_true rfl⟩) rfl rfl [] rfl hl.1 rfl (Nat.le_of_ble_eq_true rfl) dX7_resamples_22 ⟨Nat.zero_le _, Nat.zero_le _⟩ (fun H locs hP hD hS => ?_)
  replace hP : va_P D vwCl [(mself, .inr (7, [.ref msa, .ref mpasta, .ref mhelda, .int mpasts, .int mruns, .ref mtexta, .int mtyped, .ref mchosena, .ref mtimesa, .ref mrestsa, .ref mbeforea, .int mspot, .int mfrom, .int mreason, .int mcause, .int morders, .int mkind, .ref mtolda])), (msa, .inl (cI, 580, .inl f6)), (mpasta, .inl (cI, 2320, .inl mpast)), (mhelda, .inl (cI, 580, .inl mheld)), (mtexta, .inl (cI, 60, .inl mtext)), (mchosena, .inl (cI, 12, .inl f2)), (mtimesa, .inl (cI, 12, .inl f3)), (mrestsa, .inl (cJ, 12, .inr (.inl f4))), (mbeforea, .inl (cI, 12, .inl mbefore)), (mtolda, .inl (cI, 2, .inl mtold))] H := hP
  replace hD : va_D A [(mself, .inr (7, [.ref msa, .ref mpasta, .ref mhelda, .int mpasts, .int mruns, .ref mtexta, .int mtyped, .ref mchosena, .ref mtimesa, .ref mrestsa, .ref mbeforea, .int mspot, .int mfrom, .int mreason, .int mcause, .int morders, .int mkind, .ref mtolda])), (msa, .inl (cI, 580, .inl f6)), (mpasta, .inl (cI, 2320, .inl mpast)), (mhelda, .inl (cI, 580, .inl mheld)), (mtexta, .inl (cI, 60, .inl mtext)), (mchosena, .inl (cI, 12, .inl f2)), (mtimesa, .inl (cI, 12, .inl f3)), (mrestsa, .inl (cJ, 12, .inr (.inl f4))), (mbeforea, .inl (cI, 12, .inl mbefore)), (mtolda, .inl (cI, 2, .inl mtold))] := hD
  refine lv_istore_n (lv' := [(1, .int r5), (0, .ref mself)]) (pc := 25) hx hb dX7_resamples_25 rfl hl (by decide) rfl (fun ls hl => ?_)
  refine lv_iconst (v := 0) (pc := 26) hx hb dX7_resamples_26 (by decide) ?_
  refine lv_istore_n (lv' := [(2, .int (0 : Int32)), (1, .int r5), (0, .ref mself)]) (pc := 27) hx hb dX7_resamples_27 rfl hl (by decide) rfl (fun ls hl => ?_)
  refine am_join1_s (fun (f7 : Nat → Int32) => ∀ (ls : Array Slot), lv_has ls 3 [(0, .ref mself)] → ∀ (H : Heap) (locs : List Loc), va_P D vwCl [(mself, .inr (7, [.ref msa, .ref mpasta, .ref mhelda, .int mpasts, .int mruns, .ref mtexta, .int mtyped, .ref mchosena, .ref mtimesa, .ref mrestsa, .ref mbeforea, .int mspot, .int mfrom, .int mreason, .int mcause, .int morders, .int mkind, .ref mtolda])), (msa, .inl (cI, 580, .inl f7)), (mpasta, .inl (cI, 2320, .inl mpast)), (mhelda, .inl (cI, 580, .inl mheld)), (mtexta, .inl (cI, 60, .inl mtext)), (mchosena, .inl (cI, 12, .inl f2)), (mtimesa, .inl (cI, 12, .inl f3)), (mrestsa, .inl (cJ, 12, .inr (.inl f4))), (mbeforea, .inl (cI, 12, .inl mbefore)), (mtolda, .inl (cI, 2, .inl mtold))] H → va_D A [(mself, .inr (7, [.ref msa, .ref mpasta, .ref mhelda, .int mpasts, .int mruns, .ref mtexta, .int mtyped, .ref mchosena, .ref mtimesa, .ref mrestsa, .ref mbeforea, .int mspot, .int mfrom, .int mreason, .int mcause, .int morders, .int mkind, .ref mtolda])), (msa, .inl (cI, 580, .inl f7)), (mpasta, .inl (cI, 2320, .inl mpast)), (mhelda, .inl (cI, 580, .inl mheld)), (mtexta, .inl (cI, 60, .inl mtext)), (mchosena, .inl (cI, 12, .inl f2)), (mtimesa, .inl (cI, 12, .inl f3)), (mrestsa, .inl (cJ, 12, .inr (.inl f4))), (mbeforea, .inl (cI, 12, .inl mbefore)), (mtolda, .inl (cI, 2, .inl mtold))] → va_S A s.heap H locs → W p l e rmX7_resamples s m args below meth c H locs 0 0 Q (F0 m 102 ls [])) h (fun f7 h ls hl H locs hP hD hS => ?_) (fun K8 hK8 h => ?_)
  · refine lv_aload_n (pc := 102) hx hb dX7_resamples_102 rfl (lv_at hl 0 rfl) ?_
    refine va_get (pc := 103) (D := D) (ci := 7) (v := .ref msa) (C := RX7) (T := TX7) (N := 18) hx hb hts hnX7 hown hK.1 hP 0 rfl rfl 0 (Nat.le_of_ble_eq_true rfl) hk121 (fun _ h9 => h9) rfl dX7_resamples_103 ?_
    refine lv_iconst (v := 4) (pc := 106) hx hb dX7_resamples_106 (by decide) ?_
    refine lv_dup2_11 (pc := 107) hx hb dX7_resamples_107 rfl rfl ?_
    refine va_iald (pc := 108) hx hb hK.1 hP 1 0 rfl rfl (vp_in_nI (n := 4) (N := 580) (by decide) (by decide)) dX7_resamples_108 ?_
    refine lv_iconst (v := 1) (pc := 109) hx hb dX7_resamples_109 (by decide) ?_
    refine lv_iadd (pc := 110) hx hb dX7_resamples_110 ?_
    obtain ⟨f9, ef9⟩ : ∃ y : Nat → Int32, y = (upd f7 (4 : Int32).toNatClampNeg ((f7 (4 : Int32).toNatClampNeg) + (1 : Int32))) := ⟨_, rfl⟩
    replace h := am_let_s ef9 h
    refine va_iast (pc := 111) hx hb hK.1 hP hD hS 1 0 rfl rfl (vp_in_nI (n := 4) (N := 580) (by decide) (by decide)) dX7_resamples_111 (fun H locs hP hD hS => ?_)
    rw [← ef9] at hP hD
    replace hP : va_P D vwCl [(mself, .inr (7, [.ref msa, .ref mpasta, .ref mhelda, .int mpasts, .int mruns, .ref mtexta, .int mtyped, .ref mchosena, .ref mtimesa, .ref mrestsa, .ref mbeforea, .int mspot, .int mfrom, .int mreason, .int mcause, .int morders, .int mkind, .ref mtolda])), (msa, .inl (cI, 580, .inl f9)), (mpasta, .inl (cI, 2320, .inl mpast)), (mhelda, .inl (cI, 580, .inl mheld)), (mtexta, .inl (cI, 60, .inl mtext)), (mchosena, .inl (cI, 12, .inl f2)), (mtimesa, .inl (cI, 12, .inl f3)), (mrestsa, .inl (cJ, 12, .inr (.inl f4))), (mbeforea, .inl (cI, 12, .inl mbefore)), (mtolda, .inl (cI, 2, .inl mtold))] H := hP
    replace hD : va_D A [(mself, .inr (7, [.ref msa, .ref mpasta, .ref mhelda, .int mpasts, .int mruns, .ref mtexta, .int mtyped, .ref mchosena, .ref mtimesa, .ref mrestsa, .ref mbeforea, .int mspot, .int mfrom, .int mreason, .int mcause, .int morders, .int mkind, .ref mtolda])), (msa, .inl (cI, 580, .inl f9)), (mpasta, .inl (cI, 2320, .inl mpast)), (mhelda, .inl (cI, 580, .inl mheld)), (mtexta, .inl (cI, 60, .inl mtext)), (mchosena, .inl (cI, 12, .inl f2)), (mtimesa, .inl (cI, 12, .inl f3)), (mrestsa, .inl (cJ, 12, .inr (.inl f4))), (mbeforea, .inl (cI, 12, .inl mbefore)), (mtolda, .inl (cI, 2, .inl mtold))] := hD
    obtain ⟨e1, e2, e3, e4⟩ := am_ret4 h
    exact hret _ _ _ _ dX7_resamples_112 (by rw [← e1, ← e2, ← e3, ← e4]; exact hP) hS
  refine am_loop2_s (fun (x10 : Int32) (f11 : Nat → Int32) => ∀ (ls : Array Slot), lv_has ls 3 [(0, .ref mself), (1, .int r5), (2, .int x10)] → ∀ (H : Heap) (locs : List Loc), va_P D vwCl [(mself, .inr (7, [.ref msa, .ref mpasta, .ref mhelda, .int mpasts, .int mruns, .ref mtexta, .int mtyped, .ref mchosena, .ref mtimesa, .ref mrestsa, .ref mbeforea, .int mspot, .int mfrom, .int mreason, .int mcause, .int morders, .int mkind, .ref mtolda])), (msa, .inl (cI, 580, .inl f11)), (mpasta, .inl (cI, 2320, .inl mpast)), (mhelda, .inl (cI, 580, .inl mheld)), (mtexta, .inl (cI, 60, .inl mtext)), (mchosena, .inl (cI, 12, .inl f2)), (mtimesa, .inl (cI, 12, .inl f3)), (mrestsa, .inl (cJ, 12, .inr (.inl f4))), (mbeforea, .inl (cI, 12, .inl mbefore)), (mtolda, .inl (cI, 2, .inl mtold))] H → va_D A [(mself, .inr (7, [.ref msa, .ref mpasta, .ref mhelda, .int mpasts, .int mruns, .ref mtexta, .int mtyped, .ref mchosena, .ref mtimesa, .ref mrestsa, .ref mbeforea, .int mspot, .int mfrom, .int mreason, .int mcause, .int morders, .int mkind, .ref mtolda])), (msa, .inl (cI, 580, .inl f11)), (mpasta, .inl (cI, 2320, .inl mpast)), (mhelda, .inl (cI, 580, .inl mheld)), (mtexta, .inl (cI, 60, .inl mtext)), (mchosena, .inl (cI, 12, .inl f2)), (mtimesa, .inl (cI, 12, .inl f3)), (mrestsa, .inl (cJ, 12, .inr (.inl f4))), (mbeforea, .inl (cI, 12, .inl mbefore)), (mtolda, .inl (cI, 2, .inl mtold))] → va_S A s.heap H locs → W p l e rmX7_resamples s m args below meth c H locs 0 0 Q (F0 m 28 ls [])) (fun rec12 ihrec12 x10 f11 h ls hl H locs hP hD hS => ?_) _ _ _ h ls (lv_sub hl [2, 1, 0] rfl) H locs hP hD hS
  unfold F_X7_resamples_B28 at h
  refine lv_iload_n (pc := 28) hx hb dX7_resamples_28 rfl (lv_at hl 2 rfl) ?_
  refine lv_aload_n (pc := 29) hx hb dX7_resamples_29 rfl (lv_at hl 0 rfl) ?_
  refine va_get (pc := 30) (D := D) (ci := 7) (v := .ref msa) (C := RX7) (T := TX7) (N := 18) hx hb hts hnX7 hown hK.1 hP 0 rfl rfl 0 (Nat.le_of_ble_eq_true rfl) hk121 (fun _ h9 => h9) rfl dX7_resamples_30 ?_
  refine lv_iconst (v := 0) (pc := 33) hx hb dX7_resamples_33 (by decide) ?_
  refine va_iald (pc := 34) hx hb hK.1 hP 1 0 rfl rfl (vp_in_nI (n := 0) (N := 580) (by decide) (by decide)) dX7_resamples_34 ?_
  refine lv_icmp_ge (pc := 35) (tgt := 102) hx hb dX7_resamples_35 (by decide) (fun cc => ?_) (fun cc => ?_)
  · replace h := am_t cc h
    exact hK8 _ h ls (lv_sub hl [0] rfl) H locs hP hD hS
  replace h := am_f cc h
  refine lv_aload_n (pc := 38) hx hb dX7_resamples_38 rfl (lv_at hl 0 rfl) ?_
  refine va_get (pc := 39) (D := D) (ci := 7) (v := .ref msa) (C := RX7) (T := TX7) (N := 18) hx hb hts hnX7 hown hK.1 hP 0 rfl rfl 0 (Nat.le_of_ble_eq_true rfl) hk121 (fun _ h9 => h9) rfl dX7_resamples_39 ?_
  refine lv_bipush (v := 100) (pc := 42) hx hb dX7_resamples_42 (by decide) ?_
  refine lv_bipush (v := 12) (pc := 44) hx hb dX7_resamples_44 (by decide) ?_
  refine lv_iload_n (pc := 46) hx hb dX7_resamples_46 rfl (lv_at hl 1 rfl) ?_
  refine lv_imul (pc := 47) hx hb dX7_resamples_47 ?_
  refine lv_iadd (pc := 48) hx hb dX7_resamples_48 ?_
  refine lv_iload_n (pc := 49) hx hb dX7_resamples_49 rfl (lv_at hl 2 rfl) ?_
  refine lv_iadd (pc := 50) hx hb dX7_resamples_50 ?_
  refine lv_aload_n (pc := 51) hx hb dX7_resamples_51 rfl (lv_at hl 0 rfl) ?_
  refine va_get (pc := 52) (D := D) (ci := 7) (v := .ref mchosena) (C := RX7) (T := TX7) (N := 18) hx hb hts hnX7 hown hK.1 hP 0 rfl rfl 7 (Nat.le_of_ble_eq_true rfl) hk125 (fun _ h9 => h9) rfl dX7_resamples_52 ?_
  refine lv_iload_n (pc := 55) hx hb dX7_resamples_55 rfl (lv_at hl 2 rfl) ?_
  obtain ⟨hi, h⟩ := am_in_s h
  refine va_iald (pc := 56) hx hb hK.1 hP 5 0 rfl rfl hi dX7_resamples_56 ?_
  obtain ⟨hi, h⟩ := am_in_s h
  obtain ⟨f13, ef13⟩ : ∃ y : Nat → Int32, y = (upd f11 (((100 : Int32) + ((12 : Int32) * r5)) + x10).toNatClampNeg (f2 x10.toNatClampNeg)) := ⟨_, rfl⟩
  replace h := am_let_s ef13 h
  refine va_iast (pc := 57) hx hb hK.1 hP hD hS 1 0 rfl rfl hi dX7_resamples_57 (fun H locs hP hD hS => ?_)
  rw [← ef13] at hP hD
  replace hP : va_P D vwCl [(mself, .inr (7, [.ref msa, .ref mpasta, .ref mhelda, .int mpasts, .int mruns, .ref mtexta, .int mtyped, .ref mchosena, .ref mtimesa, .ref mrestsa, .ref mbeforea, .int mspot, .int mfrom, .int mreason, .int mcause, .int morders, .int mkind, .ref mtolda])), (msa, .inl (cI, 580, .inl f13)), (mpasta, .inl (cI, 2320, .inl mpast)), (mhelda, .inl (cI, 580, .inl mheld)), (mtexta, .inl (cI, 60, .inl mtext)), (mchosena, .inl (cI, 12, .inl f2)), (mtimesa, .inl (cI, 12, .inl f3)), (mrestsa, .inl (cJ, 12, .inr (.inl f4))), (mbeforea, .inl (cI, 12, .inl mbefore)), (mtolda, .inl (cI, 2, .inl mtold))] H := hP
  replace hD : va_D A [(mself, .inr (7, [.ref msa, .ref mpasta, .ref mhelda, .int mpasts, .int mruns, .ref mtexta, .int mtyped, .ref mchosena, .ref mtimesa, .ref mrestsa, .ref mbeforea, .int mspot, .int mfrom, .int mreason, .int mcause, .int morders, .int mkind, .ref mtolda])), (msa, .inl (cI, 580, .inl f13)), (mpasta, .inl (cI, 2320, .inl mpast)), (mhelda, .inl (cI, 580, .inl mheld)), (mtexta, .inl (cI, 60, .inl mtext)), (mchosena, .inl (cI, 12, .inl f2)), (mtimesa, .inl (cI, 12, .inl f3)), (mrestsa, .inl (cJ, 12, .inr (.inl f4))), (mbeforea, .inl (cI, 12, .inl mbefore)), (mtolda, .inl (cI, 2, .inl mtold))] := hD
  refine lv_aload_n (pc := 58) hx hb dX7_resamples_58 rfl (lv_at hl 0 rfl) ?_
  refine va_get (pc := 59) (D := D) (ci := 7) (v := .ref msa) (C := RX7) (T := TX7) (N := 18) hx hb hts hnX7 hown hK.1 hP 0 rfl rfl 0 (Nat.le_of_ble_eq_true rfl) hk121 (fun _ h9 => h9) rfl dX7_resamples_59 ?_
  refine lv_sipush (v := 340) (pc := 62) hx hb dX7_resamples_62 (by decide) ?_
  refine lv_bipush (v := 12) (pc := 65) hx hb dX7_resamples_65 (by decide) ?_
  refine lv_iload_n (pc := 67) hx hb dX7_resamples_67 rfl (lv_at hl 1 rfl) ?_
  refine lv_imul (pc := 68) hx hb dX7_resamples_68 ?_
  refine lv_iadd (pc := 69) hx hb dX7_resamples_69 ?_
  refine lv_iload_n (pc := 70) hx hb dX7_resamples_70 rfl (lv_at hl 2 rfl) ?_
  refine lv_iadd (pc := 71) hx hb dX7_resamples_71 ?_
  refine lv_aload_n (pc := 72) hx hb dX7_resamples_72 rfl (lv_at hl 0 rfl) ?_
  refine lv_iload_n (pc := 73) hx hb dX7_resamples_73 rfl (lv_at hl 1 rfl) ?_
  refine lv_iconst (v := 1) (pc := 74) hx hb dX7_resamples_74 (by decide) ?_
  refine lv_isub (pc := 75) hx hb dX7_resamples_75 ?_
  refine lv_aload_n (pc := 76) hx hb dX7_resamples_76 rfl (lv_at hl 0 rfl) ?_
  refine va_get (pc := 77) (D := D) (ci := 7) (v := .ref mchosena) (C := RX7) (T := TX7) (N := 18) hx hb hts hnX7 hown hK.1 hP 0 rfl rfl 7 (Nat.le_of_ble_eq_true rfl) hk125 (fun _ h9 => h9) rfl dX7_resamples_77 ?_
  refine lv_iload_n (pc := 80) hx hb dX7_resamples_80 rfl (lv_at hl 2 rfl) ?_
  obtain ⟨hi, h⟩ := am_in_s h
  refine va_iald (pc := 81) hx hb hK.1 hP 5 0 rfl rfl hi dX7_resamples_81 ?_
  obtain ⟨r14, hc14, h⟩ := am_bind_s h
  refine kc_Vi (pc := 82) (ci := 7) ⟨hx, hb, hml, hown, hts⟩ hP hK [.int (r5 - (1 : Int32)), .int (f2 x10.toNatClampNeg)] (c_X7_placeIn l D cI cJ mself msa mpasta mhelda mtexta mchosena mtimesa mrestsa mbeforea mtolda mpasts mruns mtyped mspot mfrom mreason mcause morders mkind f13 mpast mheld mtext f2 f3 f4 mbefore mtold (r5 - (1 : Int32)) (f2 x10.toNatClampNeg) r14 hc14) [0, 1, 2, 3, 4, 5, 6, 7, 8, 9] rfl (cwV 2 hts (gzV wl280 wl281 wl282 wl5 wl283) rfl rfl rfl ⟨rfl, hdX7_placeIn⟩ ⟨Nat.le_of_ble_eq_true rfl, Nat.le_of_ble_eq_true rfl⟩) rfl rfl [.int (((340 : Int32) + ((12 : Int32) * r5)) + x10), .ref msa] rfl hl.1 rfl (Nat.le_of_ble_eq_true rfl) dX7_resamples_82 ⟨Nat.zero_le _, Nat.zero_le _⟩ ?_
  obtain ⟨hi, h⟩ := am_in_s h
  obtain ⟨f15, ef15⟩ : ∃ y : Nat → Int32, y = (upd f13 (((340 : Int32) + ((12 : Int32) * r5)) + x10).toNatClampNeg r14) := ⟨_, rfl⟩
  replace h := am_let_s ef15 h
  refine va_iast (pc := 85) hx hb hK.1 hP hD hS 1 0 rfl rfl hi dX7_resamples_85 (fun H locs hP hD hS => ?_)
  rw [← ef15] at hP hD
  replace hP : va_P D vwCl [(mself, .inr (7, [.ref msa, .ref mpasta, .ref mhelda, .int mpasts, .int mruns, .ref mtexta, .int mtyped, .ref mchosena, .ref mtimesa, .ref mrestsa, .ref mbeforea, .int mspot, .int mfrom, .int mreason, .int mcause, .int morders, .int mkind, .ref mtolda])), (msa, .inl (cI, 580, .inl f15)), (mpasta, .inl (cI, 2320, .inl mpast)), (mhelda, .inl (cI, 580, .inl mheld)), (mtexta, .inl (cI, 60, .inl mtext)), (mchosena, .inl (cI, 12, .inl f2)), (mtimesa, .inl (cI, 12, .inl f3)), (mrestsa, .inl (cJ, 12, .inr (.inl f4))), (mbeforea, .inl (cI, 12, .inl mbefore)), (mtolda, .inl (cI, 2, .inl mtold))] H := hP
  replace hD : va_D A [(mself, .inr (7, [.ref msa, .ref mpasta, .ref mhelda, .int mpasts, .int mruns, .ref mtexta, .int mtyped, .ref mchosena, .ref mtimesa, .ref mrestsa, .ref mbeforea, .int mspot, .int mfrom, .int mreason, .int mcause, .int morders, .int mkind, .ref mtolda])), (msa, .inl (cI, 580, .inl f15)), (mpasta, .inl (cI, 2320, .inl mpast)), (mhelda, .inl (cI, 580, .inl mheld)), (mtexta, .inl (cI, 60, .inl mtext)), (mchosena, .inl (cI, 12, .inl f2)), (mtimesa, .inl (cI, 12, .inl f3)), (mrestsa, .inl (cJ, 12, .inr (.inl f4))), (mbeforea, .inl (cI, 12, .inl mbefore)), (mtolda, .inl (cI, 2, .inl mtold))] := hD
  refine lv_aload_n (pc := 86) hx hb dX7_resamples_86 rfl (lv_at hl 0 rfl) ?_
  refine va_get (pc := 87) (D := D) (ci := 7) (v := .ref msa) (C := RX7) (T := TX7) (N := 18) hx hb hts hnX7 hown hK.1 hP 0 rfl rfl 0 (Nat.le_of_ble_eq_true rfl) hk121 (fun _ h9 => h9) rfl dX7_resamples_87 ?_
  refine lv_bipush (v := 8) (pc := 90) hx hb dX7_resamples_90 (by decide) ?_
  refine lv_iload_n (pc := 92) hx hb dX7_resamples_92 rfl (lv_at hl 2 rfl) ?_
  refine lv_iadd (pc := 93) hx hb dX7_resamples_93 ?_
  refine lv_iconst (v := 1) (pc := 94) hx hb dX7_resamples_94 (by decide) ?_
  obtain ⟨hi, h⟩ := am_in_s h
  obtain ⟨f16, ef16⟩ : ∃ y : Nat → Int32, y = (upd f15 ((8 : Int32) + x10).toNatClampNeg (1 : Int32)) := ⟨_, rfl⟩
  replace h := am_let_s ef16 h
  refine va_iast (pc := 95) hx hb hK.1 hP hD hS 1 0 rfl rfl hi dX7_resamples_95 (fun H locs hP hD hS => ?_)
  rw [← ef16] at hP hD
  replace hP : va_P D vwCl [(mself, .inr (7, [.ref msa, .ref mpasta, .ref mhelda, .int mpasts, .int mruns, .ref mtexta, .int mtyped, .ref mchosena, .ref mtimesa, .ref mrestsa, .ref mbeforea, .int mspot, .int mfrom, .int mreason, .int mcause, .int morders, .int mkind, .ref mtolda])), (msa, .inl (cI, 580, .inl f16)), (mpasta, .inl (cI, 2320, .inl mpast)), (mhelda, .inl (cI, 580, .inl mheld)), (mtexta, .inl (cI, 60, .inl mtext)), (mchosena, .inl (cI, 12, .inl f2)), (mtimesa, .inl (cI, 12, .inl f3)), (mrestsa, .inl (cJ, 12, .inr (.inl f4))), (mbeforea, .inl (cI, 12, .inl mbefore)), (mtolda, .inl (cI, 2, .inl mtold))] H := hP
  replace hD : va_D A [(mself, .inr (7, [.ref msa, .ref mpasta, .ref mhelda, .int mpasts, .int mruns, .ref mtexta, .int mtyped, .ref mchosena, .ref mtimesa, .ref mrestsa, .ref mbeforea, .int mspot, .int mfrom, .int mreason, .int mcause, .int morders, .int mkind, .ref mtolda])), (msa, .inl (cI, 580, .inl f16)), (mpasta, .inl (cI, 2320, .inl mpast)), (mhelda, .inl (cI, 580, .inl mheld)), (mtexta, .inl (cI, 60, .inl mtext)), (mchosena, .inl (cI, 12, .inl f2)), (mtimesa, .inl (cI, 12, .inl f3)), (mrestsa, .inl (cJ, 12, .inr (.inl f4))), (mbeforea, .inl (cI, 12, .inl mbefore)), (mtolda, .inl (cI, 2, .inl mtold))] := hD
  obtain ⟨x17, ex17⟩ : ∃ y : Int32, y = (x10 + (1 : Int32)) := ⟨_, rfl⟩
  replace h := am_let_s ex17 h
  refine lv_iinc (pc := 96) (v := x17) (lv' := [(2, .int x17), (0, .ref mself), (1, .int r5)]) hx hb dX7_resamples_96 hl (k := 2) rfl (by rw [ex17]; rfl) (by decide) rfl (fun ls hl => ?_)
  refine lv_goto (pc := 99) (tgt := 28) hx hb dX7_resamples_99 (by decide) ?_
  exact ihrec12 _ _ h ls (lv_sub hl [1, 2, 0] rfl) H locs hP hD hS
theorem hdX7_begin : yX7_begin.cls ≠ "java/lang/invoke/MethodHandle" ∧ yX7_begin.cls ≠ "java/lang/invoke/VarHandle" ∧ (parseMethodDescriptor yX7_begin.desc).map (fun d => d.parameters.length) = some 3 := by decide +kernel
abbrev rmX7_begin : Room := { frames := 1, cells := 0, slots := 0, locals := 25 }
set_option maxHeartbeats 20000000 in
set_option maxRecDepth 100000 in
theorem c_X7_begin (l : Launch) (D : va_G) (cI cJ : ClassId) (mself : Nat) (msa : Nat) (mpasta : Nat) (mhelda : Nat) (mtexta : Nat) (mchosena : Nat) (mtimesa : Nat) (mrestsa : Nat) (mbeforea : Nat) (mtolda : Nat) (mpasts : Int32) (mruns : Int32) (mtyped : Int32) (mspot : Int32) (mfrom : Int32) (mreason : Int32) (mcause : Int32) (morders : Int32) (mkind : Int32) (ms : Nat → Int32) (mpast : Nat → Int32) (mheld : Nat → Int32) (mtext : Nat → Int32) (mchosen : Nat → Int32) (mtimes : Nat → Int32) (mrests : Nat → Int64) (mbefore : Nat → Int32) (mtold : Nat → Int32) (p0 : Int32) (p1 : Int32) (p2 : Int32) (r0 : Int32) (zmpasts : Int32) (zms : Nat → Int32) (zmpast : Nat → Int32) (hF : F_X7_begin mpasts mruns ms mpast p0 p1 p2 = some (r0, zmpasts, zms, zmpast)) (sz : Nat) : Met l yX7_begin (wz yX7_begin cX7_begin 5 (some .int)) rmX7_begin (kPw D cI cJ [(mself, .inr (7, [.ref msa, .ref mpasta, .ref mhelda, .int mpasts, .int mruns, .ref mtexta, .int mtyped, .ref mchosena, .ref mtimesa, .ref mrestsa, .ref mbeforea, .int mspot, .int mfrom, .int mreason, .int mcause, .int morders, .int mkind, .ref mtolda])), (msa, .inl (cI, 580, .inl ms)), (mpasta, .inl (cI, 2320, .inl mpast)), (mhelda, .inl (cI, 580, .inl mheld)), (mtexta, .inl (cI, 60, .inl mtext)), (mchosena, .inl (cI, 12, .inl mchosen)), (mtimesa, .inl (cI, 12, .inl mtimes)), (mrestsa, .inl (cJ, 12, .inr (.inl mrests))), (mbeforea, .inl (cI, 12, .inl mbefore)), (mtolda, .inl (cI, 2, .inl mtold))] sz [.ref mself, .int p0, .int p1, .int p2]) (kQi D r0 [(mself, .inr (7, [.ref msa, .ref mpasta, .ref mhelda, .int zmpasts, .int mruns, .ref mtexta, .int mtyped, .ref mchosena, .ref mtimesa, .ref mrestsa, .ref mbeforea, .int mspot, .int mfrom, .int mreason, .int mcause, .int morders, .int mkind, .ref mtolda])), (msa, .inl (cI, 580, .inl zms)), (mpasta, .inl (cI, 2320, .inl zmpast)), (mhelda, .inl (cI, 580, .inl mheld)), (mtexta, .inl (cI, 60, .inl mtext)), (mchosena, .inl (cI, 12, .inl mchosen)), (mtimesa, .inl (cI, 12, .inl mtimes)), (mrestsa, .inl (cJ, 12, .inr (.inl mrests))), (mbeforea, .inl (cI, 12, .inl mbefore)), (mtolda, .inl (cI, 2, .inl mtold))] (va_A [(mself, .inr (7, [.ref msa, .ref mpasta, .ref mhelda, .int mpasts, .int mruns, .ref mtexta, .int mtyped, .ref mchosena, .ref mtimesa, .ref mrestsa, .ref mbeforea, .int mspot, .int mfrom, .int mreason, .int mcause, .int morders, .int mkind, .ref mtolda])), (msa, .inl (cI, 580, .inl ms)), (mpasta, .inl (cI, 2320, .inl mpast)), (mhelda, .inl (cI, 580, .inl mheld)), (mtexta, .inl (cI, 60, .inl mtext)), (mchosena, .inl (cI, 12, .inl mchosen)), (mtimesa, .inl (cI, 12, .inl mtimes)), (mrestsa, .inl (cJ, 12, .inr (.inl mrests))), (mbeforea, .inl (cI, 12, .inl mbefore)), (mtolda, .inl (cI, 2, .inl mtold))] sz)) 0 0 (va_A [(mself, .inr (7, [.ref msa, .ref mpasta, .ref mhelda, .int mpasts, .int mruns, .ref mtexta, .int mtyped, .ref mchosena, .ref mtimesa, .ref mrestsa, .ref mbeforea, .int mspot, .int mfrom, .int mreason, .int mcause, .int morders, .int mkind, .ref mtolda])), (msa, .inl (cI, 580, .inl ms)), (mpasta, .inl (cI, 2320, .inl mpast)), (mhelda, .inl (cI, 580, .inl mheld)), (mtexta, .inl (cI, 60, .inl mtext)), (mchosena, .inl (cI, 12, .inl mchosen)), (mtimesa, .inl (cI, 12, .inl mtimes)), (mrestsa, .inl (cJ, 12, .inr (.inl mrests))), (mbeforea, .inl (cI, 12, .inl mbefore)), (mtolda, .inl (cI, 2, .inl mtold))] sz) := by
  refine kM_wi cX7_begin 5 .int (by decide +kernel) rfl rfl (Nat.le_of_ble_eq_true rfl) ⟨rfl, rfl⟩ ?_
  intro p e s m args below meth c Q A ls hx hb hml hown hts hP hK hD hA hS hl hret
  have hk121 := hts _ (List.mem_cons_of_mem _ wl121)
  have hk175 := hts _ (List.mem_cons_of_mem _ wl175)
  have hnX7 : ∀ w ∈ u_ws RX7 TX7 18, w ∈ wz yX7_begin cX7_begin 5 (some .int) := fun w h => List.mem_cons_of_mem _ (inlX7 w h)
  replace hl : lv_has ls 5 [(0, .ref mself), (1, .int p0), (2, .int p1), (3, .int p2)] := hl
  have h := hF
  unfold F_X7_begin at h
  refine lv_iload_n (pc := 0) hx hb dX7_begin_0 rfl (lv_at hl 1 rfl) ?_
  refine lv_iconst (v := 1) (pc := 1) hx hb dX7_begin_1 (by decide) ?_
  refine lv_bipush (v := 12) (pc := 2) hx hb dX7_begin_2 (by decide) ?_
  obtain ⟨r1, hc1, h⟩ := am_bind_s h
  refine kc_Si (pc := 4) ⟨hx, hb, hml, hown, hts⟩ hP hK [.int p0, .int (1 : Int32), .int (12 : Int32)] (c_X7_in l D cI cJ p0 (1 : Int32) (12 : Int32) r1 hc1) [] rfl (cwS 3 hts (gzS wl176 wl177 wl5 wl178) rfl rfl rfl ⟨rfl, hdX7_in⟩ ⟨Nat.le_of_ble_eq_true rfl, Nat.le_of_ble_eq_true rfl⟩) [] rfl hl.1 rfl (Nat.le_of_ble_eq_true rfl) dX7_begin_4 ⟨Nat.zero_le _, Nat.zero_le _⟩ ?_
  refine lv_if_eq (pc := 7) (tgt := 30) hx hb dX7_begin_7 (by decide) (fun cc => ?_) (fun cc => ?_)
  · replace h := am_t cc h
    refine lv_ldc (pc := 30) hx hb hown hk175 dX7_begin_30 ?_
    obtain ⟨e1, e2, e3, e4⟩ := am_ret4 h
    exact hret _ _ _ _ _ dX7_begin_32 rfl e1 (by rw [← e2, ← e3, ← e4]; exact hP) hS
  replace h := am_f cc h
  refine lv_iload_n (pc := 10) hx hb dX7_begin_10 rfl (lv_at hl 2 rfl) ?_
  refine lv_iconst (v := 0) (pc := 11) hx hb dX7_begin_11 (by decide) ?_
  refine lv_bipush (v := 99) (pc := 12) hx hb dX7_begin_12 (by decide) ?_
  obtain ⟨r2, hc2, h⟩ := am_bind_s h
  refine kc_Si (pc := 14) ⟨hx, hb, hml, hown, hts⟩ hP hK [.int p1, .int (0 : Int32), .int (99 : Int32)] (c_X7_in l D cI cJ p1 (0 : Int32) (99 : Int32) r2 hc2) [] rfl (cwS 3 hts (gzS wl176 wl177 wl5 wl178) rfl rfl rfl ⟨rfl, hdX7_in⟩ ⟨Nat.le_of_ble_eq_true rfl, Nat.le_of_ble_eq_true rfl⟩) [] rfl hl.1 rfl (Nat.le_of_ble_eq_true rfl) dX7_begin_14 ⟨Nat.zero_le _, Nat.zero_le _⟩ ?_
  refine lv_if_eq (pc := 17) (tgt := 30) hx hb dX7_begin_17 (by decide) (fun cc => ?_) (fun cc => ?_)
  · replace h := am_t cc h
    refine lv_ldc (pc := 30) hx hb hown hk175 dX7_begin_30 ?_
    obtain ⟨e1, e2, e3, e4⟩ := am_ret4 h
    exact hret _ _ _ _ _ dX7_begin_32 rfl e1 (by rw [← e2, ← e3, ← e4]; exact hP) hS
  replace h := am_f cc h
  refine lv_iload_n (pc := 20) hx hb dX7_begin_20 rfl (lv_at hl 3 rfl) ?_
  refine lv_iconst (v := 0) (pc := 21) hx hb dX7_begin_21 (by decide) ?_
  refine lv_bipush (v := 99) (pc := 22) hx hb dX7_begin_22 (by decide) ?_
  obtain ⟨r3, hc3, h⟩ := am_bind_s h
  refine kc_Si (pc := 24) ⟨hx, hb, hml, hown, hts⟩ hP hK [.int p2, .int (0 : Int32), .int (99 : Int32)] (c_X7_in l D cI cJ p2 (0 : Int32) (99 : Int32) r3 hc3) [] rfl (cwS 3 hts (gzS wl176 wl177 wl5 wl178) rfl rfl rfl ⟨rfl, hdX7_in⟩ ⟨Nat.le_of_ble_eq_true rfl, Nat.le_of_ble_eq_true rfl⟩) [] rfl hl.1 rfl (Nat.le_of_ble_eq_true rfl) dX7_begin_24 ⟨Nat.zero_le _, Nat.zero_le _⟩ ?_
  refine lv_if_ne (pc := 27) (tgt := 33) hx hb dX7_begin_27 (by decide) (fun cc => ?_) (fun cc => ?_)
  · replace h := am_f cc h
    refine lv_aload_n (pc := 33) hx hb dX7_begin_33 rfl (lv_at hl 0 rfl) ?_
    obtain ⟨u4, f5, hc5, h⟩ := am_call2_s h
    refine kc_Wv (pc := 34) (ci := 7) ⟨hx, hb, hml, hown, hts⟩ hP hK hD hS hA [] (c_X7_changes l D cI cJ mself msa mpasta mhelda mtexta mchosena mtimesa mrestsa mbeforea mtolda mpasts mruns mtyped mspot mfrom mreason mcause morders mkind ms mpast mheld mtext mchosen mtimes mrests mbefore mtold u4 f5 hc5 _) [0, 1, 2, 3, 4, 5, 6, 7, 8, 9] rfl rfl rfl (cwV 0 hts (gzV wl179 wl180 wl181 wl5 wl182) rfl rfl rfl ⟨rfl, hdX7_changes⟩ ⟨Nat.le_of_ble_eq_true rfl, Nat.le_of_ble_eq_true rfl⟩) rfl rfl [] rfl hl.1 rfl (Nat.le_of_ble_eq_true rfl) dX7_begin_34 ⟨Nat.zero_le _, Nat.zero_le _⟩ (fun H locs hP hD hS => ?_)
    replace hP : va_P D vwCl [(mself, .inr (7, [.ref msa, .ref mpasta, .ref mhelda, .int u4, .int mruns, .ref mtexta, .int mtyped, .ref mchosena, .ref mtimesa, .ref mrestsa, .ref mbeforea, .int mspot, .int mfrom, .int mreason, .int mcause, .int morders, .int mkind, .ref mtolda])), (msa, .inl (cI, 580, .inl ms)), (mpasta, .inl (cI, 2320, .inl f5)), (mhelda, .inl (cI, 580, .inl mheld)), (mtexta, .inl (cI, 60, .inl mtext)), (mchosena, .inl (cI, 12, .inl mchosen)), (mtimesa, .inl (cI, 12, .inl mtimes)), (mrestsa, .inl (cJ, 12, .inr (.inl mrests))), (mbeforea, .inl (cI, 12, .inl mbefore)), (mtolda, .inl (cI, 2, .inl mtold))] H := hP
    replace hD : va_D A [(mself, .inr (7, [.ref msa, .ref mpasta, .ref mhelda, .int u4, .int mruns, .ref mtexta, .int mtyped, .ref mchosena, .ref mtimesa, .ref mrestsa, .ref mbeforea, .int mspot, .int mfrom, .int mreason, .int mcause, .int morders, .int mkind, .ref mtolda])), (msa, .inl (cI, 580, .inl ms)), (mpasta, .inl (cI, 2320, .inl f5)), (mhelda, .inl (cI, 580, .inl mheld)), (mtexta, .inl (cI, 60, .inl mtext)), (mchosena, .inl (cI, 12, .inl mchosen)), (mtimesa, .inl (cI, 12, .inl mtimes)), (mrestsa, .inl (cJ, 12, .inr (.inl mrests))), (mbeforea, .inl (cI, 12, .inl mbefore)), (mtolda, .inl (cI, 2, .inl mtold))] := hD
    refine lv_aload_n (pc := 37) hx hb dX7_begin_37 rfl (lv_at hl 0 rfl) ?_
    refine va_get (pc := 38) (D := D) (ci := 7) (v := .ref msa) (C := RX7) (T := TX7) (N := 18) hx hb hts hnX7 hown hK.1 hP 0 rfl rfl 0 (Nat.le_of_ble_eq_true rfl) hk121 (fun _ h9 => h9) rfl dX7_begin_38 ?_
    refine lv_iconst (v := 1) (pc := 41) hx hb dX7_begin_41 (by decide) ?_
    refine va_iald (pc := 42) hx hb hK.1 hP 1 0 rfl rfl (vp_in_nI (n := 1) (N := 580) (by decide) (by decide)) dX7_begin_42 ?_
    refine lv_topi (fun x6 ex6 => ?_)
    replace h := am_let_s ex6 h
    refine lv_istore (lv' := [(4, .int x6), (0, .ref mself), (1, .int p0), (2, .int p1), (3, .int p2)]) (pc := 43) hx hb dX7_begin_43 hl (by decide) rfl (fun ls hl => ?_)
    refine lv_aload_n (pc := 45) hx hb dX7_begin_45 rfl (lv_at hl 1 rfl) ?_
    refine lv_iload_n (pc := 46) hx hb dX7_begin_46 rfl (lv_at hl 2 rfl) ?_
    refine lv_iload_n (pc := 47) hx hb dX7_begin_47 rfl (lv_at hl 3 rfl) ?_
    refine lv_iload_n (pc := 48) hx hb dX7_begin_48 rfl (lv_at hl 4 rfl) ?_
    obtain ⟨f7, hc7, h⟩ := am_bind_s h
    refine kc_Wv (pc := 49) (ci := 7) ⟨hx, hb, hml, hown, hts⟩ hP hK hD hS hA [.int p0, .int p1, .int p2] (c_X7_lays l D cI cJ mself msa mpasta mhelda mtexta mchosena mtimesa mrestsa mbeforea mtolda u4 mruns mtyped mspot mfrom mreason mcause morders mkind ms f5 mheld mtext mchosen mtimes mrests mbefore mtold p0 p1 p2 f7 hc7 _) [0, 1, 2, 3, 4, 5, 6, 7, 8, 9] rfl rfl rfl (cwV 3 hts (gzV wl130 wl131 wl132 wl5 wl133) rfl rfl rfl ⟨rfl, hdX7_lays⟩ ⟨Nat.le_of_ble_eq_true rfl, Nat.le_of_ble_eq_true rfl⟩) rfl rfl [] rfl hl.1 rfl (Nat.le_of_ble_eq_true rfl) dX7_begin_49 ⟨Nat.zero_le _, Nat.zero_le _⟩ (fun H locs hP hD hS => ?_)
    replace hP : va_P D vwCl [(mself, .inr (7, [.ref msa, .ref mpasta, .ref mhelda, .int u4, .int mruns, .ref mtexta, .int mtyped, .ref mchosena, .ref mtimesa, .ref mrestsa, .ref mbeforea, .int mspot, .int mfrom, .int mreason, .int mcause, .int morders, .int mkind, .ref mtolda])), (msa, .inl (cI, 580, .inl f7)), (mpasta, .inl (cI, 2320, .inl f5)), (mhelda, .inl (cI, 580, .inl mheld)), (mtexta, .inl (cI, 60, .inl mtext)), (mchosena, .inl (cI, 12, .inl mchosen)), (mtimesa, .inl (cI, 12, .inl mtimes)), (mrestsa, .inl (cJ, 12, .inr (.inl mrests))), (mbeforea, .inl (cI, 12, .inl mbefore)), (mtolda, .inl (cI, 2, .inl mtold))] H := hP
    replace hD : va_D A [(mself, .inr (7, [.ref msa, .ref mpasta, .ref mhelda, .int u4, .int mruns, .ref mtexta, .int mtyped, .ref mchosena, .ref mtimesa, .ref mrestsa, .ref mbeforea, .int mspot, .int mfrom, .int mreason, .int mcause, .int morders, .int mkind, .ref mtolda])), (msa, .inl (cI, 580, .inl f7)), (mpasta, .inl (cI, 2320, .inl f5)), (mhelda, .inl (cI, 580, .inl mheld)), (mtexta, .inl (cI, 60, .inl mtext)), (mchosena, .inl (cI, 12, .inl mchosen)), (mtimesa, .inl (cI, 12, .inl mtimes)), (mrestsa, .inl (cJ, 12, .inr (.inl mrests))), (mbeforea, .inl (cI, 12, .inl mbefore)), (mtolda, .inl (cI, 2, .inl mtold))] := hD
    refine lv_iload (pc := 52) hx hb dX7_begin_52 (lv_at hl 0 rfl) ?_
    obtain ⟨e1, e2, e3, e4⟩ := am_ret4 h
    exact hret _ _ _ _ _ dX7_begin_54 rfl e1 (by rw [← e2, ← e3, ← e4]; exact hP) hS
  replace h := am_t cc h
  refine lv_ldc (pc := 30) hx hb hown hk175 dX7_begin_30 ?_
  obtain ⟨e1, e2, e3, e4⟩ := am_ret4 h
  exact hret _ _ _ _ _ dX7_begin_32 rfl e1 (by rw [← e2, ← e3, ← e4]; exact hP) hS
theorem hdX7_weigh : yX7_weigh.cls ≠ "java/lang/invoke/MethodHandle" ∧ yX7_weigh.cls ≠ "java/lang/invoke/VarHandle" ∧ (parseMethodDescriptor yX7_weigh.desc).map (fun d => d.parameters.length) = some 2 := by decide +kernel
abbrev rmX7_weigh : Room := { frames := 2, cells := 0, slots := 0, locals := 47 }
set_option maxHeartbeats 20000000 in
set_option maxRecDepth 100000 in
theorem c_X7_weigh (l : Launch) (D : va_G) (cI cJ : ClassId) (mself : Nat) (msa : Nat) (mpasta : Nat) (mhelda : Nat) (mtexta : Nat) (mchosena : Nat) (mtimesa : Nat) (mrestsa : Nat) (mbeforea : Nat) (mtolda : Nat) (mpasts : Int32) (mruns : Int32) (mtyped : Int32) (mspot : Int32) (mfrom : Int32) (mreason : Int32) (mcause : Int32) (morders : Int32) (mkind : Int32) (ms : Nat → Int32) (mpast : Nat → Int32) (mheld : Nat → Int32) (mtext : Nat → Int32) (mchosen : Nat → Int32) (mtimes : Nat → Int32) (mrests : Nat → Int64) (mbefore : Nat → Int32) (mtold : Nat → Int32) (p0 : Int32) (p1 : Int32) (r0 : Int32) (zmpasts : Int32) (zms : Nat → Int32) (zmpast : Nat → Int32) (hF : F_X7_weigh mpasts mruns ms mpast p0 p1 = some (r0, zmpasts, zms, zmpast)) (sz : Nat) : Met l yX7_weigh (wz yX7_weigh cX7_weigh 3 (some .int)) rmX7_weigh (kPw D cI cJ [(mself, .inr (7, [.ref msa, .ref mpasta, .ref mhelda, .int mpasts, .int mruns, .ref mtexta, .int mtyped, .ref mchosena, .ref mtimesa, .ref mrestsa, .ref mbeforea, .int mspot, .int mfrom, .int mreason, .int mcause, .int morders, .int mkind, .ref mtolda])), (msa, .inl (cI, 580, .inl ms)), (mpasta, .inl (cI, 2320, .inl mpast)), (mhelda, .inl (cI, 580, .inl mheld)), (mtexta, .inl (cI, 60, .inl mtext)), (mchosena, .inl (cI, 12, .inl mchosen)), (mtimesa, .inl (cI, 12, .inl mtimes)), (mrestsa, .inl (cJ, 12, .inr (.inl mrests))), (mbeforea, .inl (cI, 12, .inl mbefore)), (mtolda, .inl (cI, 2, .inl mtold))] sz [.ref mself, .int p0, .int p1]) (kQi D r0 [(mself, .inr (7, [.ref msa, .ref mpasta, .ref mhelda, .int zmpasts, .int mruns, .ref mtexta, .int mtyped, .ref mchosena, .ref mtimesa, .ref mrestsa, .ref mbeforea, .int mspot, .int mfrom, .int mreason, .int mcause, .int morders, .int mkind, .ref mtolda])), (msa, .inl (cI, 580, .inl zms)), (mpasta, .inl (cI, 2320, .inl zmpast)), (mhelda, .inl (cI, 580, .inl mheld)), (mtexta, .inl (cI, 60, .inl mtext)), (mchosena, .inl (cI, 12, .inl mchosen)), (mtimesa, .inl (cI, 12, .inl mtimes)), (mrestsa, .inl (cJ, 12, .inr (.inl mrests))), (mbeforea, .inl (cI, 12, .inl mbefore)), (mtolda, .inl (cI, 2, .inl mtold))] (va_A [(mself, .inr (7, [.ref msa, .ref mpasta, .ref mhelda, .int mpasts, .int mruns, .ref mtexta, .int mtyped, .ref mchosena, .ref mtimesa, .ref mrestsa, .ref mbeforea, .int mspot, .int mfrom, .int mreason, .int mcause, .int morders, .int mkind, .ref mtolda])), (msa, .inl (cI, 580, .inl ms)), (mpasta, .inl (cI, 2320, .inl mpast)), (mhelda, .inl (cI, 580, .inl mheld)), (mtexta, .inl (cI, 60, .inl mtext)), (mchosena, .inl (cI, 12, .inl mchosen)), (mtimesa, .inl (cI, 12, .inl mtimes)), (mrestsa, .inl (cJ, 12, .inr (.inl mrests))), (mbeforea, .inl (cI, 12, .inl mbefore)), (mtolda, .inl (cI, 2, .inl mtold))] sz)) 0 0 (va_A [(mself, .inr (7, [.ref msa, .ref mpasta, .ref mhelda, .int mpasts, .int mruns, .ref mtexta, .int mtyped, .ref mchosena, .ref mtimesa, .ref mrestsa, .ref mbeforea, .int mspot, .int mfrom, .int mreason, .int mcause, .int morders, .int mkind, .ref mtolda])), (msa, .inl (cI, 580, .inl ms)), (mpasta, .inl (cI, 2320, .inl mpast)), (mhelda, .inl (cI, 580, .inl mheld)), (mtexta, .inl (cI, 60, .inl mtext)), (mchosena, .inl (cI, 12, .inl mchosen)), (mtimesa, .inl (cI, 12, .inl mtimes)), (mrestsa, .inl (cJ, 12, .inr (.inl mrests))), (mbeforea, .inl (cI, 12, .inl mbefore)), (mtolda, .inl (cI, 2, .inl mtold))] sz) := by
  refine kM_wi cX7_weigh 3 .int (by decide +kernel) rfl rfl (Nat.le_of_ble_eq_true rfl) ⟨rfl, rfl⟩ ?_
  intro p e s m args below meth c Q A ls hx hb hml hown hts hP hK hD hA hS hl hret
  have hk121 := hts _ (List.mem_cons_of_mem _ wl121)
  have hk175 := hts _ (List.mem_cons_of_mem _ wl175)
  have hk221 := hts _ (List.mem_cons_of_mem _ wl221)
  have hk222 := hts _ (List.mem_cons_of_mem _ wl222)
  have hnX7 : ∀ w ∈ u_ws RX7 TX7 18, w ∈ wz yX7_weigh cX7_weigh 3 (some .int) := fun w h => List.mem_cons_of_mem _ (inlX7 w h)
  replace hl : lv_has ls 3 [(0, .ref mself), (1, .int p0), (2, .int p1)] := hl
  have h := hF
  unfold F_X7_weigh at h
  refine lv_aload_n (pc := 0) hx hb dX7_weigh_0 rfl (lv_at hl 0 rfl) ?_
  refine lv_iload_n (pc := 1) hx hb dX7_weigh_1 rfl (lv_at hl 1 rfl) ?_
  obtain ⟨r1, hc1, h⟩ := am_bind_s h
  refine kc_Vi (pc := 2) (ci := 7) ⟨hx, hb, hml, hown, hts⟩ hP hK [.int p0] (c_X7_isParticle l D cI cJ mself msa mpasta mhelda mtexta mchosena mtimesa mrestsa mbeforea mtolda mpasts mruns mtyped mspot mfrom mreason mcause morders mkind ms mpast mheld mtext mchosen mtimes mrests mbefore mtold p0 r1 hc1) [0, 1, 2, 3, 4, 5, 6, 7, 8, 9] rfl (cwV 1 hts (gzV wl223 wl224 wl225 wl5 wl226) rfl rfl rfl ⟨rfl, hdX7_isParticle⟩ ⟨Nat.le_of_ble_eq_true rfl, Nat.le_of_ble_eq_true rfl⟩) rfl rfl [] rfl hl.1 rfl (Nat.le_of_ble_eq_true rfl) dX7_weigh_2 ⟨Nat.zero_le _, Nat.zero_le _⟩ ?_
  refine lv_if_eq (pc := 5) (tgt := 18) hx hb dX7_weigh_5 (by decide) (fun cc => ?_) (fun cc => ?_)
  · replace h := am_t cc h
    refine lv_ldc (pc := 18) hx hb hown hk175 dX7_weigh_18 ?_
    obtain ⟨e1, e2, e3, e4⟩ := am_ret4 h
    exact hret _ _ _ _ _ dX7_weigh_20 rfl e1 (by rw [← e2, ← e3, ← e4]; exact hP) hS
  replace h := am_f cc h
  refine lv_iload_n (pc := 8) hx hb dX7_weigh_8 rfl (lv_at hl 2 rfl) ?_
  refine lv_iconst (v := 0) (pc := 9) hx hb dX7_weigh_9 (by decide) ?_
  refine lv_ldc (pc := 10) hx hb hown hk221 dX7_weigh_10 ?_
  obtain ⟨r2, hc2, h⟩ := am_bind_s h
  refine kc_Si (pc := 12) ⟨hx, hb, hml, hown, hts⟩ hP hK [.int p1, .int (0 : Int32), .int (1000000 : Int32)] (c_X7_in l D cI cJ p1 (0 : Int32) (1000000 : Int32) r2 hc2) [] rfl (cwS 3 hts (gzS wl176 wl177 wl5 wl178) rfl rfl rfl ⟨rfl, hdX7_in⟩ ⟨Nat.le_of_ble_eq_true rfl, Nat.le_of_ble_eq_true rfl⟩) [] rfl hl.1 rfl (Nat.le_of_ble_eq_true rfl) dX7_weigh_12 ⟨Nat.zero_le _, Nat.zero_le _⟩ ?_
  refine lv_if_ne (pc := 15) (tgt := 21) hx hb dX7_weigh_15 (by decide) (fun cc => ?_) (fun cc => ?_)
  · replace h := am_f cc h
    refine lv_iload_n (pc := 21) hx hb dX7_weigh_21 rfl (lv_at hl 2 rfl) ?_
    refine lv_aload_n (pc := 22) hx hb dX7_weigh_22 rfl (lv_at hl 0 rfl) ?_
    obtain ⟨r3, hc3, h⟩ := am_bind_s h
    refine kc_Vi (pc := 23) (ci := 7) ⟨hx, hb, hml, hown, hts⟩ hP hK [] (c_X7_sum l D cI cJ mself msa mpasta mhelda mtexta mchosena mtimesa mrestsa mbeforea mtolda mpasts mruns mtyped mspot mfrom mreason mcause morders mkind ms mpast mheld mtext mchosen mtimes mrests mbefore mtold r3 hc3) [0, 1, 2, 3, 4, 5, 6, 7, 8, 9] rfl (cwV 0 hts (gzV wl227 wl228 wl229 wl5 wl230) rfl rfl rfl ⟨rfl, hdX7_sum⟩ ⟨Nat.le_of_ble_eq_true rfl, Nat.le_of_ble_eq_true rfl⟩) rfl rfl [.int p1] rfl hl.1 rfl (Nat.le_of_ble_eq_true rfl) dX7_weigh_23 ⟨Nat.zero_le _, Nat.zero_le _⟩ ?_
    refine lv_iadd (pc := 26) hx hb dX7_weigh_26 ?_
    refine lv_aload_n (pc := 27) hx hb dX7_weigh_27 rfl (lv_at hl 0 rfl) ?_
    refine va_get (pc := 28) (D := D) (ci := 7) (v := .ref msa) (C := RX7) (T := TX7) (N := 18) hx hb hts hnX7 hown hK.1 hP 0 rfl rfl 0 (Nat.le_of_ble_eq_true rfl) hk121 (fun _ h9 => h9) rfl dX7_weigh_28 ?_
    refine lv_bipush (v := 8) (pc := 31) hx hb dX7_weigh_31 (by decide) ?_
    refine lv_iload_n (pc := 33) hx hb dX7_weigh_33 rfl (lv_at hl 1 rfl) ?_
    refine lv_iadd (pc := 34) hx hb dX7_weigh_34 ?_
    obtain ⟨hi, h⟩ := am_in_s h
    refine va_iald (pc := 35) hx hb hK.1 hP 1 0 rfl rfl hi dX7_weigh_35 ?_
    refine lv_isub (pc := 36) hx hb dX7_weigh_36 ?_
    refine lv_if_ne (pc := 37) (tgt := 43) hx hb dX7_weigh_37 (by decide) (fun cc => ?_) (fun cc => ?_)
    · replace h := am_f cc h
      refine lv_aload_n (pc := 43) hx hb dX7_weigh_43 rfl (lv_at hl 0 rfl) ?_
      obtain ⟨u4, f5, hc5, h⟩ := am_call2_s h
      refine kc_Wv (pc := 44) (ci := 7) ⟨hx, hb, hml, hown, hts⟩ hP hK hD hS hA [] (c_X7_changes l D cI cJ mself msa mpasta mhelda mtexta mchosena mtimesa mrestsa mbeforea mtolda mpasts mruns mtyped mspot mfrom mreason mcause morders mkind ms mpast mheld mtext mchosen mtimes mrests mbefore mtold u4 f5 hc5 _) [0, 1, 2, 3, 4, 5, 6, 7, 8, 9] rfl rfl rfl (cwV 0 hts (gzV wl179 wl180 wl181 wl5 wl182) rfl rfl rfl ⟨rfl, hdX7_changes⟩ ⟨Nat.le_of_ble_eq_true rfl, Nat.le_of_ble_eq_true rfl⟩) rfl rfl [] rfl hl.1 rfl (Nat.le_of_ble_eq_true rfl) dX7_weigh_44 ⟨Nat.zero_le _, Nat.zero_le _⟩ (fun H locs hP hD hS => ?_)
      replace hP : va_P D vwCl [(mself, .inr (7, [.ref msa, .ref mpasta, .ref mhelda, .int u4, .int mruns, .ref mtexta, .int mtyped, .ref mchosena, .ref mtimesa, .ref mrestsa, .ref mbeforea, .int mspot, .int mfrom, .int mreason, .int mcause, .int morders, .int mkind, .ref mtolda])), (msa, .inl (cI, 580, .inl ms)), (mpasta, .inl (cI, 2320, .inl f5)), (mhelda, .inl (cI, 580, .inl mheld)), (mtexta, .inl (cI, 60, .inl mtext)), (mchosena, .inl (cI, 12, .inl mchosen)), (mtimesa, .inl (cI, 12, .inl mtimes)), (mrestsa, .inl (cJ, 12, .inr (.inl mrests))), (mbeforea, .inl (cI, 12, .inl mbefore)), (mtolda, .inl (cI, 2, .inl mtold))] H := hP
      replace hD : va_D A [(mself, .inr (7, [.ref msa, .ref mpasta, .ref mhelda, .int u4, .int mruns, .ref mtexta, .int mtyped, .ref mchosena, .ref mtimesa, .ref mrestsa, .ref mbeforea, .int mspot, .int mfrom, .int mreason, .int mcause, .int morders, .int mkind, .ref mtolda])), (msa, .inl (cI, 580, .inl ms)), (mpasta, .inl (cI, 2320, .inl f5)), (mhelda, .inl (cI, 580, .inl mheld)), (mtexta, .inl (cI, 60, .inl mtext)), (mchosena, .inl (cI, 12, .inl mchosen)), (mtimesa, .inl (cI, 12, .inl mtimes)), (mrestsa, .inl (cJ, 12, .inr (.inl mrests))), (mbeforea, .inl (cI, 12, .inl mbefore)), (mtolda, .inl (cI, 2, .inl mtold))] := hD
      refine lv_aload_n (pc := 47) hx hb dX7_weigh_47 rfl (lv_at hl 0 rfl) ?_
      refine va_get (pc := 48) (D := D) (ci := 7) (v := .ref msa) (C := RX7) (T := TX7) (N := 18) hx hb hts hnX7 hown hK.1 hP 0 rfl rfl 0 (Nat.le_of_ble_eq_true rfl) hk121 (fun _ h9 => h9) rfl dX7_weigh_48 ?_
      refine lv_bipush (v := 8) (pc := 51) hx hb dX7_weigh_51 (by decide) ?_
      refine lv_iload_n (pc := 53) hx hb dX7_weigh_53 rfl (lv_at hl 1 rfl) ?_
      refine lv_iadd (pc := 54) hx hb dX7_weigh_54 ?_
      refine lv_iload_n (pc := 55) hx hb dX7_weigh_55 rfl (lv_at hl 2 rfl) ?_
      obtain ⟨hi, h⟩ := am_in_s h
      obtain ⟨f6, ef6⟩ : ∃ y : Nat → Int32, y = (upd ms ((8 : Int32) + p0).toNatClampNeg p1) := ⟨_, rfl⟩
      replace h := am_let_s ef6 h
      refine va_iast (pc := 56) hx hb hK.1 hP hD hS 1 0 rfl rfl hi dX7_weigh_56 (fun H locs hP hD hS => ?_)
      rw [← ef6] at hP hD
      replace hP : va_P D vwCl [(mself, .inr (7, [.ref msa, .ref mpasta, .ref mhelda, .int u4, .int mruns, .ref mtexta, .int mtyped, .ref mchosena, .ref mtimesa, .ref mrestsa, .ref mbeforea, .int mspot, .int mfrom, .int mreason, .int mcause, .int morders, .int mkind, .ref mtolda])), (msa, .inl (cI, 580, .inl f6)), (mpasta, .inl (cI, 2320, .inl f5)), (mhelda, .inl (cI, 580, .inl mheld)), (mtexta, .inl (cI, 60, .inl mtext)), (mchosena, .inl (cI, 12, .inl mchosen)), (mtimesa, .inl (cI, 12, .inl mtimes)), (mrestsa, .inl (cJ, 12, .inr (.inl mrests))), (mbeforea, .inl (cI, 12, .inl mbefore)), (mtolda, .inl (cI, 2, .inl mtold))] H := hP
      replace hD : va_D A [(mself, .inr (7, [.ref msa, .ref mpasta, .ref mhelda, .int u4, .int mruns, .ref mtexta, .int mtyped, .ref mchosena, .ref mtimesa, .ref mrestsa, .ref mbeforea, .int mspot, .int mfrom, .int mreason, .int mcause, .int morders, .int mkind, .ref mtolda])), (msa, .inl (cI, 580, .inl f6)), (mpasta, .inl (cI, 2320, .inl f5)), (mhelda, .inl (cI, 580, .inl mheld)), (mtexta, .inl (cI, 60, .inl mtext)), (mchosena, .inl (cI, 12, .inl mchosen)), (mtimesa, .inl (cI, 12, .inl mtimes)), (mrestsa, .inl (cJ, 12, .inr (.inl mrests))), (mbeforea, .inl (cI, 12, .inl mbefore)), (mtolda, .inl (cI, 2, .inl mtold))] := hD
      refine lv_aload_n (pc := 57) hx hb dX7_weigh_57 rfl (lv_at hl 0 rfl) ?_
      obtain ⟨r7, f8, hc8, h⟩ := am_call2_s h
      refine kc_Wi (pc := 58) (ci := 7) ⟨hx, hb, hml, hown, hts⟩ hP hK hD hS hA [] (c_X7_divides l D cI cJ mself msa mpasta mhelda mtexta mchosena mtimesa mrestsa mbeforea mtolda u4 mruns mtyped mspot mfrom mreason mcause morders mkind f6 f5 mheld mtext mchosen mtimes mrests mbefore mtold r7 f8 hc8 _) [0, 1, 2, 3, 4, 5, 6, 7, 8, 9] rfl rfl rfl (cwV 0 hts (gzV wl231 wl232 wl233 wl5 wl234) rfl rfl rfl ⟨rfl, hdX7_divides⟩ ⟨Nat.le_of_ble_eq_true rfl, Nat.le_of_ble_eq_true rfl⟩) rfl rfl [] rfl hl.1 rfl (Nat.le_of_ble_eq_true rfl) dX7_weigh_58 ⟨Nat.zero_le _, Nat.zero_le _⟩ (fun H locs hP hD hS => ?_)
      replace hP : va_P D vwCl [(mself, .inr (7, [.ref msa, .ref mpasta, .ref mhelda, .int u4, .int mruns, .ref mtexta, .int mtyped, .ref mchosena, .ref mtimesa, .ref mrestsa, .ref mbeforea, .int mspot, .int mfrom, .int mreason, .int mcause, .int morders, .int mkind, .ref mtolda])), (msa, .inl (cI, 580, .inl f8)), (mpasta, .inl (cI, 2320, .inl f5)), (mhelda, .inl (cI, 580, .inl mheld)), (mtexta, .inl (cI, 60, .inl mtext)), (mchosena, .inl (cI, 12, .inl mchosen)), (mtimesa, .inl (cI, 12, .inl mtimes)), (mrestsa, .inl (cJ, 12, .inr (.inl mrests))), (mbeforea, .inl (cI, 12, .inl mbefore)), (mtolda, .inl (cI, 2, .inl mtold))] H := hP
      replace hD : va_D A [(mself, .inr (7, [.ref msa, .ref mpasta, .ref mhelda, .int u4, .int mruns, .ref mtexta, .int mtyped, .ref mchosena, .ref mtimesa, .ref mrestsa, .ref mbeforea, .int mspot, .int mfrom, .int mreason, .int mcause, .int morders, .int mkind, .ref mtolda])), (msa, .inl (cI, 580, .inl f8)), (mpasta, .inl (cI, 2320, .inl f5)), (mhelda, .inl (cI, 580, .inl mheld)), (mtexta, .inl (cI, 60, .inl mtext)), (mchosena, .inl (cI, 12, .inl mchosen)), (mtimesa, .inl (cI, 12, .inl mtimes)), (mrestsa, .inl (cJ, 12, .inr (.inl mrests))), (mbeforea, .inl (cI, 12, .inl mbefore)), (mtolda, .inl (cI, 2, .inl mtold))] := hD
      refine lv_pop (pc := 61) hx hb dX7_weigh_61 rfl ?_
      refine lv_aload_n (pc := 62) hx hb dX7_weigh_62 rfl (lv_at hl 0 rfl) ?_
      refine va_get (pc := 63) (D := D) (ci := 7) (v := .ref msa) (C := RX7) (T := TX7) (N := 18) hx hb hts hnX7 hown hK.1 hP 0 rfl rfl 0 (Nat.le_of_ble_eq_true rfl) hk121 (fun _ h9 => h9) rfl dX7_weigh_63 ?_
      refine lv_bipush (v := 8) (pc := 66) hx hb dX7_weigh_66 (by decide) ?_
      refine lv_iload_n (pc := 68) hx hb dX7_weigh_68 rfl (lv_at hl 1 rfl) ?_
      refine lv_iadd (pc := 69) hx hb dX7_weigh_69 ?_
      obtain ⟨hi, h⟩ := am_in_s h
      refine va_iald (pc := 70) hx hb hK.1 hP 1 0 rfl rfl hi dX7_weigh_70 ?_
      obtain ⟨e1, e2, e3, e4⟩ := am_ret4 h
      exact hret _ _ _ _ _ dX7_weigh_71 rfl e1 (by rw [← e2, ← e3, ← e4]; exact hP) hS
    replace h := am_t cc h
    refine lv_ldc (pc := 40) hx hb hown hk222 dX7_weigh_40 ?_
    obtain ⟨e1, e2, e3, e4⟩ := am_ret4 h
    exact hret _ _ _ _ _ dX7_weigh_42 rfl e1 (by rw [← e2, ← e3, ← e4]; exact hP) hS
  replace h := am_t cc h
  refine lv_ldc (pc := 18) hx hb hown hk175 dX7_weigh_18 ?_
  obtain ⟨e1, e2, e3, e4⟩ := am_ret4 h
  exact hret _ _ _ _ _ dX7_weigh_20 rfl e1 (by rw [← e2, ← e3, ← e4]; exact hP) hS
theorem hdX7_move : yX7_move.cls ≠ "java/lang/invoke/MethodHandle" ∧ yX7_move.cls ≠ "java/lang/invoke/VarHandle" ∧ (parseMethodDescriptor yX7_move.desc).map (fun d => d.parameters.length) = some 2 := by decide +kernel
abbrev rmX7_move : Room := { frames := 1, cells := 0, slots := 0, locals := 26 }
set_option maxHeartbeats 20000000 in
set_option maxRecDepth 100000 in
theorem c_X7_move (l : Launch) (D : va_G) (cI cJ : ClassId) (mself : Nat) (msa : Nat) (mpasta : Nat) (mhelda : Nat) (mtexta : Nat) (mchosena : Nat) (mtimesa : Nat) (mrestsa : Nat) (mbeforea : Nat) (mtolda : Nat) (mpasts : Int32) (mruns : Int32) (mtyped : Int32) (mspot : Int32) (mfrom : Int32) (mreason : Int32) (mcause : Int32) (morders : Int32) (mkind : Int32) (ms : Nat → Int32) (mpast : Nat → Int32) (mheld : Nat → Int32) (mtext : Nat → Int32) (mchosen : Nat → Int32) (mtimes : Nat → Int32) (mrests : Nat → Int64) (mbefore : Nat → Int32) (mtold : Nat → Int32) (p0 : Int32) (p1 : Int32) (r0 : Int32) (zmpasts : Int32) (zms : Nat → Int32) (zmpast : Nat → Int32) (hF : F_X7_move mpasts mruns ms mpast p0 p1 = some (r0, zmpasts, zms, zmpast)) (sz : Nat) : Met l yX7_move (wz yX7_move cX7_move 6 (some .int)) rmX7_move (kPw D cI cJ [(mself, .inr (7, [.ref msa, .ref mpasta, .ref mhelda, .int mpasts, .int mruns, .ref mtexta, .int mtyped, .ref mchosena, .ref mtimesa, .ref mrestsa, .ref mbeforea, .int mspot, .int mfrom, .int mreason, .int mcause, .int morders, .int mkind, .ref mtolda])), (msa, .inl (cI, 580, .inl ms)), (mpasta, .inl (cI, 2320, .inl mpast)), (mhelda, .inl (cI, 580, .inl mheld)), (mtexta, .inl (cI, 60, .inl mtext)), (mchosena, .inl (cI, 12, .inl mchosen)), (mtimesa, .inl (cI, 12, .inl mtimes)), (mrestsa, .inl (cJ, 12, .inr (.inl mrests))), (mbeforea, .inl (cI, 12, .inl mbefore)), (mtolda, .inl (cI, 2, .inl mtold))] sz [.ref mself, .int p0, .int p1]) (kQi D r0 [(mself, .inr (7, [.ref msa, .ref mpasta, .ref mhelda, .int zmpasts, .int mruns, .ref mtexta, .int mtyped, .ref mchosena, .ref mtimesa, .ref mrestsa, .ref mbeforea, .int mspot, .int mfrom, .int mreason, .int mcause, .int morders, .int mkind, .ref mtolda])), (msa, .inl (cI, 580, .inl zms)), (mpasta, .inl (cI, 2320, .inl zmpast)), (mhelda, .inl (cI, 580, .inl mheld)), (mtexta, .inl (cI, 60, .inl mtext)), (mchosena, .inl (cI, 12, .inl mchosen)), (mtimesa, .inl (cI, 12, .inl mtimes)), (mrestsa, .inl (cJ, 12, .inr (.inl mrests))), (mbeforea, .inl (cI, 12, .inl mbefore)), (mtolda, .inl (cI, 2, .inl mtold))] (va_A [(mself, .inr (7, [.ref msa, .ref mpasta, .ref mhelda, .int mpasts, .int mruns, .ref mtexta, .int mtyped, .ref mchosena, .ref mtimesa, .ref mrestsa, .ref mbeforea, .int mspot, .int mfrom, .int mreason, .int mcause, .int morders, .int mkind, .ref mtolda])), (msa, .inl (cI, 580, .inl ms)), (mpasta, .inl (cI, 2320, .inl mpast)), (mhelda, .inl (cI, 580, .inl mheld)), (mtexta, .inl (cI, 60, .inl mtext)), (mchosena, .inl (cI, 12, .inl mchosen)), (mtimesa, .inl (cI, 12, .inl mtimes)), (mrestsa, .inl (cJ, 12, .inr (.inl mrests))), (mbeforea, .inl (cI, 12, .inl mbefore)), (mtolda, .inl (cI, 2, .inl mtold))] sz)) 0 0 (va_A [(mself, .inr (7, [.ref msa, .ref mpasta, .ref mhelda, .int mpasts, .int mruns, .ref mtexta, .int mtyped, .ref mchosena, .ref mtimesa, .ref mrestsa, .ref mbeforea, .int mspot, .int mfrom, .int mreason, .int mcause, .int morders, .int mkind, .ref mtolda])), (msa, .inl (cI, 580, .inl ms)), (mpasta, .inl (cI, 2320, .inl mpast)), (mhelda, .inl (cI, 580, .inl mheld)), (mtexta, .inl (cI, 60, .inl mtext)), (mchosena, .inl (cI, 12, .inl mchosen)), (mtimesa, .inl (cI, 12, .inl mtimes)), (mrestsa, .inl (cJ, 12, .inr (.inl mrests))), (mbeforea, .inl (cI, 12, .inl mbefore)), (mtolda, .inl (cI, 2, .inl mtold))] sz) := by
  refine kM_wi cX7_move 6 .int (by decide +kernel) rfl rfl (Nat.le_of_ble_eq_true rfl) ⟨rfl, rfl⟩ ?_
  intro p e s m args below meth c Q A ls hx hb hml hown hts hP hK hD hA hS hl hret
  have hk121 := hts _ (List.mem_cons_of_mem _ wl121)
  have hk175 := hts _ (List.mem_cons_of_mem _ wl175)
  have hk275 := hts _ (List.mem_cons_of_mem _ wl275)
  have hnX7 : ∀ w ∈ u_ws RX7 TX7 18, w ∈ wz yX7_move cX7_move 6 (some .int) := fun w h => List.mem_cons_of_mem _ (inlX7 w h)
  replace hl : lv_has ls 6 [(0, .ref mself), (1, .int p0), (2, .int p1)] := hl
  have h := hF
  unfold F_X7_move at h
  refine lv_iload_n (pc := 0) hx hb dX7_move_0 rfl (lv_at hl 1 rfl) ?_
  refine lv_bipush (v := -99) (pc := 1) hx hb dX7_move_1 (by decide) ?_
  refine lv_bipush (v := 99) (pc := 3) hx hb dX7_move_3 (by decide) ?_
  obtain ⟨r1, hc1, h⟩ := am_bind_s h
  refine kc_Si (pc := 5) ⟨hx, hb, hml, hown, hts⟩ hP hK [.int p0, .int (-99 : Int32), .int (99 : Int32)] (c_X7_in l D cI cJ p0 (-99 : Int32) (99 : Int32) r1 hc1) [] rfl (cwS 3 hts (gzS wl176 wl177 wl5 wl178) rfl rfl rfl ⟨rfl, hdX7_in⟩ ⟨Nat.le_of_ble_eq_true rfl, Nat.le_of_ble_eq_true rfl⟩) [] rfl hl.1 rfl (Nat.le_of_ble_eq_true rfl) dX7_move_5 ⟨Nat.zero_le _, Nat.zero_le _⟩ ?_
  refine lv_if_eq (pc := 8) (tgt := 21) hx hb dX7_move_8 (by decide) (fun cc => ?_) (fun cc => ?_)
  · replace h := am_t cc h
    refine lv_ldc (pc := 21) hx hb hown hk175 dX7_move_21 ?_
    obtain ⟨e1, e2, e3, e4⟩ := am_ret4 h
    exact hret _ _ _ _ _ dX7_move_23 rfl e1 (by rw [← e2, ← e3, ← e4]; exact hP) hS
  replace h := am_f cc h
  refine lv_iload_n (pc := 11) hx hb dX7_move_11 rfl (lv_at hl 2 rfl) ?_
  refine lv_iconst (v := 0) (pc := 12) hx hb dX7_move_12 (by decide) ?_
  refine lv_bipush (v := 99) (pc := 13) hx hb dX7_move_13 (by decide) ?_
  obtain ⟨r2, hc2, h⟩ := am_bind_s h
  refine kc_Si (pc := 15) ⟨hx, hb, hml, hown, hts⟩ hP hK [.int p1, .int (0 : Int32), .int (99 : Int32)] (c_X7_in l D cI cJ p1 (0 : Int32) (99 : Int32) r2 hc2) [] rfl (cwS 3 hts (gzS wl176 wl177 wl5 wl178) rfl rfl rfl ⟨rfl, hdX7_in⟩ ⟨Nat.le_of_ble_eq_true rfl, Nat.le_of_ble_eq_true rfl⟩) [] rfl hl.1 rfl (Nat.le_of_ble_eq_true rfl) dX7_move_15 ⟨Nat.zero_le _, Nat.zero_le _⟩ ?_
  refine lv_if_ne (pc := 18) (tgt := 24) hx hb dX7_move_18 (by decide) (fun cc => ?_) (fun cc => ?_)
  · replace h := am_f cc h
    refine lv_aload_n (pc := 24) hx hb dX7_move_24 rfl (lv_at hl 0 rfl) ?_
    refine va_get (pc := 25) (D := D) (ci := 7) (v := .ref msa) (C := RX7) (T := TX7) (N := 18) hx hb hts hnX7 hown hK.1 hP 0 rfl rfl 0 (Nat.le_of_ble_eq_true rfl) hk121 (fun _ h9 => h9) rfl dX7_move_25 ?_
    refine lv_iconst (v := 1) (pc := 28) hx hb dX7_move_28 (by decide) ?_
    refine va_iald (pc := 29) hx hb hK.1 hP 1 0 rfl rfl (vp_in_nI (n := 1) (N := 580) (by decide) (by decide)) dX7_move_29 ?_
    refine lv_bipush (v := 20) (pc := 30) hx hb dX7_move_30 (by decide) ?_
    refine lv_icmp_ne (pc := 32) (tgt := 38) hx hb dX7_move_32 (by decide) (fun cc => ?_) (fun cc => ?_)
    · replace h := am_f cc h
      refine lv_aload_n (pc := 38) hx hb dX7_move_38 rfl (lv_at hl 0 rfl) ?_
      obtain ⟨u3, f4, hc4, h⟩ := am_call2_s h
      refine kc_Wv (pc := 39) (ci := 7) ⟨hx, hb, hml, hown, hts⟩ hP hK hD hS hA [] (c_X7_changes l D cI cJ mself msa mpasta mhelda mtexta mchosena mtimesa mrestsa mbeforea mtolda mpasts mruns mtyped mspot mfrom mreason mcause morders mkind ms mpast mheld mtext mchosen mtimes mrests mbefore mtold u3 f4 hc4 _) [0, 1, 2, 3, 4, 5, 6, 7, 8, 9] rfl rfl rfl (cwV 0 hts (gzV wl179 wl180 wl181 wl5 wl182) rfl rfl rfl ⟨rfl, hdX7_changes⟩ ⟨Nat.le_of_ble_eq_true rfl, Nat.le_of_ble_eq_true rfl⟩) rfl rfl [] rfl hl.1 rfl (Nat.le_of_ble_eq_true rfl) dX7_move_39 ⟨Nat.zero_le _, Nat.zero_le _⟩ (fun H locs hP hD hS => ?_)
      replace hP : va_P D vwCl [(mself, .inr (7, [.ref msa, .ref mpasta, .ref mhelda, .int u3, .int mruns, .ref mtexta, .int mtyped, .ref mchosena, .ref mtimesa, .ref mrestsa, .ref mbeforea, .int mspot, .int mfrom, .int mreason, .int mcause, .int morders, .int mkind, .ref mtolda])), (msa, .inl (cI, 580, .inl ms)), (mpasta, .inl (cI, 2320, .inl f4)), (mhelda, .inl (cI, 580, .inl mheld)), (mtexta, .inl (cI, 60, .inl mtext)), (mchosena, .inl (cI, 12, .inl mchosen)), (mtimesa, .inl (cI, 12, .inl mtimes)), (mrestsa, .inl (cJ, 12, .inr (.inl mrests))), (mbeforea, .inl (cI, 12, .inl mbefore)), (mtolda, .inl (cI, 2, .inl mtold))] H := hP
      replace hD : va_D A [(mself, .inr (7, [.ref msa, .ref mpasta, .ref mhelda, .int u3, .int mruns, .ref mtexta, .int mtyped, .ref mchosena, .ref mtimesa, .ref mrestsa, .ref mbeforea, .int mspot, .int mfrom, .int mreason, .int mcause, .int morders, .int mkind, .ref mtolda])), (msa, .inl (cI, 580, .inl ms)), (mpasta, .inl (cI, 2320, .inl f4)), (mhelda, .inl (cI, 580, .inl mheld)), (mtexta, .inl (cI, 60, .inl mtext)), (mchosena, .inl (cI, 12, .inl mchosen)), (mtimesa, .inl (cI, 12, .inl mtimes)), (mrestsa, .inl (cJ, 12, .inr (.inl mrests))), (mbeforea, .inl (cI, 12, .inl mbefore)), (mtolda, .inl (cI, 2, .inl mtold))] := hD
      refine lv_aload_n (pc := 42) hx hb dX7_move_42 rfl (lv_at hl 0 rfl) ?_
      refine lv_iconst (v := 1) (pc := 43) hx hb dX7_move_43 (by decide) ?_
      refine lv_iload_n (pc := 44) hx hb dX7_move_44 rfl (lv_at hl 1 rfl) ?_
      refine lv_iload_n (pc := 45) hx hb dX7_move_45 rfl (lv_at hl 2 rfl) ?_
      refine lv_iconst (v := 0) (pc := 46) hx hb dX7_move_46 (by decide) ?_
      obtain ⟨r5, f6, hc6, h⟩ := am_call2_s h
      refine kc_Wi (pc := 47) (ci := 7) ⟨hx, hb, hml, hown, hts⟩ hP hK hD hS hA [.int (1 : Int32), .int p0, .int p1, .int (0 : Int32)] (c_X7_follows l D cI cJ mself msa mpasta mhelda mtexta mchosena mtimesa mrestsa mbeforea mtolda u3 mruns mtyped mspot mfrom mreason mcause morders mkind ms f4 mheld mtext mchosen mtimes mrests mbefore mtold (1 : Int32) p0 p1 (0 : Int32) r5 f6 hc6 _) [0, 1, 2, 3, 4, 5, 6, 7, 8, 9] rfl rfl rfl (cwV 4 hts (gzV wl276 wl277 wl278 wl5 wl279) rfl rfl rfl ⟨rfl, hdX7_follows⟩ ⟨Nat.le_of_ble_eq_true rfl, Nat.le_of_ble_eq_true rfl⟩) rfl rfl [] rfl hl.1 rfl (Nat.le_of_ble_eq_true rfl) dX7_move_47 ⟨Nat.zero_le _, Nat.zero_le _⟩ (fun H locs hP hD hS => ?_)
      replace hP : va_P D vwCl [(mself, .inr (7, [.ref msa, .ref mpasta, .ref mhelda, .int u3, .int mruns, .ref mtexta, .int mtyped, .ref mchosena, .ref mtimesa, .ref mrestsa, .ref mbeforea, .int mspot, .int mfrom, .int mreason, .int mcause, .int morders, .int mkind, .ref mtolda])), (msa, .inl (cI, 580, .inl f6)), (mpasta, .inl (cI, 2320, .inl f4)), (mhelda, .inl (cI, 580, .inl mheld)), (mtexta, .inl (cI, 60, .inl mtext)), (mchosena, .inl (cI, 12, .inl mchosen)), (mtimesa, .inl (cI, 12, .inl mtimes)), (mrestsa, .inl (cJ, 12, .inr (.inl mrests))), (mbeforea, .inl (cI, 12, .inl mbefore)), (mtolda, .inl (cI, 2, .inl mtold))] H := hP
      replace hD : va_D A [(mself, .inr (7, [.ref msa, .ref mpasta, .ref mhelda, .int u3, .int mruns, .ref mtexta, .int mtyped, .ref mchosena, .ref mtimesa, .ref mrestsa, .ref mbeforea, .int mspot, .int mfrom, .int mreason, .int mcause, .int morders, .int mkind, .ref mtolda])), (msa, .inl (cI, 580, .inl f6)), (mpasta, .inl (cI, 2320, .inl f4)), (mhelda, .inl (cI, 580, .inl mheld)), (mtexta, .inl (cI, 60, .inl mtext)), (mchosena, .inl (cI, 12, .inl mchosen)), (mtimesa, .inl (cI, 12, .inl mtimes)), (mrestsa, .inl (cJ, 12, .inr (.inl mrests))), (mbeforea, .inl (cI, 12, .inl mbefore)), (mtolda, .inl (cI, 2, .inl mtold))] := hD
      refine lv_istore_n (lv' := [(3, .int r5), (0, .ref mself), (1, .int p0), (2, .int p1)]) (pc := 50) hx hb dX7_move_50 rfl hl (by decide) rfl (fun ls hl => ?_)
      refine lv_iconst (v := 0) (pc := 51) hx hb dX7_move_51 (by decide) ?_
      refine lv_istore (lv' := [(4, .int (0 : Int32)), (3, .int r5), (0, .ref mself), (1, .int p0), (2, .int p1)]) (pc := 52) hx hb dX7_move_52 hl (by decide) rfl (fun ls hl => ?_)
      refine am_join1_s (fun (f7 : Nat → Int32) => ∀ (ls : Array Slot), lv_has ls 6 [(3, .int r5)] → ∀ (H : Heap) (locs : List Loc), va_P D vwCl [(mself, .inr (7, [.ref msa, .ref mpasta, .ref mhelda, .int u3, .int mruns, .ref mtexta, .int mtyped, .ref mchosena, .ref mtimesa, .ref mrestsa, .ref mbeforea, .int mspot, .int mfrom, .int mreason, .int mcause, .int morders, .int mkind, .ref mtolda])), (msa, .inl (cI, 580, .inl f7)), (mpasta, .inl (cI, 2320, .inl f4)), (mhelda, .inl (cI, 580, .inl mheld)), (mtexta, .inl (cI, 60, .inl mtext)), (mchosena, .inl (cI, 12, .inl mchosen)), (mtimesa, .inl (cI, 12, .inl mtimes)), (mrestsa, .inl (cJ, 12, .inr (.inl mrests))), (mbeforea, .inl (cI, 12, .inl mbefore)), (mtolda, .inl (cI, 2, .inl mtold))] H → va_D A [(mself, .inr (7, [.ref msa, .ref mpasta, .ref mhelda, .int u3, .int mruns, .ref mtexta, .int mtyped, .ref mchosena, .ref mtimesa, .ref mrestsa, .ref mbeforea, .int mspot, .int mfrom, .int mreason, .int mcause, .int morders, .int mkind, .ref mtolda])), (msa, .inl (cI, 580, .inl f7)), (mpasta, .inl (cI, 2320, .inl f4)), (mhelda, .inl (cI, 580, .inl mheld)), (mtexta, .inl (cI, 60, .inl mtext)), (mchosena, .inl (cI, 12, .inl mchosen)), (mtimesa, .inl (cI, 12, .inl mtimes)), (mrestsa, .inl (cJ, 12, .inr (.inl mrests))), (mbeforea, .inl (cI, 12, .inl mbefore)), (mtolda, .inl (cI, 2, .inl mtold))] → va_S A s.heap H locs → W p l e rmX7_move s m args below meth c H locs 0 0 Q (F0 m 153 ls [])) h (fun f7 h ls hl H locs hP hD hS => ?_) (fun K8 hK8 h => ?_)
      · refine lv_iload_n (pc := 153) hx hb dX7_move_153 rfl (lv_at hl 0 rfl) ?_
        obtain ⟨e1, e2, e3, e4⟩ := am_ret4 h
        exact hret _ _ _ _ _ dX7_move_154 rfl e1 (by rw [← e2, ← e3, ← e4]; exact hP) hS
      refine am_loop2_s (fun (x9 : Int32) (f10 : Nat → Int32) => ∀ (ls : Array Slot), lv_has ls 6 [(0, .ref mself), (1, .int p0), (2, .int p1), (3, .int r5), (4, .int x9)] → ∀ (H : Heap) (locs : List Loc), va_P D vwCl [(mself, .inr (7, [.ref msa, .ref mpasta, .ref mhelda, .int u3, .int mruns, .ref mtexta, .int mtyped, .ref mchosena, .ref mtimesa, .ref mrestsa, .ref mbeforea, .int mspot, .int mfrom, .int mreason, .int mcause, .int morders, .int mkind, .ref mtolda])), (msa, .inl (cI, 580, .inl f10)), (mpasta, .inl (cI, 2320, .inl f4)), (mhelda, .inl (cI, 580, .inl mheld)), (mtexta, .inl (cI, 60, .inl mtext)), (mchosena, .inl (cI, 12, .inl mchosen)), (mtimesa, .inl (cI, 12, .inl mtimes)), (mrestsa, .inl (cJ, 12, .inr (.inl mrests))), (mbeforea, .inl (cI, 12, .inl mbefore)), (mtolda, .inl (cI, 2, .inl mtold))] H → va_D A [(mself, .inr (7, [.ref msa, .ref mpasta, .ref mhelda, .int u3, .int mruns, .ref mtexta, .int mtyped, .ref mchosena, .ref mtimesa, .ref mrestsa, .ref mbeforea, .int mspot, .int mfrom, .int mreason, .int mcause, .int morders, .int mkind, .ref mtolda])), (msa, .inl (cI, 580, .inl f10)), (mpasta, .inl (cI, 2320, .inl f4)), (mhelda, .inl (cI, 580, .inl mheld)), (mtexta, .inl (cI, 60, .inl mtext)), (mchosena, .inl (cI, 12, .inl mchosen)), (mtimesa, .inl (cI, 12, .inl mtimes)), (mrestsa, .inl (cJ, 12, .inr (.inl mrests))), (mbeforea, .inl (cI, 12, .inl mbefore)), (mtolda, .inl (cI, 2, .inl mtold))] → va_S A s.heap H locs → W p l e rmX7_move s m args below meth c H locs 0 0 Q (F0 m 54 ls [])) (fun rec11 ihrec11 x9 f10 h ls hl H locs hP hD hS => ?_) _ _ _ h ls (lv_sub hl [2, 3, 4, 1, 0] rfl) H locs hP hD hS
      unfold F_X7_move_B54 at h
      refine lv_iload (pc := 54) hx hb dX7_move_54 (lv_at hl 4 rfl) ?_
      refine lv_aload_n (pc := 56) hx hb dX7_move_56 rfl (lv_at hl 0 rfl) ?_
      refine va_get (pc := 57) (D := D) (ci := 7) (v := .ref msa) (C := RX7) (T := TX7) (N := 18) hx hb hts hnX7 hown hK.1 hP 0 rfl rfl 0 (Nat.le_of_ble_eq_true rfl) hk121 (fun _ h9 => h9) rfl dX7_move_57 ?_
      refine lv_iconst (v := 0) (pc := 60) hx hb dX7_move_60 (by decide) ?_
      refine va_iald (pc := 61) hx hb hK.1 hP 1 0 rfl rfl (vp_in_nI (n := 0) (N := 580) (by decide) (by decide)) dX7_move_61 ?_
      refine lv_icmp_ge (pc := 62) (tgt := 153) hx hb dX7_move_62 (by decide) (fun cc => ?_) (fun cc => ?_)
      · replace h := am_t cc h
        exact hK8 _ h ls (lv_sub hl [3] rfl) H locs hP hD hS
      replace h := am_f cc h
      refine lv_aload_n (pc := 65) hx hb dX7_move_65 rfl (lv_at hl 0 rfl) ?_
      refine lv_iload_n (pc := 66) hx hb dX7_move_66 rfl (lv_at hl 3 rfl) ?_
      refine lv_iconst (v := 1) (pc := 67) hx hb dX7_move_67 (by decide) ?_
      refine lv_isub (pc := 68) hx hb dX7_move_68 ?_
      refine lv_iload (pc := 69) hx hb dX7_move_69 (lv_at hl 4 rfl) ?_
      obtain ⟨r12, hc12, h⟩ := am_bind_s h
      refine kc_Vi (pc := 71) (ci := 7) ⟨hx, hb, hml, hown, hts⟩ hP hK [.int (r5 - (1 : Int32)), .int x9] (c_X7_placeIn l D cI cJ mself msa mpasta mhelda mtexta mchosena mtimesa mrestsa mbeforea mtolda u3 mruns mtyped mspot mfrom mreason mcause morders mkind f10 f4 mheld mtext mchosen mtimes mrests mbefore mtold (r5 - (1 : Int32)) x9 r12 hc12) [0, 1, 2, 3, 4, 5, 6, 7, 8, 9] rfl (cwV 2 hts (gzV wl280 wl281 wl282 wl5 wl283) rfl rfl rfl ⟨rfl, hdX7_placeIn⟩ ⟨Nat.le_of_ble_eq_true rfl, Nat.le_of_ble_eq_true rfl⟩) rfl rfl [] rfl hl.1 rfl (Nat.le_of_ble_eq_true rfl) dX7_move_71 ⟨Nat.zero_le _, Nat.zero_le _⟩ ?_
      refine lv_iload_n (pc := 74) hx hb dX7_move_74 rfl (lv_at hl 1 rfl) ?_
      refine lv_iadd (pc := 75) hx hb dX7_move_75 ?_
      refine lv_aload_n (pc := 76) hx hb dX7_move_76 rfl (lv_at hl 0 rfl) ?_
      obtain ⟨r13, f14, hc14, h⟩ := am_call2_s h
      refine kc_Wi (pc := 77) (ci := 7) ⟨hx, hb, hml, hown, hts⟩ hP hK hD hS hA [] (c_X7_takes l D cI cJ mself msa mpasta mhelda mtexta mchosena mtimesa mrestsa mbeforea mtolda u3 mruns mtyped mspot mfrom mreason mcause morders mkind f10 f4 mheld mtext mchosen mtimes mrests mbefore mtold r13 f14 hc14 _) [0, 1, 2, 3, 4, 5, 6, 7, 8, 9] rfl rfl rfl (cwV 0 hts (gzV wl284 wl285 wl286 wl5 wl287) rfl rfl rfl ⟨rfl, hdX7_takes⟩ ⟨Nat.le_of_ble_eq_true rfl, Nat.le_of_ble_eq_true rfl⟩) rfl rfl [.int (r12 + p0)] rfl hl.1 rfl (Nat.le_of_ble_eq_true rfl) dX7_move_77 ⟨Nat.zero_le _, Nat.zero_le _⟩ (fun H locs hP hD hS => ?_)
      replace hP : va_P D vwCl [(mself, .inr (7, [.ref msa, .ref mpasta, .ref mhelda, .int u3, .int mruns, .ref mtexta, .int mtyped, .ref mchosena, .ref mtimesa, .ref mrestsa, .ref mbeforea, .int mspot, .int mfrom, .int mreason, .int mcause, .int morders, .int mkind, .ref mtolda])), (msa, .inl (cI, 580, .inl f14)), (mpasta, .inl (cI, 2320, .inl f4)), (mhelda, .inl (cI, 580, .inl mheld)), (mtexta, .inl (cI, 60, .inl mtext)), (mchosena, .inl (cI, 12, .inl mchosen)), (mtimesa, .inl (cI, 12, .inl mtimes)), (mrestsa, .inl (cJ, 12, .inr (.inl mrests))), (mbeforea, .inl (cI, 12, .inl mbefore)), (mtolda, .inl (cI, 2, .inl mtold))] H := hP
      replace hD : va_D A [(mself, .inr (7, [.ref msa, .ref mpasta, .ref mhelda, .int u3, .int mruns, .ref mtexta, .int mtyped, .ref mchosena, .ref mtimesa, .ref mrestsa, .ref mbeforea, .int mspot, .int mfrom, .int mreason, .int mcause, .int morders, .int mkind, .ref mtolda])), (msa, .inl (cI, 580, .inl f14)), (mpasta, .inl (cI, 2320, .inl f4)), (mhelda, .inl (cI, 580, .inl mheld)), (mtexta, .inl (cI, 60, .inl mtext)), (mchosena, .inl (cI, 12, .inl mchosen)), (mtimesa, .inl (cI, 12, .inl mtimes)), (mrestsa, .inl (cJ, 12, .inr (.inl mrests))), (mbeforea, .inl (cI, 12, .inl mbefore)), (mtolda, .inl (cI, 2, .inl mtold))] := hD
      refine lv_iconst (v := 2) (pc := 80) hx hb dX7_move_80 (by decide) ?_
      refine lv_iload_n (pc := 81) hx hb dX7_move_81 rfl (lv_at hl 2 rfl) ?_
      refine lv_imul (pc := 82) hx hb dX7_move_82 ?_
      refine lv_iconst (v := 1) (pc := 83) hx hb dX7_move_83 (by decide) ?_
      refine lv_iadd (pc := 84) hx hb dX7_move_84 ?_
      obtain ⟨hz, h⟩ := am_nz_s h
      refine lv_irem (pc := 85) hx hb dX7_move_85 hz ?_
      refine lv_iadd (pc := 86) hx hb dX7_move_86 ?_
      refine lv_iload_n (pc := 87) hx hb dX7_move_87 rfl (lv_at hl 2 rfl) ?_
      refine lv_isub (pc := 88) hx hb dX7_move_88 ?_
      refine lv_topi (fun x15 ex15 => ?_)
      replace h := am_let_s ex15 h
      refine lv_istore (lv' := [(5, .int x15), (0, .ref mself), (1, .int p0), (2, .int p1), (3, .int r5), (4, .int x9)]) (pc := 89) hx hb dX7_move_89 hl (by decide) rfl (fun ls hl => ?_)
      refine lv_aload_n (pc := 91) hx hb dX7_move_91 rfl (lv_at hl 1 rfl) ?_
      refine va_get (pc := 92) (D := D) (ci := 7) (v := .ref msa) (C := RX7) (T := TX7) (N := 18) hx hb hts hnX7 hown hK.1 hP 0 rfl rfl 0 (Nat.le_of_ble_eq_true rfl) hk121 (fun _ h9 => h9) rfl dX7_move_92 ?_
      refine lv_bipush (v := 100) (pc := 95) hx hb dX7_move_95 (by decide) ?_
      refine lv_bipush (v := 12) (pc := 97) hx hb dX7_move_97 (by decide) ?_
      refine lv_iload_n (pc := 99) hx hb dX7_move_99 rfl (lv_at hl 4 rfl) ?_
      refine lv_imul (pc := 100) hx hb dX7_move_100 ?_
      refine lv_iadd (pc := 101) hx hb dX7_move_101 ?_
      refine lv_iload (pc := 102) hx hb dX7_move_102 (lv_at hl 5 rfl) ?_
      refine lv_iadd (pc := 104) hx hb dX7_move_104 ?_
      refine lv_iload (pc := 105) hx hb dX7_move_105 (lv_at hl 5 rfl) ?_
      obtain ⟨hi, h⟩ := am_in_s h
      obtain ⟨f16, ef16⟩ : ∃ y : Nat → Int32, y = (upd f14 (((100 : Int32) + ((12 : Int32) * r5)) + x9).toNatClampNeg x9) := ⟨_, rfl⟩
      replace h := am_let_s ef16 h
      refine va_iast (pc := 107) hx hb hK.1 hP hD hS 1 0 rfl rfl hi dX7_move_107 (fun H locs hP hD hS => ?_)
      rw [← ef16] at hP hD
      replace hP : va_P D vwCl [(mself, .inr (7, [.ref msa, .ref mpasta, .ref mhelda, .int u3, .int mruns, .ref mtexta, .int mtyped, .ref mchosena, .ref mtimesa, .ref mrestsa, .ref mbeforea, .int mspot, .int mfrom, .int mreason, .int mcause, .int morders, .int mkind, .ref mtolda])), (msa, .inl (cI, 580, .inl f16)), (mpasta, .inl (cI, 2320, .inl f4)), (mhelda, .inl (cI, 580, .inl mheld)), (mtexta, .inl (cI, 60, .inl mtext)), (mchosena, .inl (cI, 12, .inl mchosen)), (mtimesa, .inl (cI, 12, .inl mtimes)), (mrestsa, .inl (cJ, 12, .inr (.inl mrests))), (mbeforea, .inl (cI, 12, .inl mbefore)), (mtolda, .inl (cI, 2, .inl mtold))] H := hP
      replace hD : va_D A [(mself, .inr (7, [.ref msa, .ref mpasta, .ref mhelda, .int u3, .int mruns, .ref mtexta, .int mtyped, .ref mchosena, .ref mtimesa, .ref mrestsa, .ref mbeforea, .int mspot, .int mfrom, .int mreason, .int mcause, .int morders, .int mkind, .ref mtolda])), (msa, .inl (cI, 580, .inl f16)), (mpasta, .inl (cI, 2320, .inl f4)), (mhelda, .inl (cI, 580, .inl mheld)), (mtexta, .inl (cI, 60, .inl mtext)), (mchosena, .inl (cI, 12, .inl mchosen)), (mtimesa, .inl (cI, 12, .inl mtimes)), (mrestsa, .inl (cJ, 12, .inr (.inl mrests))), (mbeforea, .inl (cI, 12, .inl mbefore)), (mtolda, .inl (cI, 2, .inl mtold))] := hD
      refine lv_aload_n (pc := 108) hx hb dX7_move_108 rfl (lv_at hl 1 rfl) ?_
      refine va_get (pc := 109) (D := D) (ci := 7) (v := .ref msa) (C := RX7) (T := TX7) (N := 18) hx hb hts hnX7 hown hK.1 hP 0 rfl rfl 0 (Nat.le_of_ble_eq_true rfl) hk121 (fun _ h9 => h9) rfl dX7_move_109 ?_
      refine lv_sipush (v := 340) (pc := 112) hx hb dX7_move_112 (by decide) ?_
      refine lv_bipush (v := 12) (pc := 115) hx hb dX7_move_115 (by decide) ?_
      refine lv_iload_n (pc := 117) hx hb dX7_move_117 rfl (lv_at hl 4 rfl) ?_
      refine lv_imul (pc := 118) hx hb dX7_move_118 ?_
      refine lv_iadd (pc := 119) hx hb dX7_move_119 ?_
      refine lv_iload (pc := 120) hx hb dX7_move_120 (lv_at hl 5 rfl) ?_
      refine lv_iadd (pc := 122) hx hb dX7_move_122 ?_
      refine lv_iload (pc := 123) hx hb dX7_move_123 (lv_at hl 0 rfl) ?_
      refine lv_if_ge (pc := 125) (tgt := 132) hx hb dX7_move_125 (by decide) (fun cc => ?_) (fun cc => ?_)
      · replace h := am_t cc h
        refine lv_iload (pc := 132) hx hb dX7_move_132 (lv_at hl 0 rfl) ?_
        refine lv_bipush (v := 99) (pc := 134) hx hb dX7_move_134 (by decide) ?_
        refine lv_icmp_le (pc := 136) (tgt := 144) hx hb dX7_move_136 (by decide) (fun cc => ?_) (fun cc => ?_)
        · replace h := am_t cc h
          refine lv_iload (pc := 144) hx hb dX7_move_144 (lv_at hl 0 rfl) ?_
          obtain ⟨hi, h⟩ := am_in_s h
          obtain ⟨f17, ef17⟩ : ∃ y : Nat → Int32, y = (upd f16 (((340 : Int32) + ((12 : Int32) * r5)) + x9).toNatClampNeg x15) := ⟨_, rfl⟩
          replace h := am_let_s ef17 h
          refine va_iast (pc := 146) hx hb hK.1 hP hD hS 1 0 rfl rfl hi dX7_move_146 (fun H locs hP hD hS => ?_)
          rw [← ef17] at hP hD
          replace hP : va_P D vwCl [(mself, .inr (7, [.ref msa, .ref mpasta, .ref mhelda, .int u3, .int mruns, .ref mtexta, .int mtyped, .ref mchosena, .ref mtimesa, .ref mrestsa, .ref mbeforea, .int mspot, .int mfrom, .int mreason, .int mcause, .int morders, .int mkind, .ref mtolda])), (msa, .inl (cI, 580, .inl f17)), (mpasta, .inl (cI, 2320, .inl f4)), (mhelda, .inl (cI, 580, .inl mheld)), (mtexta, .inl (cI, 60, .inl mtext)), (mchosena, .inl (cI, 12, .inl mchosen)), (mtimesa, .inl (cI, 12, .inl mtimes)), (mrestsa, .inl (cJ, 12, .inr (.inl mrests))), (mbeforea, .inl (cI, 12, .inl mbefore)), (mtolda, .inl (cI, 2, .inl mtold))] H := hP
          replace hD : va_D A [(mself, .inr (7, [.ref msa, .ref mpasta, .ref mhelda, .int u3, .int mruns, .ref mtexta, .int mtyped, .ref mchosena, .ref mtimesa, .ref mrestsa, .ref mbeforea, .int mspot, .int mfrom, .int mreason, .int mcause, .int morders, .int mkind, .ref mtolda])), (msa, .inl (cI, 580, .inl f17)), (mpasta, .inl (cI, 2320, .inl f4)), (mhelda, .inl (cI, 580, .inl mheld)), (mtexta, .inl (cI, 60, .inl mtext)), (mchosena, .inl (cI, 12, .inl mchosen)), (mtimesa, .inl (cI, 12, .inl mtimes)), (mrestsa, .inl (cJ, 12, .inr (.inl mrests))), (mbeforea, .inl (cI, 12, .inl mbefore)), (mtolda, .inl (cI, 2, .inl mtold))] := hD
          obtain ⟨x18, ex18⟩ : ∃ y : Int32, y = (x9 + (1 : Int32)) := ⟨_, rfl⟩
          replace h := am_let_s ex18 h
          refine lv_iinc (pc := 147) (v := x18) (lv' := [(4, .int x18), (5, .int x15), (0, .ref mself), (1, .int p0), (2, .int p1), (3, .int r5)]) hx hb dX7_move_147 hl (k := 5) rfl (by rw [ex18]; rfl) (by decide) rfl (fun ls hl => ?_)
          refine lv_goto (pc := 150) (tgt := 54) hx hb dX7_move_150 (by decide) ?_
          exact ihrec11 _ _ h ls (lv_sub hl [2, 3, 4, 5, 0] rfl) H locs hP hD hS
        replace h := am_f cc h
        refine lv_bipush (v := 99) (pc := 139) hx hb dX7_move_139 (by decide) ?_
        refine lv_goto (pc := 141) (tgt := 146) hx hb dX7_move_141 (by decide) ?_
        obtain ⟨hi, h⟩ := am_in_s h
        obtain ⟨f19, ef19⟩ : ∃ y : Nat → Int32, y = (upd f16 (((340 : Int32) + ((12 : Int32) * r5)) + x9).toNatClampNeg (99 : Int32)) := ⟨_, rfl⟩
        replace h := am_let_s ef19 h
        refine va_iast (pc := 146) hx hb hK.1 hP hD hS 1 0 rfl rfl hi dX7_move_146 (fun H locs hP hD hS => ?_)
        rw [← ef19] at hP hD
        replace hP : va_P D vwCl [(mself, .inr (7, [.ref msa, .ref mpasta, .ref mhelda, .int u3, .int mruns, .ref mtexta, .int mtyped, .ref mchosena, .ref mtimesa, .ref mrestsa, .ref mbeforea, .int mspot, .int mfrom, .int mreason, .int mcause, .int morders, .int mkind, .ref mtolda])), (msa, .inl (cI, 580, .inl f19)), (mpasta, .inl (cI, 2320, .inl f4)), (mhelda, .inl (cI, 580, .inl mheld)), (mtexta, .inl (cI, 60, .inl mtext)), (mchosena, .inl (cI, 12, .inl mchosen)), (mtimesa, .inl (cI, 12, .inl mtimes)), (mrestsa, .inl (cJ, 12, .inr (.inl mrests))), (mbeforea, .inl (cI, 12, .inl mbefore)), (mtolda, .inl (cI, 2, .inl mtold))] H := hP
        replace hD : va_D A [(mself, .inr (7, [.ref msa, .ref mpasta, .ref mhelda, .int u3, .int mruns, .ref mtexta, .int mtyped, .ref mchosena, .ref mtimesa, .ref mrestsa, .ref mbeforea, .int mspot, .int mfrom, .int mreason, .int mcause, .int morders, .int mkind, .ref mtolda])), (msa, .inl (cI, 580, .inl f19)), (mpasta, .inl (cI, 2320, .inl f4)), (mhelda, .inl (cI, 580, .inl mheld)), (mtexta, .inl (cI, 60, .inl mtext)), (mchosena, .inl (cI, 12, .inl mchosen)), (mtimesa, .inl (cI, 12, .inl mtimes)), (mrestsa, .inl (cJ, 12, .inr (.inl mrests))), (mbeforea, .inl (cI, 12, .inl mbefore)), (mtolda, .inl (cI, 2, .inl mtold))] := hD
        obtain ⟨x20, ex20⟩ : ∃ y : Int32, y = (x9 + (1 : Int32)) := ⟨_, rfl⟩
        replace h := am_let_s ex20 h
        refine lv_iinc (pc := 147) (v := x20) (lv' := [(4, .int x20), (5, .int x15), (0, .ref mself), (1, .int p0), (2, .int p1), (3, .int r5)]) hx hb dX7_move_147 hl (k := 5) rfl (by rw [ex20]; rfl) (by decide) rfl (fun ls hl => ?_)
        refine lv_goto (pc := 150) (tgt := 54) hx hb dX7_move_150 (by decide) ?_
        exact ihrec11 _ _ h ls (lv_sub hl [2, 3, 4, 5, 0] rfl) H locs hP hD hS
      replace h := am_f cc h
      refine lv_iconst (v := 0) (pc := 128) hx hb dX7_move_128 (by decide) ?_
      refine lv_goto (pc := 129) (tgt := 146) hx hb dX7_move_129 (by decide) ?_
      obtain ⟨hi, h⟩ := am_in_s h
      obtain ⟨f21, ef21⟩ : ∃ y : Nat → Int32, y = (upd f16 (((340 : Int32) + ((12 : Int32) * r5)) + x9).toNatClampNeg (0 : Int32)) := ⟨_, rfl⟩
      replace h := am_let_s ef21 h
      refine va_iast (pc := 146) hx hb hK.1 hP hD hS 1 0 rfl rfl hi dX7_move_146 (fun H locs hP hD hS => ?_)
      rw [← ef21] at hP hD
      replace hP : va_P D vwCl [(mself, .inr (7, [.ref msa, .ref mpasta, .ref mhelda, .int u3, .int mruns, .ref mtexta, .int mtyped, .ref mchosena, .ref mtimesa, .ref mrestsa, .ref mbeforea, .int mspot, .int mfrom, .int mreason, .int mcause, .int morders, .int mkind, .ref mtolda])), (msa, .inl (cI, 580, .inl f21)), (mpasta, .inl (cI, 2320, .inl f4)), (mhelda, .inl (cI, 580, .inl mheld)), (mtexta, .inl (cI, 60, .inl mtext)), (mchosena, .inl (cI, 12, .inl mchosen)), (mtimesa, .inl (cI, 12, .inl mtimes)), (mrestsa, .inl (cJ, 12, .inr (.inl mrests))), (mbeforea, .inl (cI, 12, .inl mbefore)), (mtolda, .inl (cI, 2, .inl mtold))] H := hP
      replace hD : va_D A [(mself, .inr (7, [.ref msa, .ref mpasta, .ref mhelda, .int u3, .int mruns, .ref mtexta, .int mtyped, .ref mchosena, .ref mtimesa, .ref mrestsa, .ref mbeforea, .int mspot, .int mfrom, .int mreason, .int mcause, .int morders, .int mkind, .ref mtolda])), (msa, .inl (cI, 580, .inl f21)), (mpasta, .inl (cI, 2320, .inl f4)), (mhelda, .inl (cI, 580, .inl mheld)), (mtexta, .inl (cI, 60, .inl mtext)), (mchosena, .inl (cI, 12, .inl mchosen)), (mtimesa, .inl (cI, 12, .inl mtimes)), (mrestsa, .inl (cJ, 12, .inr (.inl mrests))), (mbeforea, .inl (cI, 12, .inl mbefore)), (mtolda, .inl (cI, 2, .inl mtold))] := hD
      obtain ⟨x22, ex22⟩ : ∃ y : Int32, y = (x9 + (1 : Int32)) := ⟨_, rfl⟩
      replace h := am_let_s ex22 h
      refine lv_iinc (pc := 147) (v := x22) (lv' := [(4, .int x22), (5, .int x15), (0, .ref mself), (1, .int p0), (2, .int p1), (3, .int r5)]) hx hb dX7_move_147 hl (k := 5) rfl (by rw [ex22]; rfl) (by decide) rfl (fun ls hl => ?_)
      refine lv_goto (pc := 150) (tgt := 54) hx hb dX7_move_150 (by decide) ?_
      exact ihrec11 _ _ h ls (lv_sub hl [2, 3, 4, 5, 0] rfl) H locs hP hD hS
    replace h := am_t cc h
    refine lv_ldc (pc := 35) hx hb hown hk275 dX7_move_35 ?_
    obtain ⟨e1, e2, e3, e4⟩ := am_ret4 h
    exact hret _ _ _ _ _ dX7_move_37 rfl e1 (by rw [← e2, ← e3, ← e4]; exact hP) hS
  replace h := am_t cc h
  refine lv_ldc (pc := 21) hx hb hown hk175 dX7_move_21 ?_
  obtain ⟨e1, e2, e3, e4⟩ := am_ret4 h
  exact hret _ _ _ _ _ dX7_move_23 rfl e1 (by rw [← e2, ← e3, ← e4]; exact hP) hS
theorem hdX7_looks : yX7_looks.cls ≠ "java/lang/invoke/MethodHandle" ∧ yX7_looks.cls ≠ "java/lang/invoke/VarHandle" ∧ (parseMethodDescriptor yX7_looks.desc).map (fun d => d.parameters.length) = some 2 := by decide +kernel
abbrev rmX7_looks : Room := { frames := 2, cells := 0, slots := 0, locals := 47 }
set_option maxHeartbeats 20000000 in
set_option maxRecDepth 100000 in
theorem c_X7_looks (l : Launch) (D : va_G) (cI cJ : ClassId) (mself : Nat) (msa : Nat) (mpasta : Nat) (mhelda : Nat) (mtexta : Nat) (mchosena : Nat) (mtimesa : Nat) (mrestsa : Nat) (mbeforea : Nat) (mtolda : Nat) (mpasts : Int32) (mruns : Int32) (mtyped : Int32) (mspot : Int32) (mfrom : Int32) (mreason : Int32) (mcause : Int32) (morders : Int32) (mkind : Int32) (ms : Nat → Int32) (mpast : Nat → Int32) (mheld : Nat → Int32) (mtext : Nat → Int32) (mchosen : Nat → Int32) (mtimes : Nat → Int32) (mrests : Nat → Int64) (mbefore : Nat → Int32) (mtold : Nat → Int32) (p0 : Int32) (p1 : Int32) (r0 : Int32) (zms : Nat → Int32) (zmbefore : Nat → Int32) (hF : F_X7_looks ms mbefore p0 p1 = some (r0, zms, zmbefore)) (sz : Nat) : Met l yX7_looks (wz yX7_looks cX7_looks 6 (some .int)) rmX7_looks (kPw D cI cJ [(mself, .inr (7, [.ref msa, .ref mpasta, .ref mhelda, .int mpasts, .int mruns, .ref mtexta, .int mtyped, .ref mchosena, .ref mtimesa, .ref mrestsa, .ref mbeforea, .int mspot, .int mfrom, .int mreason, .int mcause, .int morders, .int mkind, .ref mtolda])), (msa, .inl (cI, 580, .inl ms)), (mpasta, .inl (cI, 2320, .inl mpast)), (mhelda, .inl (cI, 580, .inl mheld)), (mtexta, .inl (cI, 60, .inl mtext)), (mchosena, .inl (cI, 12, .inl mchosen)), (mtimesa, .inl (cI, 12, .inl mtimes)), (mrestsa, .inl (cJ, 12, .inr (.inl mrests))), (mbeforea, .inl (cI, 12, .inl mbefore)), (mtolda, .inl (cI, 2, .inl mtold))] sz [.ref mself, .int p0, .int p1]) (kQi D r0 [(mself, .inr (7, [.ref msa, .ref mpasta, .ref mhelda, .int mpasts, .int mruns, .ref mtexta, .int mtyped, .ref mchosena, .ref mtimesa, .ref mrestsa, .ref mbeforea, .int mspot, .int mfrom, .int mreason, .int mcause, .int morders, .int mkind, .ref mtolda])), (msa, .inl (cI, 580, .inl zms)), (mpasta, .inl (cI, 2320, .inl mpast)), (mhelda, .inl (cI, 580, .inl mheld)), (mtexta, .inl (cI, 60, .inl mtext)), (mchosena, .inl (cI, 12, .inl mchosen)), (mtimesa, .inl (cI, 12, .inl mtimes)), (mrestsa, .inl (cJ, 12, .inr (.inl mrests))), (mbeforea, .inl (cI, 12, .inl zmbefore)), (mtolda, .inl (cI, 2, .inl mtold))] (va_A [(mself, .inr (7, [.ref msa, .ref mpasta, .ref mhelda, .int mpasts, .int mruns, .ref mtexta, .int mtyped, .ref mchosena, .ref mtimesa, .ref mrestsa, .ref mbeforea, .int mspot, .int mfrom, .int mreason, .int mcause, .int morders, .int mkind, .ref mtolda])), (msa, .inl (cI, 580, .inl ms)), (mpasta, .inl (cI, 2320, .inl mpast)), (mhelda, .inl (cI, 580, .inl mheld)), (mtexta, .inl (cI, 60, .inl mtext)), (mchosena, .inl (cI, 12, .inl mchosen)), (mtimesa, .inl (cI, 12, .inl mtimes)), (mrestsa, .inl (cJ, 12, .inr (.inl mrests))), (mbeforea, .inl (cI, 12, .inl mbefore)), (mtolda, .inl (cI, 2, .inl mtold))] sz)) 0 0 (va_A [(mself, .inr (7, [.ref msa, .ref mpasta, .ref mhelda, .int mpasts, .int mruns, .ref mtexta, .int mtyped, .ref mchosena, .ref mtimesa, .ref mrestsa, .ref mbeforea, .int mspot, .int mfrom, .int mreason, .int mcause, .int morders, .int mkind, .ref mtolda])), (msa, .inl (cI, 580, .inl ms)), (mpasta, .inl (cI, 2320, .inl mpast)), (mhelda, .inl (cI, 580, .inl mheld)), (mtexta, .inl (cI, 60, .inl mtext)), (mchosena, .inl (cI, 12, .inl mchosen)), (mtimesa, .inl (cI, 12, .inl mtimes)), (mrestsa, .inl (cJ, 12, .inr (.inl mrests))), (mbeforea, .inl (cI, 12, .inl mbefore)), (mtolda, .inl (cI, 2, .inl mtold))] sz) := by
  refine kM_wi cX7_looks 6 .int (by decide +kernel) rfl rfl (Nat.le_of_ble_eq_true rfl) ⟨rfl, rfl⟩ ?_
  intro p e s m args below meth c Q A ls hx hb hml hown hts hP hK hD hA hS hl hret
  have hk121 := hts _ (List.mem_cons_of_mem _ wl121)
  have hk128 := hts _ (List.mem_cons_of_mem _ wl128)
  have hnX7 : ∀ w ∈ u_ws RX7 TX7 18, w ∈ wz yX7_looks cX7_looks 6 (some .int) := fun w h => List.mem_cons_of_mem _ (inlX7 w h)
  replace hl : lv_has ls 6 [(0, .ref mself), (1, .int p0), (2, .int p1)] := hl
  have h := hF
  unfold F_X7_looks at h
  refine lv_iconst (v := 0) (pc := 0) hx hb dX7_looks_0 (by decide) ?_
  refine lv_istore_n (lv' := [(3, .int (0 : Int32)), (0, .ref mself), (1, .int p0), (2, .int p1)]) (pc := 1) hx hb dX7_looks_1 rfl hl (by decide) rfl (fun ls hl => ?_)
  refine am_join2_s (fun (f1 : Nat → Int32) (f2 : Nat → Int32) => ∀ (ls : Array Slot), lv_has ls 6 [(0, .ref mself)] → ∀ (H : Heap) (locs : List Loc), va_P D vwCl [(mself, .inr (7, [.ref msa, .ref mpasta, .ref mhelda, .int mpasts, .int mruns, .ref mtexta, .int mtyped, .ref mchosena, .ref mtimesa, .ref mrestsa, .ref mbeforea, .int mspot, .int mfrom, .int mreason, .int mcause, .int morders, .int mkind, .ref mtolda])), (msa, .inl (cI, 580, .inl f1)), (mpasta, .inl (cI, 2320, .inl mpast)), (mhelda, .inl (cI, 580, .inl mheld)), (mtexta, .inl (cI, 60, .inl mtext)), (mchosena, .inl (cI, 12, .inl mchosen)), (mtimesa, .inl (cI, 12, .inl mtimes)), (mrestsa, .inl (cJ, 12, .inr (.inl mrests))), (mbeforea, .inl (cI, 12, .inl f2)), (mtolda, .inl (cI, 2, .inl mtold))] H → va_D A [(mself, .inr (7, [.ref msa, .ref mpasta, .ref mhelda, .int mpasts, .int mruns, .ref mtexta, .int mtyped, .ref mchosena, .ref mtimesa, .ref mrestsa, .ref mbeforea, .int mspot, .int mfrom, .int mreason, .int mcause, .int morders, .int mkind, .ref mtolda])), (msa, .inl (cI, 580, .inl f1)), (mpasta, .inl (cI, 2320, .inl mpast)), (mhelda, .inl (cI, 580, .inl mheld)), (mtexta, .inl (cI, 60, .inl mtext)), (mchosena, .inl (cI, 12, .inl mchosen)), (mtimesa, .inl (cI, 12, .inl mtimes)), (mrestsa, .inl (cJ, 12, .inr (.inl mrests))), (mbeforea, .inl (cI, 12, .inl f2)), (mtolda, .inl (cI, 2, .inl mtold))] → va_S A s.heap H locs → W p l e rmX7_looks s m args below meth c H locs 0 0 Q (F0 m 86 ls [])) h (fun f1 f2 h ls hl H locs hP hD hS => ?_) (fun K3 hK3 h => ?_)
  · refine lv_aload_n (pc := 86) hx hb dX7_looks_86 rfl (lv_at hl 0 rfl) ?_
    obtain ⟨r4, f5, hc5, h⟩ := am_call2_s h
    refine kc_Wi (pc := 87) (ci := 7) ⟨hx, hb, hml, hown, hts⟩ hP hK hD hS hA [] (c_X7_divides l D cI cJ mself msa mpasta mhelda mtexta mchosena mtimesa mrestsa mbeforea mtolda mpasts mruns mtyped mspot mfrom mreason mcause morders mkind f1 mpast mheld mtext mchosen mtimes mrests f2 mtold r4 f5 hc5 _) [0, 1, 2, 3, 4, 5, 6, 7, 8, 9] rfl rfl rfl (cwV 0 hts (gzV wl231 wl232 wl233 wl5 wl234) rfl rfl rfl ⟨rfl, hdX7_divides⟩ ⟨Nat.le_of_ble_eq_true rfl, Nat.le_of_ble_eq_true rfl⟩) rfl rfl [] rfl hl.1 rfl (Nat.le_of_ble_eq_true rfl) dX7_looks_87 ⟨Nat.zero_le _, Nat.zero_le _⟩ (fun H locs hP hD hS => ?_)
    replace hP : va_P D vwCl [(mself, .inr (7, [.ref msa, .ref mpasta, .ref mhelda, .int mpasts, .int mruns, .ref mtexta, .int mtyped, .ref mchosena, .ref mtimesa, .ref mrestsa, .ref mbeforea, .int mspot, .int mfrom, .int mreason, .int mcause, .int morders, .int mkind, .ref mtolda])), (msa, .inl (cI, 580, .inl f5)), (mpasta, .inl (cI, 2320, .inl mpast)), (mhelda, .inl (cI, 580, .inl mheld)), (mtexta, .inl (cI, 60, .inl mtext)), (mchosena, .inl (cI, 12, .inl mchosen)), (mtimesa, .inl (cI, 12, .inl mtimes)), (mrestsa, .inl (cJ, 12, .inr (.inl mrests))), (mbeforea, .inl (cI, 12, .inl f2)), (mtolda, .inl (cI, 2, .inl mtold))] H := hP
    replace hD : va_D A [(mself, .inr (7, [.ref msa, .ref mpasta, .ref mhelda, .int mpasts, .int mruns, .ref mtexta, .int mtyped, .ref mchosena, .ref mtimesa, .ref mrestsa, .ref mbeforea, .int mspot, .int mfrom, .int mreason, .int mcause, .int morders, .int mkind, .ref mtolda])), (msa, .inl (cI, 580, .inl f5)), (mpasta, .inl (cI, 2320, .inl mpast)), (mhelda, .inl (cI, 580, .inl mheld)), (mtexta, .inl (cI, 60, .inl mtext)), (mchosena, .inl (cI, 12, .inl mchosen)), (mtimesa, .inl (cI, 12, .inl mtimes)), (mrestsa, .inl (cJ, 12, .inr (.inl mrests))), (mbeforea, .inl (cI, 12, .inl f2)), (mtolda, .inl (cI, 2, .inl mtold))] := hD
    obtain ⟨e1, e2, e3⟩ := am_ret3 h
    exact hret _ _ _ _ _ dX7_looks_90 rfl e1 (by rw [← e2, ← e3]; exact hP) hS
  refine am_loop3_s (fun (x6 : Int32) (f7 : Nat → Int32) (f8 : Nat → Int32) => ∀ (ls : Array Slot), lv_has ls 6 [(0, .ref mself), (1, .int p0), (2, .int p1), (3, .int x6)] → ∀ (H : Heap) (locs : List Loc), va_P D vwCl [(mself, .inr (7, [.ref msa, .ref mpasta, .ref mhelda, .int mpasts, .int mruns, .ref mtexta, .int mtyped, .ref mchosena, .ref mtimesa, .ref mrestsa, .ref mbeforea, .int mspot, .int mfrom, .int mreason, .int mcause, .int morders, .int mkind, .ref mtolda])), (msa, .inl (cI, 580, .inl f7)), (mpasta, .inl (cI, 2320, .inl mpast)), (mhelda, .inl (cI, 580, .inl mheld)), (mtexta, .inl (cI, 60, .inl mtext)), (mchosena, .inl (cI, 12, .inl mchosen)), (mtimesa, .inl (cI, 12, .inl mtimes)), (mrestsa, .inl (cJ, 12, .inr (.inl mrests))), (mbeforea, .inl (cI, 12, .inl f8)), (mtolda, .inl (cI, 2, .inl mtold))] H → va_D A [(mself, .inr (7, [.ref msa, .ref mpasta, .ref mhelda, .int mpasts, .int mruns, .ref mtexta, .int mtyped, .ref mchosena, .ref mtimesa, .ref mrestsa, .ref mbeforea, .int mspot, .int mfrom, .int mreason, .int mcause, .int morders, .int mkind, .ref mtolda])), (msa, .inl (cI, 580, .inl f7)), (mpasta, .inl (cI, 2320, .inl mpast)), (mhelda, .inl (cI, 580, .inl mheld)), (mtexta, .inl (cI, 60, .inl mtext)), (mchosena, .inl (cI, 12, .inl mchosen)), (mtimesa, .inl (cI, 12, .inl mtimes)), (mrestsa, .inl (cJ, 12, .inr (.inl mrests))), (mbeforea, .inl (cI, 12, .inl f8)), (mtolda, .inl (cI, 2, .inl mtold))] → va_S A s.heap H locs → W p l e rmX7_looks s m args below meth c H locs 0 0 Q (F0 m 2 ls [])) (fun rec9 ihrec9 x6 f7 f8 h ls hl H locs hP hD hS => ?_) _ _ _ _ h ls (lv_sub hl [1, 2, 3, 0] rfl) s.heap [] hP hD hS
  unfold F_X7_looks_B2 at h
  refine lv_iload_n (pc := 2) hx hb dX7_looks_2 rfl (lv_at hl 3 rfl) ?_
  refine lv_aload_n (pc := 3) hx hb dX7_looks_3 rfl (lv_at hl 0 rfl) ?_
  refine va_get (pc := 4) (D := D) (ci := 7) (v := .ref msa) (C := RX7) (T := TX7) (N := 18) hx hb hts hnX7 hown hK.1 hP 0 rfl rfl 0 (Nat.le_of_ble_eq_true rfl) hk121 (fun _ h9 => h9) rfl dX7_looks_4 ?_
  refine lv_iconst (v := 0) (pc := 7) hx hb dX7_looks_7 (by decide) ?_
  refine va_iald (pc := 8) hx hb hK.1 hP 1 0 rfl rfl (vp_in_nI (n := 0) (N := 580) (by decide) (by decide)) dX7_looks_8 ?_
  refine lv_icmp_ge (pc := 9) (tgt := 86) hx hb dX7_looks_9 (by decide) (fun cc => ?_) (fun cc => ?_)
  · replace h := am_t cc h
    exact hK3 _ _ h ls (lv_sub hl [0] rfl) H locs hP hD hS
  replace h := am_f cc h
  refine lv_aload_n (pc := 12) hx hb dX7_looks_12 rfl (lv_at hl 0 rfl) ?_
  refine lv_aload_n (pc := 13) hx hb dX7_looks_13 rfl (lv_at hl 0 rfl) ?_
  obtain ⟨r10, hc10, h⟩ := am_bind_s h
  refine kc_Vi (pc := 14) (ci := 7) ⟨hx, hb, hml, hown, hts⟩ hP hK [] (c_X7_latest l D cI cJ mself msa mpasta mhelda mtexta mchosena mtimesa mrestsa mbeforea mtolda mpasts mruns mtyped mspot mfrom mreason mcause morders mkind f7 mpast mheld mtext mchosen mtimes mrests f8 mtold r10 hc10) [0, 1, 2, 3, 4, 5, 6, 7, 8, 9] rfl (cwV 0 hts (gzV wl379 wl380 wl381 wl5 wl382) rfl rfl rfl ⟨rfl, hdX7_latest⟩ ⟨Nat.le_of_ble_eq_true rfl, Nat.le_of_ble_eq_true rfl⟩) rfl rfl [.ref mself] rfl hl.1 rfl (Nat.le_of_ble_eq_true rfl) dX7_looks_14 ⟨Nat.zero_le _, Nat.zero_le _⟩ ?_
  refine lv_iload_n (pc := 17) hx hb dX7_looks_17 rfl (lv_at hl 3 rfl) ?_
  obtain ⟨r11, hc11, h⟩ := am_bind_s h
  refine kc_Vi (pc := 18) (ci := 7) ⟨hx, hb, hml, hown, hts⟩ hP hK [.int r10, .int x6] (c_X7_placeIn l D cI cJ mself msa mpasta mhelda mtexta mchosena mtimesa mrestsa mbeforea mtolda mpasts mruns mtyped mspot mfrom mreason mcause morders mkind f7 mpast mheld mtext mchosen mtimes mrests f8 mtold r10 x6 r11 hc11) [0, 1, 2, 3, 4, 5, 6, 7, 8, 9] rfl (cwV 2 hts (gzV wl280 wl281 wl282 wl5 wl283) rfl rfl rfl ⟨rfl, hdX7_placeIn⟩ ⟨Nat.le_of_ble_eq_true rfl, Nat.le_of_ble_eq_true rfl⟩) rfl rfl [] rfl hl.1 rfl (Nat.le_of_ble_eq_true rfl) dX7_looks_18 ⟨Nat.zero_le _, Nat.zero_le _⟩ ?_
  refine lv_iload_n (pc := 21) hx hb dX7_looks_21 rfl (lv_at hl 1 rfl) ?_
  refine lv_isub (pc := 22) hx hb dX7_looks_22 ?_
  refine lv_topi (fun x12 ex12 => ?_)
  replace h := am_let_s ex12 h
  refine lv_istore (lv' := [(4, .int x12), (0, .ref mself), (1, .int p0), (2, .int p1), (3, .int x6)]) (pc := 23) hx hb dX7_looks_23 hl (by decide) rfl (fun ls hl => ?_)
  refine lv_iload_n (pc := 25) hx hb dX7_looks_25 rfl (lv_at hl 3 rfl) ?_
  refine lv_iload (pc := 26) hx hb dX7_looks_26 (lv_at hl 0 rfl) ?_
  refine am_join1_s (fun (j13 : Int32) => ∀ (ls : Array Slot), lv_has ls 6 [(0, .ref mself), (1, .int p0), (2, .int p1), (3, .int x6)] → W p l e rmX7_looks s m args below meth c H locs 0 0 Q (F0 m 39 ls [.int j13, .int p1])) h (fun j13 h ls hl => ?_) (fun J14 hJ14 h => ?_)
  · refine lv_isub (pc := 39) hx hb dX7_looks_39 ?_
    refine lv_topi (fun x15 ex15 => ?_)
    replace h := am_let_s ex15 h
    refine lv_istore (lv' := [(5, .int x15), (0, .ref mself), (1, .int p0), (2, .int p1), (3, .int x6)]) (pc := 40) hx hb dX7_looks_40 hl (by decide) rfl (fun ls hl => ?_)
    refine lv_aload_n (pc := 42) hx hb dX7_looks_42 rfl (lv_at hl 1 rfl) ?_
    refine va_get (pc := 43) (D := D) (ci := 7) (v := .ref mbeforea) (C := RX7) (T := TX7) (N := 18) hx hb hts hnX7 hown hK.1 hP 0 rfl rfl 10 (Nat.le_of_ble_eq_true rfl) hk128 (fun _ h9 => h9) rfl dX7_looks_43 ?_
    refine lv_iload_n (pc := 46) hx hb dX7_looks_46 rfl (lv_at hl 4 rfl) ?_
    refine lv_aload_n (pc := 47) hx hb dX7_looks_47 rfl (lv_at hl 1 rfl) ?_
    refine va_get (pc := 48) (D := D) (ci := 7) (v := .ref msa) (C := RX7) (T := TX7) (N := 18) hx hb hts hnX7 hown hK.1 hP 0 rfl rfl 0 (Nat.le_of_ble_eq_true rfl) hk121 (fun _ h9 => h9) rfl dX7_looks_48 ?_
    refine lv_bipush (v := 8) (pc := 51) hx hb dX7_looks_51 (by decide) ?_
    refine lv_iload_n (pc := 53) hx hb dX7_looks_53 rfl (lv_at hl 4 rfl) ?_
    refine lv_iadd (pc := 54) hx hb dX7_looks_54 ?_
    obtain ⟨hi, h⟩ := am_in_s h
    refine va_iald (pc := 55) hx hb hK.1 hP 1 0 rfl rfl hi dX7_looks_55 ?_
    obtain ⟨hi, h⟩ := am_in_s h
    obtain ⟨f16, ef16⟩ : ∃ y : Nat → Int32, y = (upd f8 x6.toNatClampNeg (f7 ((8 : Int32) + x6).toNatClampNeg)) := ⟨_, rfl⟩
    replace h := am_let_s ef16 h
    refine va_iast (pc := 56) hx hb hK.1 hP hD hS 8 0 rfl rfl hi dX7_looks_56 (fun H locs hP hD hS => ?_)
    rw [← ef16] at hP hD
    replace hP : va_P D vwCl [(mself, .inr (7, [.ref msa, .ref mpasta, .ref mhelda, .int mpasts, .int mruns, .ref mtexta, .int mtyped, .ref mchosena, .ref mtimesa, .ref mrestsa, .ref mbeforea, .int mspot, .int mfrom, .int mreason, .int mcause, .int morders, .int mkind, .ref mtolda])), (msa, .inl (cI, 580, .inl f7)), (mpasta, .inl (cI, 2320, .inl mpast)), (mhelda, .inl (cI, 580, .inl mheld)), (mtexta, .inl (cI, 60, .inl mtext)), (mchosena, .inl (cI, 12, .inl mchosen)), (mtimesa, .inl (cI, 12, .inl mtimes)), (mrestsa, .inl (cJ, 12, .inr (.inl mrests))), (mbeforea, .inl (cI, 12, .inl f16)), (mtolda, .inl (cI, 2, .inl mtold))] H := hP
    replace hD : va_D A [(mself, .inr (7, [.ref msa, .ref mpasta, .ref mhelda, .int mpasts, .int mruns, .ref mtexta, .int mtyped, .ref mchosena, .ref mtimesa, .ref mrestsa, .ref mbeforea, .int mspot, .int mfrom, .int mreason, .int mcause, .int morders, .int mkind, .ref mtolda])), (msa, .inl (cI, 580, .inl f7)), (mpasta, .inl (cI, 2320, .inl mpast)), (mhelda, .inl (cI, 580, .inl mheld)), (mtexta, .inl (cI, 60, .inl mtext)), (mchosena, .inl (cI, 12, .inl mchosen)), (mtimesa, .inl (cI, 12, .inl mtimes)), (mrestsa, .inl (cJ, 12, .inr (.inl mrests))), (mbeforea, .inl (cI, 12, .inl f16)), (mtolda, .inl (cI, 2, .inl mtold))] := hD
    refine lv_aload_n (pc := 57) hx hb dX7_looks_57 rfl (lv_at hl 1 rfl) ?_
    refine va_get (pc := 58) (D := D) (ci := 7) (v := .ref msa) (C := RX7) (T := TX7) (N := 18) hx hb hts hnX7 hown hK.1 hP 0 rfl rfl 0 (Nat.le_of_ble_eq_true rfl) hk121 (fun _ h9 => h9) rfl dX7_looks_58 ?_
    refine lv_bipush (v := 8) (pc := 61) hx hb dX7_looks_61 (by decide) ?_
    refine lv_iload_n (pc := 63) hx hb dX7_looks_63 rfl (lv_at hl 4 rfl) ?_
    refine lv_iadd (pc := 64) hx hb dX7_looks_64 ?_
    refine lv_dup2_11 (pc := 65) hx hb dX7_looks_65 rfl rfl ?_
    obtain ⟨hi, h⟩ := am_in_s h
    refine va_iald (pc := 66) hx hb hK.1 hP 1 0 rfl rfl hi dX7_looks_66 ?_
    refine lv_iload (pc := 67) hx hb dX7_looks_67 (lv_at hl 0 rfl) ?_
    refine lv_if_ge (pc := 69) (tgt := 76) hx hb dX7_looks_69 (by decide) (fun cc => ?_) (fun cc => ?_)
    · replace h := am_t cc h
      refine lv_iload (pc := 76) hx hb dX7_looks_76 (lv_at hl 0 rfl) ?_
      refine lv_imul (pc := 78) hx hb dX7_looks_78 ?_
      obtain ⟨hi, h⟩ := am_in_s h
      obtain ⟨f17, ef17⟩ : ∃ y : Nat → Int32, y = (upd f7 ((8 : Int32) + x6).toNatClampNeg ((f7 ((8 : Int32) + x6).toNatClampNeg) * x15)) := ⟨_, rfl⟩
      replace h := am_let_s ef17 h
      refine va_iast (pc := 79) hx hb hK.1 hP hD hS 1 0 rfl rfl hi dX7_looks_79 (fun H locs hP hD hS => ?_)
      rw [← ef17] at hP hD
      replace hP : va_P D vwCl [(mself, .inr (7, [.ref msa, .ref mpasta, .ref mhelda, .int mpasts, .int mruns, .ref mtexta, .int mtyped, .ref mchosena, .ref mtimesa, .ref mrestsa, .ref mbeforea, .int mspot, .int mfrom, .int mreason, .int mcause, .int morders, .int mkind, .ref mtolda])), (msa, .inl (cI, 580, .inl f17)), (mpasta, .inl (cI, 2320, .inl mpast)), (mhelda, .inl (cI, 580, .inl mheld)), (mtexta, .inl (cI, 60, .inl mtext)), (mchosena, .inl (cI, 12, .inl mchosen)), (mtimesa, .inl (cI, 12, .inl mtimes)), (mrestsa, .inl (cJ, 12, .inr (.inl mrests))), (mbeforea, .inl (cI, 12, .inl f16)), (mtolda, .inl (cI, 2, .inl mtold))] H := hP
      replace hD : va_D A [(mself, .inr (7, [.ref msa, .ref mpasta, .ref mhelda, .int mpasts, .int mruns, .ref mtexta, .int mtyped, .ref mchosena, .ref mtimesa, .ref mrestsa, .ref mbeforea, .int mspot, .int mfrom, .int mreason, .int mcause, .int morders, .int mkind, .ref mtolda])), (msa, .inl (cI, 580, .inl f17)), (mpasta, .inl (cI, 2320, .inl mpast)), (mhelda, .inl (cI, 580, .inl mheld)), (mtexta, .inl (cI, 60, .inl mtext)), (mchosena, .inl (cI, 12, .inl mchosen)), (mtimesa, .inl (cI, 12, .inl mtimes)), (mrestsa, .inl (cJ, 12, .inr (.inl mrests))), (mbeforea, .inl (cI, 12, .inl f16)), (mtolda, .inl (cI, 2, .inl mtold))] := hD
      obtain ⟨x18, ex18⟩ : ∃ y : Int32, y = (x6 + (1 : Int32)) := ⟨_, rfl⟩
      replace h := am_let_s ex18 h
      refine lv_iinc (pc := 80) (v := x18) (lv' := [(3, .int x18), (5, .int x15), (0, .ref mself), (1, .int p0), (2, .int p1)]) hx hb dX7_looks_80 hl (k := 4) rfl (by rw [ex18]; rfl) (by decide) rfl (fun ls hl => ?_)
      refine lv_goto (pc := 83) (tgt := 2) hx hb dX7_looks_83 (by decide) ?_
      exact ihrec9 _ _ _ h ls (lv_sub hl [2, 3, 4, 0] rfl) H locs hP hD hS
    replace h := am_f cc h
    refine lv_iconst (v := 0) (pc := 72) hx hb dX7_looks_72 (by decide) ?_
    refine lv_goto (pc := 73) (tgt := 78) hx hb dX7_looks_73 (by decide) ?_
    refine lv_imul (pc := 78) hx hb dX7_looks_78 ?_
    obtain ⟨hi, h⟩ := am_in_s h
    obtain ⟨f19, ef19⟩ : ∃ y : Nat → Int32, y = (upd f7 ((8 : Int32) + x6).toNatClampNeg ((f7 ((8 : Int32) + x6).toNatClampNeg) * (0 : Int32))) := ⟨_, rfl⟩
    replace h := am_let_s ef19 h
    refine va_iast (pc := 79) hx hb hK.1 hP hD hS 1 0 rfl rfl hi dX7_looks_79 (fun H locs hP hD hS => ?_)
    rw [← ef19] at hP hD
    replace hP : va_P D vwCl [(mself, .inr (7, [.ref msa, .ref mpasta, .ref mhelda, .int mpasts, .int mruns, .ref mtexta, .int mtyped, .ref mchosena, .ref mtimesa, .ref mrestsa, .ref mbeforea, .int mspot, .int mfrom, .int mreason, .int mcause, .int morders, .int mkind, .ref mtolda])), (msa, .inl (cI, 580, .inl f19)), (mpasta, .inl (cI, 2320, .inl mpast)), (mhelda, .inl (cI, 580, .inl mheld)), (mtexta, .inl (cI, 60, .inl mtext)), (mchosena, .inl (cI, 12, .inl mchosen)), (mtimesa, .inl (cI, 12, .inl mtimes)), (mrestsa, .inl (cJ, 12, .inr (.inl mrests))), (mbeforea, .inl (cI, 12, .inl f16)), (mtolda, .inl (cI, 2, .inl mtold))] H := hP
    replace hD : va_D A [(mself, .inr (7, [.ref msa, .ref mpasta, .ref mhelda, .int mpasts, .int mruns, .ref mtexta, .int mtyped, .ref mchosena, .ref mtimesa, .ref mrestsa, .ref mbeforea, .int mspot, .int mfrom, .int mreason, .int mcause, .int morders, .int mkind, .ref mtolda])), (msa, .inl (cI, 580, .inl f19)), (mpasta, .inl (cI, 2320, .inl mpast)), (mhelda, .inl (cI, 580, .inl mheld)), (mtexta, .inl (cI, 60, .inl mtext)), (mchosena, .inl (cI, 12, .inl mchosen)), (mtimesa, .inl (cI, 12, .inl mtimes)), (mrestsa, .inl (cJ, 12, .inr (.inl mrests))), (mbeforea, .inl (cI, 12, .inl f16)), (mtolda, .inl (cI, 2, .inl mtold))] := hD
    obtain ⟨x20, ex20⟩ : ∃ y : Int32, y = (x6 + (1 : Int32)) := ⟨_, rfl⟩
    replace h := am_let_s ex20 h
    refine lv_iinc (pc := 80) (v := x20) (lv' := [(3, .int x20), (5, .int x15), (0, .ref mself), (1, .int p0), (2, .int p1)]) hx hb dX7_looks_80 hl (k := 4) rfl (by rw [ex20]; rfl) (by decide) rfl (fun ls hl => ?_)
    refine lv_goto (pc := 83) (tgt := 2) hx hb dX7_looks_83 (by decide) ?_
    exact ihrec9 _ _ _ h ls (lv_sub hl [2, 3, 4, 0] rfl) H locs hP hD hS
  refine lv_if_ge (pc := 28) (tgt := 37) hx hb dX7_looks_28 (by decide) (fun cc => ?_) (fun cc => ?_)
  · replace h := am_t cc h
    refine lv_iload (pc := 37) hx hb dX7_looks_37 (lv_at hl 0 rfl) ?_
    exact hJ14 _ h ls (lv_sub hl [1, 2, 3, 4] rfl)
  replace h := am_f cc h
  refine lv_iload (pc := 31) hx hb dX7_looks_31 (lv_at hl 0 rfl) ?_
  refine lv_ineg (pc := 33) hx hb dX7_looks_33 ?_
  refine lv_goto (pc := 34) (tgt := 39) hx hb dX7_looks_34 (by decide) ?_
  exact hJ14 _ h ls (lv_sub hl [1, 2, 3, 4] rfl)
theorem hdX7_observe : yX7_observe.cls ≠ "java/lang/invoke/MethodHandle" ∧ yX7_observe.cls ≠ "java/lang/invoke/VarHandle" ∧ (parseMethodDescriptor yX7_observe.desc).map (fun d => d.parameters.length) = some 2 := by decide +kernel
abbrev rmX7_observe : Room := { frames := 4, cells := 0, slots := 0, locals := 97 }
set_option maxHeartbeats 20000000 in
set_option maxRecDepth 100000 in
theorem c_X7_observe (l : Launch) (D : va_G) (cI cJ : ClassId) (mself : Nat) (msa : Nat) (mpasta : Nat) (mhelda : Nat) (mtexta : Nat) (mchosena : Nat) (mtimesa : Nat) (mrestsa : Nat) (mbeforea : Nat) (mtolda : Nat) (mpasts : Int32) (mruns : Int32) (mtyped : Int32) (mspot : Int32) (mfrom : Int32) (mreason : Int32) (mcause : Int32) (morders : Int32) (mkind : Int32) (ms : Nat → Int32) (mpast : Nat → Int32) (mheld : Nat → Int32) (mtext : Nat → Int32) (mchosen : Nat → Int32) (mtimes : Nat → Int32) (mrests : Nat → Int64) (mbefore : Nat → Int32) (mtold : Nat → Int32) (p0 : Int32) (p1 : Int32) (r0 : Int32) (zmpasts : Int32) (zms : Nat → Int32) (zmpast : Nat → Int32) (zmchosen : Nat → Int32) (zmtimes : Nat → Int32) (zmrests : Nat → Int64) (zmbefore : Nat → Int32) (hF : F_X7_observe mpasts mruns ms mpast mchosen mtimes mrests mbefore p0 p1 = some (r0, zmpasts, zms, zmpast, zmchosen, zmtimes, zmrests, zmbefore)) (sz : Nat) : Met l yX7_observe (wz yX7_observe cX7_observe 6 (some .int)) rmX7_observe (kPw D cI cJ [(mself, .inr (7, [.ref msa, .ref mpasta, .ref mhelda, .int mpasts, .int mruns, .ref mtexta, .int mtyped, .ref mchosena, .ref mtimesa, .ref mrestsa, .ref mbeforea, .int mspot, .int mfrom, .int mreason, .int mcause, .int morders, .int mkind, .ref mtolda])), (msa, .inl (cI, 580, .inl ms)), (mpasta, .inl (cI, 2320, .inl mpast)), (mhelda, .inl (cI, 580, .inl mheld)), (mtexta, .inl (cI, 60, .inl mtext)), (mchosena, .inl (cI, 12, .inl mchosen)), (mtimesa, .inl (cI, 12, .inl mtimes)), (mrestsa, .inl (cJ, 12, .inr (.inl mrests))), (mbeforea, .inl (cI, 12, .inl mbefore)), (mtolda, .inl (cI, 2, .inl mtold))] sz [.ref mself, .int p0, .int p1]) (kQi D r0 [(mself, .inr (7, [.ref msa, .ref mpasta, .ref mhelda, .int zmpasts, .int mruns, .ref mtexta, .int mtyped, .ref mchosena, .ref mtimesa, .ref mrestsa, .ref mbeforea, .int mspot, .int mfrom, .int mreason, .int mcause, .int morders, .int mkind, .ref mtolda])), (msa, .inl (cI, 580, .inl zms)), (mpasta, .inl (cI, 2320, .inl zmpast)), (mhelda, .inl (cI, 580, .inl mheld)), (mtexta, .inl (cI, 60, .inl mtext)), (mchosena, .inl (cI, 12, .inl zmchosen)), (mtimesa, .inl (cI, 12, .inl zmtimes)), (mrestsa, .inl (cJ, 12, .inr (.inl zmrests))), (mbeforea, .inl (cI, 12, .inl zmbefore)), (mtolda, .inl (cI, 2, .inl mtold))] (va_A [(mself, .inr (7, [.ref msa, .ref mpasta, .ref mhelda, .int mpasts, .int mruns, .ref mtexta, .int mtyped, .ref mchosena, .ref mtimesa, .ref mrestsa, .ref mbeforea, .int mspot, .int mfrom, .int mreason, .int mcause, .int morders, .int mkind, .ref mtolda])), (msa, .inl (cI, 580, .inl ms)), (mpasta, .inl (cI, 2320, .inl mpast)), (mhelda, .inl (cI, 580, .inl mheld)), (mtexta, .inl (cI, 60, .inl mtext)), (mchosena, .inl (cI, 12, .inl mchosen)), (mtimesa, .inl (cI, 12, .inl mtimes)), (mrestsa, .inl (cJ, 12, .inr (.inl mrests))), (mbeforea, .inl (cI, 12, .inl mbefore)), (mtolda, .inl (cI, 2, .inl mtold))] sz)) 0 0 (va_A [(mself, .inr (7, [.ref msa, .ref mpasta, .ref mhelda, .int mpasts, .int mruns, .ref mtexta, .int mtyped, .ref mchosena, .ref mtimesa, .ref mrestsa, .ref mbeforea, .int mspot, .int mfrom, .int mreason, .int mcause, .int morders, .int mkind, .ref mtolda])), (msa, .inl (cI, 580, .inl ms)), (mpasta, .inl (cI, 2320, .inl mpast)), (mhelda, .inl (cI, 580, .inl mheld)), (mtexta, .inl (cI, 60, .inl mtext)), (mchosena, .inl (cI, 12, .inl mchosen)), (mtimesa, .inl (cI, 12, .inl mtimes)), (mrestsa, .inl (cJ, 12, .inr (.inl mrests))), (mbeforea, .inl (cI, 12, .inl mbefore)), (mtolda, .inl (cI, 2, .inl mtold))] sz) := by
  refine kM_wi cX7_observe 6 .int (by decide +kernel) rfl rfl (Nat.le_of_ble_eq_true rfl) ⟨rfl, rfl⟩ ?_
  intro p e s m args below meth c Q A ls hx hb hml hown hts hP hK hD hA hS hl hret
  have hk121 := hts _ (List.mem_cons_of_mem _ wl121)
  have hk128 := hts _ (List.mem_cons_of_mem _ wl128)
  have hk175 := hts _ (List.mem_cons_of_mem _ wl175)
  have hk221 := hts _ (List.mem_cons_of_mem _ wl221)
  have hk222 := hts _ (List.mem_cons_of_mem _ wl222)
  have hk275 := hts _ (List.mem_cons_of_mem _ wl275)
  have hnX7 : ∀ w ∈ u_ws RX7 TX7 18, w ∈ wz yX7_observe cX7_observe 6 (some .int) := fun w h => List.mem_cons_of_mem _ (inlX7 w h)
  replace hl : lv_has ls 6 [(0, .ref mself), (1, .int p0), (2, .int p1)] := hl
  have h := hF
  unfold F_X7_observe at h
  refine lv_iload_n (pc := 0) hx hb dX7_observe_0 rfl (lv_at hl 1 rfl) ?_
  refine lv_iconst (v := 0) (pc := 1) hx hb dX7_observe_1 (by decide) ?_
  refine lv_bipush (v := 99) (pc := 2) hx hb dX7_observe_2 (by decide) ?_
  obtain ⟨r1, hc1, h⟩ := am_bind_s h
  refine kc_Si (pc := 4) ⟨hx, hb, hml, hown, hts⟩ hP hK [.int p0, .int (0 : Int32), .int (99 : Int32)] (c_X7_in l D cI cJ p0 (0 : Int32) (99 : Int32) r1 hc1) [] rfl (cwS 3 hts (gzS wl176 wl177 wl5 wl178) rfl rfl rfl ⟨rfl, hdX7_in⟩ ⟨Nat.le_of_ble_eq_true rfl, Nat.le_of_ble_eq_true rfl⟩) [] rfl hl.1 rfl (Nat.le_of_ble_eq_true rfl) dX7_observe_4 ⟨Nat.zero_le _, Nat.zero_le _⟩ ?_
  refine lv_if_eq (pc := 7) (tgt := 20) hx hb dX7_observe_7 (by decide) (fun cc => ?_) (fun cc => ?_)
  · replace h := am_t cc h
    refine lv_ldc (pc := 20) hx hb hown hk175 dX7_observe_20 ?_
    obtain ⟨e1, e2, e3, e4, e5, e6, e7, e8⟩ := am_ret8 h
    exact hret _ _ _ _ _ dX7_observe_22 rfl e1 (by rw [← e2, ← e3, ← e4, ← e5, ← e6, ← e7, ← e8]; exact hP) hS
  replace h := am_f cc h
  refine lv_iload_n (pc := 10) hx hb dX7_observe_10 rfl (lv_at hl 2 rfl) ?_
  refine lv_iconst (v := 1) (pc := 11) hx hb dX7_observe_11 (by decide) ?_
  refine lv_bipush (v := 99) (pc := 12) hx hb dX7_observe_12 (by decide) ?_
  obtain ⟨r2, hc2, h⟩ := am_bind_s h
  refine kc_Si (pc := 14) ⟨hx, hb, hml, hown, hts⟩ hP hK [.int p1, .int (1 : Int32), .int (99 : Int32)] (c_X7_in l D cI cJ p1 (1 : Int32) (99 : Int32) r2 hc2) [] rfl (cwS 3 hts (gzS wl176 wl177 wl5 wl178) rfl rfl rfl ⟨rfl, hdX7_in⟩ ⟨Nat.le_of_ble_eq_true rfl, Nat.le_of_ble_eq_true rfl⟩) [] rfl hl.1 rfl (Nat.le_of_ble_eq_true rfl) dX7_observe_14 ⟨Nat.zero_le _, Nat.zero_le _⟩ ?_
  refine lv_if_ne (pc := 17) (tgt := 23) hx hb dX7_observe_17 (by decide) (fun cc => ?_) (fun cc => ?_)
  · replace h := am_f cc h
    refine lv_aload_n (pc := 23) hx hb dX7_observe_23 rfl (lv_at hl 0 rfl) ?_
    refine lv_iload_n (pc := 24) hx hb dX7_observe_24 rfl (lv_at hl 1 rfl) ?_
    refine lv_iload_n (pc := 25) hx hb dX7_observe_25 rfl (lv_at hl 2 rfl) ?_
    obtain ⟨r3, f4, f5, hc5, h⟩ := am_call3_s h
    refine kc_Wi (pc := 26) (ci := 7) ⟨hx, hb, hml, hown, hts⟩ hP hK hD hS hA [.int p0, .int p1] (c_X7_looks l D cI cJ mself msa mpasta mhelda mtexta mchosena mtimesa mrestsa mbeforea mtolda mpasts mruns mtyped mspot mfrom mreason mcause morders mkind ms mpast mheld mtext mchosen mtimes mrests mbefore mtold p0 p1 r3 f4 f5 hc5 _) [0, 1, 2, 3, 4, 5, 6, 7, 8, 9] rfl rfl rfl (cwV 2 hts (gzV wl375 wl376 wl377 wl5 wl378) rfl rfl rfl ⟨rfl, hdX7_looks⟩ ⟨Nat.le_of_ble_eq_true rfl, Nat.le_of_ble_eq_true rfl⟩) rfl rfl [] rfl hl.1 rfl (Nat.le_of_ble_eq_true rfl) dX7_observe_26 ⟨Nat.zero_le _, Nat.zero_le _⟩ (fun H locs hP hD hS => ?_)
    replace hP : va_P D vwCl [(mself, .inr (7, [.ref msa, .ref mpasta, .ref mhelda, .int mpasts, .int mruns, .ref mtexta, .int mtyped, .ref mchosena, .ref mtimesa, .ref mrestsa, .ref mbeforea, .int mspot, .int mfrom, .int mreason, .int mcause, .int morders, .int mkind, .ref mtolda])), (msa, .inl (cI, 580, .inl f4)), (mpasta, .inl (cI, 2320, .inl mpast)), (mhelda, .inl (cI, 580, .inl mheld)), (mtexta, .inl (cI, 60, .inl mtext)), (mchosena, .inl (cI, 12, .inl mchosen)), (mtimesa, .inl (cI, 12, .inl mtimes)), (mrestsa, .inl (cJ, 12, .inr (.inl mrests))), (mbeforea, .inl (cI, 12, .inl f5)), (mtolda, .inl (cI, 2, .inl mtold))] H := hP
    replace hD : va_D A [(mself, .inr (7, [.ref msa, .ref mpasta, .ref mhelda, .int mpasts, .int mruns, .ref mtexta, .int mtyped, .ref mchosena, .ref mtimesa, .ref mrestsa, .ref mbeforea, .int mspot, .int mfrom, .int mreason, .int mcause, .int morders, .int mkind, .ref mtolda])), (msa, .inl (cI, 580, .inl f4)), (mpasta, .inl (cI, 2320, .inl mpast)), (mhelda, .inl (cI, 580, .inl mheld)), (mtexta, .inl (cI, 60, .inl mtext)), (mchosena, .inl (cI, 12, .inl mchosen)), (mtimesa, .inl (cI, 12, .inl mtimes)), (mrestsa, .inl (cJ, 12, .inr (.inl mrests))), (mbeforea, .inl (cI, 12, .inl f5)), (mtolda, .inl (cI, 2, .inl mtold))] := hD
    refine lv_istore_n (lv' := [(3, .int r3), (0, .ref mself), (1, .int p0), (2, .int p1)]) (pc := 29) hx hb dX7_observe_29 rfl hl (by decide) rfl (fun ls hl => ?_)
    refine lv_iload_n (pc := 30) hx hb dX7_observe_30 rfl (lv_at hl 0 rfl) ?_
    refine am_join1_s (fun (j6 : Int32) => ∀ (ls : Array Slot), lv_has ls 6 [(0, .ref mself), (1, .int p0), (2, .int p1)] → W p l e rmX7_observe s m args below meth c H locs 0 0 Q (F0 m 75 ls [.int j6])) h (fun j6 h ls hl => ?_) (fun J7 hJ7 h => ?_)
    · refine lv_istore (lv' := [(4, .int j6), (0, .ref mself), (1, .int p0), (2, .int p1)]) (pc := 75) hx hb dX7_observe_75 hl (by decide) rfl (fun ls hl => ?_)
      refine lv_iconst (v := 0) (pc := 77) hx hb dX7_observe_77 (by decide) ?_
      refine lv_istore (lv' := [(5, .int (0 : Int32)), (4, .int j6), (0, .ref mself), (1, .int p0), (2, .int p1)]) (pc := 78) hx hb dX7_observe_78 hl (by decide) rfl (fun ls hl => ?_)
      refine am_join1_s (fun (f8 : Nat → Int32) => ∀ (ls : Array Slot), lv_has ls 6 [(0, .ref mself), (1, .int p0), (2, .int p1), (4, .int j6)] → ∀ (H : Heap) (locs : List Loc), va_P D vwCl [(mself, .inr (7, [.ref msa, .ref mpasta, .ref mhelda, .int mpasts, .int mruns, .ref mtexta, .int mtyped, .ref mchosena, .ref mtimesa, .ref mrestsa, .ref mbeforea, .int mspot, .int mfrom, .int mreason, .int mcause, .int morders, .int mkind, .ref mtolda])), (msa, .inl (cI, 580, .inl f8)), (mpasta, .inl (cI, 2320, .inl mpast)), (mhelda, .inl (cI, 580, .inl mheld)), (mtexta, .inl (cI, 60, .inl mtext)), (mchosena, .inl (cI, 12, .inl mchosen)), (mtimesa, .inl (cI, 12, .inl mtimes)), (mrestsa, .inl (cJ, 12, .inr (.inl mrests))), (mbeforea, .inl (cI, 12, .inl f5)), (mtolda, .inl (cI, 2, .inl mtold))] H → va_D A [(mself, .inr (7, [.ref msa, .ref mpasta, .ref mhelda, .int mpasts, .int mruns, .ref mtexta, .int mtyped, .ref mchosena, .ref mtimesa, .ref mrestsa, .ref mbeforea, .int mspot, .int mfrom, .int mreason, .int mcause, .int morders, .int mkind, .ref mtolda])), (msa, .inl (cI, 580, .inl f8)), (mpasta, .inl (cI, 2320, .inl mpast)), (mhelda, .inl (cI, 580, .inl mheld)), (mtexta, .inl (cI, 60, .inl mtext)), (mchosena, .inl (cI, 12, .inl mchosen)), (mtimesa, .inl (cI, 12, .inl mtimes)), (mrestsa, .inl (cJ, 12, .inr (.inl mrests))), (mbeforea, .inl (cI, 12, .inl f5)), (mtolda, .inl (cI, 2, .inl mtold))] → va_S A s.heap H locs → W p l e rmX7_observe s m args below meth c H locs 0 0 Q (F0 m 114 ls [])) h (fun f8 h ls hl H locs hP hD hS => ?_) (fun K9 hK9 h => ?_)
      · refine lv_iload (pc := 114) hx hb dX7_observe_114 (lv_at hl 3 rfl) ?_
        refine lv_if_ge (pc := 116) (tgt := 122) hx hb dX7_observe_116 (by decide) (fun cc => ?_) (fun cc => ?_)
        · replace h := am_t cc h
          refine lv_aload_n (pc := 122) hx hb dX7_observe_122 rfl (lv_at hl 0 rfl) ?_
          obtain ⟨u10, f11, hc11, h⟩ := am_call2_s h
          refine kc_Wv (pc := 123) (ci := 7) ⟨hx, hb, hml, hown, hts⟩ hP hK hD hS hA [] (c_X7_changes l D cI cJ mself msa mpasta mhelda mtexta mchosena mtimesa mrestsa mbeforea mtolda mpasts mruns mtyped mspot mfrom mreason mcause morders mkind f8 mpast mheld mtext mchosen mtimes mrests f5 mtold u10 f11 hc11 _) [0, 1, 2, 3, 4, 5, 6, 7, 8, 9] rfl rfl rfl (cwV 0 hts (gzV wl179 wl180 wl181 wl5 wl182) rfl rfl rfl ⟨rfl, hdX7_changes⟩ ⟨Nat.le_of_ble_eq_true rfl, Nat.le_of_ble_eq_true rfl⟩) rfl rfl [] rfl hl.1 rfl (Nat.le_of_ble_eq_true rfl) dX7_observe_123 ⟨Nat.zero_le _, Nat.zero_le _⟩ (fun H locs hP hD hS => ?_)
          replace hP : va_P D vwCl [(mself, .inr (7, [.ref msa, .ref mpasta, .ref mhelda, .int u10, .int mruns, .ref mtexta, .int mtyped, .ref mchosena, .ref mtimesa, .ref mrestsa, .ref mbeforea, .int mspot, .int mfrom, .int mreason, .int mcause, .int morders, .int mkind, .ref mtolda])), (msa, .inl (cI, 580, .inl f8)), (mpasta, .inl (cI, 2320, .inl f11)), (mhelda, .inl (cI, 580, .inl mheld)), (mtexta, .inl (cI, 60, .inl mtext)), (mchosena, .inl (cI, 12, .inl mchosen)), (mtimesa, .inl (cI, 12, .inl mtimes)), (mrestsa, .inl (cJ, 12, .inr (.inl mrests))), (mbeforea, .inl (cI, 12, .inl f5)), (mtolda, .inl (cI, 2, .inl mtold))] H := hP
          replace hD : va_D A [(mself, .inr (7, [.ref msa, .ref mpasta, .ref mhelda, .int u10, .int mruns, .ref mtexta, .int mtyped, .ref mchosena, .ref mtimesa, .ref mrestsa, .ref mbeforea, .int mspot, .int mfrom, .int mreason, .int mcause, .int morders, .int mkind, .ref mtolda])), (msa, .inl (cI, 580, .inl f8)), (mpasta, .inl (cI, 2320, .inl f11)), (mhelda, .inl (cI, 580, .inl mheld)), (mtexta, .inl (cI, 60, .inl mtext)), (mchosena, .inl (cI, 12, .inl mchosen)), (mtimesa, .inl (cI, 12, .inl mtimes)), (mrestsa, .inl (cJ, 12, .inr (.inl mrests))), (mbeforea, .inl (cI, 12, .inl f5)), (mtolda, .inl (cI, 2, .inl mtold))] := hD
          refine lv_aload_n (pc := 126) hx hb dX7_observe_126 rfl (lv_at hl 0 rfl) ?_
          refine lv_iload_n (pc := 127) hx hb dX7_observe_127 rfl (lv_at hl 1 rfl) ?_
          refine lv_iload_n (pc := 128) hx hb dX7_observe_128 rfl (lv_at hl 2 rfl) ?_
          obtain ⟨r12, f13, f14, hc14, h⟩ := am_call3_s h
          refine kc_Wi (pc := 129) (ci := 7) ⟨hx, hb, hml, hown, hts⟩ hP hK hD hS hA [.int p0, .int p1] (c_X7_looks l D cI cJ mself msa mpasta mhelda mtexta mchosena mtimesa mrestsa mbeforea mtolda u10 mruns mtyped mspot mfrom mreason mcause morders mkind f8 f11 mheld mtext mchosen mtimes mrests f5 mtold p0 p1 r12 f13 f14 hc14 _) [0, 1, 2, 3, 4, 5, 6, 7, 8, 9] rfl rfl rfl (cwV 2 hts (gzV wl375 wl376 wl377 wl5 wl378) rfl rfl rfl ⟨rfl, hdX7_looks⟩ ⟨Nat.le_of_ble_eq_true rfl, Nat.le_of_ble_eq_true rfl⟩) rfl rfl [] rfl hl.1 rfl (Nat.le_of_ble_eq_true rfl) dX7_observe_129 ⟨Nat.zero_le _, Nat.zero_le _⟩ (fun H locs hP hD hS => ?_)
          replace hP : va_P D vwCl [(mself, .inr (7, [.ref msa, .ref mpasta, .ref mhelda, .int u10, .int mruns, .ref mtexta, .int mtyped, .ref mchosena, .ref mtimesa, .ref mrestsa, .ref mbeforea, .int mspot, .int mfrom, .int mreason, .int mcause, .int morders, .int mkind, .ref mtolda])), (msa, .inl (cI, 580, .inl f13)), (mpasta, .inl (cI, 2320, .inl f11)), (mhelda, .inl (cI, 580, .inl mheld)), (mtexta, .inl (cI, 60, .inl mtext)), (mchosena, .inl (cI, 12, .inl mchosen)), (mtimesa, .inl (cI, 12, .inl mtimes)), (mrestsa, .inl (cJ, 12, .inr (.inl mrests))), (mbeforea, .inl (cI, 12, .inl f14)), (mtolda, .inl (cI, 2, .inl mtold))] H := hP
          replace hD : va_D A [(mself, .inr (7, [.ref msa, .ref mpasta, .ref mhelda, .int u10, .int mruns, .ref mtexta, .int mtyped, .ref mchosena, .ref mtimesa, .ref mrestsa, .ref mbeforea, .int mspot, .int mfrom, .int mreason, .int mcause, .int morders, .int mkind, .ref mtolda])), (msa, .inl (cI, 580, .inl f13)), (mpasta, .inl (cI, 2320, .inl f11)), (mhelda, .inl (cI, 580, .inl mheld)), (mtexta, .inl (cI, 60, .inl mtext)), (mchosena, .inl (cI, 12, .inl mchosen)), (mtimesa, .inl (cI, 12, .inl mtimes)), (mrestsa, .inl (cJ, 12, .inr (.inl mrests))), (mbeforea, .inl (cI, 12, .inl f14)), (mtolda, .inl (cI, 2, .inl mtold))] := hD
          refine lv_pop (pc := 132) hx hb dX7_observe_132 rfl ?_
          refine lv_aload_n (pc := 133) hx hb dX7_observe_133 rfl (lv_at hl 0 rfl) ?_
          obtain ⟨r15, hc15, h⟩ := am_bind_s h
          refine kc_Vi (pc := 134) (ci := 7) ⟨hx, hb, hml, hown, hts⟩ hP hK [] (c_X7_effective l D cI cJ mself msa mpasta mhelda mtexta mchosena mtimesa mrestsa mbeforea mtolda u10 mruns mtyped mspot mfrom mreason mcause morders mkind f13 f11 mheld mtext mchosen mtimes mrests f14 mtold r15 hc15) [0, 1, 2, 3, 4, 5, 6, 7, 8, 9] rfl (cwV 0 hts (gzV wl383 wl384 wl385 wl5 wl386) rfl rfl rfl ⟨rfl, hdX7_effective⟩ ⟨Nat.le_of_ble_eq_true rfl, Nat.le_of_ble_eq_true rfl⟩) rfl rfl [] rfl hl.1 rfl (Nat.le_of_ble_eq_true rfl) dX7_observe_134 ⟨Nat.zero_le _, Nat.zero_le _⟩ ?_
          refine lv_istore (lv' := [(5, .int r15), (0, .ref mself), (1, .int p0), (2, .int p1), (4, .int j6)]) (pc := 137) hx hb dX7_observe_137 hl (by decide) rfl (fun ls hl => ?_)
          refine lv_aload_n (pc := 139) hx hb dX7_observe_139 rfl (lv_at hl 1 rfl) ?_
          refine va_get (pc := 140) (D := D) (ci := 7) (v := .ref msa) (C := RX7) (T := TX7) (N := 18) hx hb hts hnX7 hown hK.1 hP 0 rfl rfl 0 (Nat.le_of_ble_eq_true rfl) hk121 (fun _ h9 => h9) rfl dX7_observe_140 ?_
          refine lv_iconst (v := 3) (pc := 143) hx hb dX7_observe_143 (by decide) ?_
          refine lv_dup2_11 (pc := 144) hx hb dX7_observe_144 rfl rfl ?_
          refine va_iald (pc := 145) hx hb hK.1 hP 1 0 rfl rfl (vp_in_nI (n := 3) (N := 580) (by decide) (by decide)) dX7_observe_145 ?_
          refine lv_iconst (v := 1) (pc := 146) hx hb dX7_observe_146 (by decide) ?_
          refine lv_iadd (pc := 147) hx hb dX7_observe_147 ?_
          obtain ⟨f16, ef16⟩ : ∃ y : Nat → Int32, y = (upd f13 (3 : Int32).toNatClampNeg ((f13 (3 : Int32).toNatClampNeg) + (1 : Int32))) := ⟨_, rfl⟩
          replace h := am_let_s ef16 h
          refine va_iast (pc := 148) hx hb hK.1 hP hD hS 1 0 rfl rfl (vp_in_nI (n := 3) (N := 580) (by decide) (by decide)) dX7_observe_148 (fun H locs hP hD hS => ?_)
          rw [← ef16] at hP hD
          replace hP : va_P D vwCl [(mself, .inr (7, [.ref msa, .ref mpasta, .ref mhelda, .int u10, .int mruns, .ref mtexta, .int mtyped, .ref mchosena, .ref mtimesa, .ref mrestsa, .ref mbeforea, .int mspot, .int mfrom, .int mreason, .int mcause, .int morders, .int mkind, .ref mtolda])), (msa, .inl (cI, 580, .inl f16)), (mpasta, .inl (cI, 2320, .inl f11)), (mhelda, .inl (cI, 580, .inl mheld)), (mtexta, .inl (cI, 60, .inl mtext)), (mchosena, .inl (cI, 12, .inl mchosen)), (mtimesa, .inl (cI, 12, .inl mtimes)), (mrestsa, .inl (cJ, 12, .inr (.inl mrests))), (mbeforea, .inl (cI, 12, .inl f14)), (mtolda, .inl (cI, 2, .inl mtold))] H := hP
          replace hD : va_D A [(mself, .inr (7, [.ref msa, .ref mpasta, .ref mhelda, .int u10, .int mruns, .ref mtexta, .int mtyped, .ref mchosena, .ref mtimesa, .ref mrestsa, .ref mbeforea, .int mspot, .int mfrom, .int mreason, .int mcause, .int morders, .int mkind, .ref mtolda])), (msa, .inl (cI, 580, .inl f16)), (mpasta, .inl (cI, 2320, .inl f11)), (mhelda, .inl (cI, 580, .inl mheld)), (mtexta, .inl (cI, 60, .inl mtext)), (mchosena, .inl (cI, 12, .inl mchosen)), (mtimesa, .inl (cI, 12, .inl mtimes)), (mrestsa, .inl (cJ, 12, .inr (.inl mrests))), (mbeforea, .inl (cI, 12, .inl f14)), (mtolda, .inl (cI, 2, .inl mtold))] := hD
          refine lv_iload (pc := 149) hx hb dX7_observe_149 (lv_at hl 0 rfl) ?_
          refine lv_aload_n (pc := 151) hx hb dX7_observe_151 rfl (lv_at hl 1 rfl) ?_
          refine va_get (pc := 152) (D := D) (ci := 7) (v := .ref msa) (C := RX7) (T := TX7) (N := 18) hx hb hts hnX7 hown hK.1 hP 0 rfl rfl 0 (Nat.le_of_ble_eq_true rfl) hk121 (fun _ h9 => h9) rfl dX7_observe_152 ?_
          refine lv_iconst (v := 5) (pc := 155) hx hb dX7_observe_155 (by decide) ?_
          refine va_iald (pc := 156) hx hb hK.1 hP 1 0 rfl rfl (vp_in_nI (n := 5) (N := 580) (by decide) (by decide)) dX7_observe_156 ?_
          refine lv_icmp_ge (pc := 157) (tgt := 164) hx hb dX7_observe_157 (by decide) (fun cc => ?_) (fun cc => ?_)
          · replace h := am_t cc h
            refine lv_iload (pc := 164) hx hb dX7_observe_164 (lv_at hl 0 rfl) ?_
            obtain ⟨e1, e2, e3, e4, e5, e6, e7, e8⟩ := am_ret8 h
            exact hret _ _ _ _ _ dX7_observe_166 rfl e1 (by rw [← e2, ← e3, ← e4, ← e5, ← e6, ← e7, ← e8]; exact hP) hS
          replace h := am_f cc h
          refine lv_aload_n (pc := 160) hx hb dX7_observe_160 rfl (lv_at hl 1 rfl) ?_
          obtain ⟨f17, f18, f19, f20, hc20, h⟩ := am_call4_s h
          refine kc_Wv (pc := 161) (ci := 7) ⟨hx, hb, hml, hown, hts⟩ hP hK hD hS hA [] (c_X7_resamples l D cI cJ mself msa mpasta mhelda mtexta mchosena mtimesa mrestsa mbeforea mtolda u10 mruns mtyped mspot mfrom mreason mcause morders mkind f16 f11 mheld mtext mchosen mtimes mrests f14 mtold f17 f18 f19 f20 hc20 _) [0, 1, 2, 3, 4, 5, 6, 7, 8, 9] rfl rfl rfl (cwV 0 hts (gzV wl387 wl388 wl389 wl5 wl390) rfl rfl rfl ⟨rfl, hdX7_resamples⟩ ⟨Nat.le_of_ble_eq_true rfl, Nat.le_of_ble_eq_true rfl⟩) rfl rfl [] rfl hl.1 rfl (Nat.le_of_ble_eq_true rfl) dX7_observe_161 ⟨Nat.zero_le _, Nat.zero_le _⟩ (fun H locs hP hD hS => ?_)
          replace hP : va_P D vwCl [(mself, .inr (7, [.ref msa, .ref mpasta, .ref mhelda, .int u10, .int mruns, .ref mtexta, .int mtyped, .ref mchosena, .ref mtimesa, .ref mrestsa, .ref mbeforea, .int mspot, .int mfrom, .int mreason, .int mcause, .int morders, .int mkind, .ref mtolda])), (msa, .inl (cI, 580, .inl f17)), (mpasta, .inl (cI, 2320, .inl f11)), (mhelda, .inl (cI, 580, .inl mheld)), (mtexta, .inl (cI, 60, .inl mtext)), (mchosena, .inl (cI, 12, .inl f18)), (mtimesa, .inl (cI, 12, .inl f19)), (mrestsa, .inl (cJ, 12, .inr (.inl f20))), (mbeforea, .inl (cI, 12, .inl f14)), (mtolda, .inl (cI, 2, .inl mtold))] H := hP
          replace hD : va_D A [(mself, .inr (7, [.ref msa, .ref mpasta, .ref mhelda, .int u10, .int mruns, .ref mtexta, .int mtyped, .ref mchosena, .ref mtimesa, .ref mrestsa, .ref mbeforea, .int mspot, .int mfrom, .int mreason, .int mcause, .int morders, .int mkind, .ref mtolda])), (msa, .inl (cI, 580, .inl f17)), (mpasta, .inl (cI, 2320, .inl f11)), (mhelda, .inl (cI, 580, .inl mheld)), (mtexta, .inl (cI, 60, .inl mtext)), (mchosena, .inl (cI, 12, .inl f18)), (mtimesa, .inl (cI, 12, .inl f19)), (mrestsa, .inl (cJ, 12, .inr (.inl f20))), (mbeforea, .inl (cI, 12, .inl f14)), (mtolda, .inl (cI, 2, .inl mtold))] := hD
          refine lv_iload (pc := 164) hx hb dX7_observe_164 (lv_at hl 0 rfl) ?_
          obtain ⟨e1, e2, e3, e4, e5, e6, e7, e8⟩ := am_ret8 h
          exact hret _ _ _ _ _ dX7_observe_166 rfl e1 (by rw [← e2, ← e3, ← e4, ← e5, ← e6, ← e7, ← e8]; exact hP) hS
        replace h := am_f cc h
        refine lv_iload (pc := 119) hx hb dX7_observe_119 (lv_at hl 3 rfl) ?_
        obtain ⟨e1, e2, e3, e4, e5, e6, e7, e8⟩ := am_ret8 h
        exact hret _ _ _ _ _ dX7_observe_121 rfl e1 (by rw [← e2, ← e3, ← e4, ← e5, ← e6, ← e7, ← e8]; exact hP) hS
      refine am_loop2_s (fun (x21 : Int32) (f22 : Nat → Int32) => ∀ (ls : Array Slot), lv_has ls 6 [(0, .ref mself), (1, .int p0), (2, .int p1), (4, .int j6), (5, .int x21)] → ∀ (H : Heap) (locs : List Loc), va_P D vwCl [(mself, .inr (7, [.ref msa, .ref mpasta, .ref mhelda, .int mpasts, .int mruns, .ref mtexta, .int mtyped, .ref mchosena, .ref mtimesa, .ref mrestsa, .ref mbeforea, .int mspot, .int mfrom, .int mreason, .int mcause, .int morders, .int mkind, .ref mtolda])), (msa, .inl (cI, 580, .inl f22)), (mpasta, .inl (cI, 2320, .inl mpast)), (mhelda, .inl (cI, 580, .inl mheld)), (mtexta, .inl (cI, 60, .inl mtext)), (mchosena, .inl (cI, 12, .inl mchosen)), (mtimesa, .inl (cI, 12, .inl mtimes)), (mrestsa, .inl (cJ, 12, .inr (.inl mrests))), (mbeforea, .inl (cI, 12, .inl f5)), (mtolda, .inl (cI, 2, .inl mtold))] H → va_D A [(mself, .inr (7, [.ref msa, .ref mpasta, .ref mhelda, .int mpasts, .int mruns, .ref mtexta, .int mtyped, .ref mchosena, .ref mtimesa, .ref mrestsa, .ref mbeforea, .int mspot, .int mfrom, .int mreason, .int mcause, .int morders, .int mkind, .ref mtolda])), (msa, .inl (cI, 580, .inl f22)), (mpasta, .inl (cI, 2320, .inl mpast)), (mhelda, .inl (cI, 580, .inl mheld)), (mtexta, .inl (cI, 60, .inl mtext)), (mchosena, .inl (cI, 12, .inl mchosen)), (mtimesa, .inl (cI, 12, .inl mtimes)), (mrestsa, .inl (cJ, 12, .inr (.inl mrests))), (mbeforea, .inl (cI, 12, .inl f5)), (mtolda, .inl (cI, 2, .inl mtold))] → va_S A s.heap H locs → W p l e rmX7_observe s m args below meth c H locs 0 0 Q (F0 m 80 ls [])) (fun rec23 ihrec23 x21 f22 h ls hl H locs hP hD hS => ?_) _ _ _ h ls (lv_sub hl [2, 3, 4, 1, 0] rfl) H locs hP hD hS
      unfold F_X7_observe_B80 at h
      refine lv_iload (pc := 80) hx hb dX7_observe_80 (lv_at hl 4 rfl) ?_
      refine lv_aload_n (pc := 82) hx hb dX7_observe_82 rfl (lv_at hl 0 rfl) ?_
      refine va_get (pc := 83) (D := D) (ci := 7) (v := .ref msa) (C := RX7) (T := TX7) (N := 18) hx hb hts hnX7 hown hK.1 hP 0 rfl rfl 0 (Nat.le_of_ble_eq_true rfl) hk121 (fun _ h9 => h9) rfl dX7_observe_83 ?_
      refine lv_iconst (v := 0) (pc := 86) hx hb dX7_observe_86 (by decide) ?_
      refine va_iald (pc := 87) hx hb hK.1 hP 1 0 rfl rfl (vp_in_nI (n := 0) (N := 580) (by decide) (by decide)) dX7_observe_87 ?_
      refine lv_icmp_ge (pc := 88) (tgt := 114) hx hb dX7_observe_88 (by decide) (fun cc => ?_) (fun cc => ?_)
      · replace h := am_t cc h
        exact hK9 _ h ls (lv_sub hl [0, 1, 2, 3] rfl) H locs hP hD hS
      replace h := am_f cc h
      refine lv_aload_n (pc := 91) hx hb dX7_observe_91 rfl (lv_at hl 0 rfl) ?_
      refine va_get (pc := 92) (D := D) (ci := 7) (v := .ref msa) (C := RX7) (T := TX7) (N := 18) hx hb hts hnX7 hown hK.1 hP 0 rfl rfl 0 (Nat.le_of_ble_eq_true rfl) hk121 (fun _ h9 => h9) rfl dX7_observe_92 ?_
      refine lv_bipush (v := 8) (pc := 95) hx hb dX7_observe_95 (by decide) ?_
      refine lv_iload (pc := 97) hx hb dX7_observe_97 (lv_at hl 4 rfl) ?_
      refine lv_iadd (pc := 99) hx hb dX7_observe_99 ?_
      refine lv_aload_n (pc := 100) hx hb dX7_observe_100 rfl (lv_at hl 0 rfl) ?_
      refine va_get (pc := 101) (D := D) (ci := 7) (v := .ref mbeforea) (C := RX7) (T := TX7) (N := 18) hx hb hts hnX7 hown hK.1 hP 0 rfl rfl 10 (Nat.le_of_ble_eq_true rfl) hk128 (fun _ h9 => h9) rfl dX7_observe_101 ?_
      refine lv_iload (pc := 104) hx hb dX7_observe_104 (lv_at hl 4 rfl) ?_
      obtain ⟨hi, h⟩ := am_in_s h
      refine va_iald (pc := 106) hx hb hK.1 hP 8 0 rfl rfl hi dX7_observe_106 ?_
      obtain ⟨hi, h⟩ := am_in_s h
      obtain ⟨f24, ef24⟩ : ∃ y : Nat → Int32, y = (upd f22 ((8 : Int32) + x21).toNatClampNeg (f5 x21.toNatClampNeg)) := ⟨_, rfl⟩
      replace h := am_let_s ef24 h
      refine va_iast (pc := 107) hx hb hK.1 hP hD hS 1 0 rfl rfl hi dX7_observe_107 (fun H locs hP hD hS => ?_)
      rw [← ef24] at hP hD
      replace hP : va_P D vwCl [(mself, .inr (7, [.ref msa, .ref mpasta, .ref mhelda, .int mpasts, .int mruns, .ref mtexta, .int mtyped, .ref mchosena, .ref mtimesa, .ref mrestsa, .ref mbeforea, .int mspot, .int mfrom, .int mreason, .int mcause, .int morders, .int mkind, .ref mtolda])), (msa, .inl (cI, 580, .inl f24)), (mpasta, .inl (cI, 2320, .inl mpast)), (mhelda, .inl (cI, 580, .inl mheld)), (mtexta, .inl (cI, 60, .inl mtext)), (mchosena, .inl (cI, 12, .inl mchosen)), (mtimesa, .inl (cI, 12, .inl mtimes)), (mrestsa, .inl (cJ, 12, .inr (.inl mrests))), (mbeforea, .inl (cI, 12, .inl f5)), (mtolda, .inl (cI, 2, .inl mtold))] H := hP
      replace hD : va_D A [(mself, .inr (7, [.ref msa, .ref mpasta, .ref mhelda, .int mpasts, .int mruns, .ref mtexta, .int mtyped, .ref mchosena, .ref mtimesa, .ref mrestsa, .ref mbeforea, .int mspot, .int mfrom, .int mreason, .int mcause, .int morders, .int mkind, .ref mtolda])), (msa, .inl (cI, 580, .inl f24)), (mpasta, .inl (cI, 2320, .inl mpast)), (mhelda, .inl (cI, 580, .inl mheld)), (mtexta, .inl (cI, 60, .inl mtext)), (mchosena, .inl (cI, 12, .inl mchosen)), (mtimesa, .inl (cI, 12, .inl mtimes)), (mrestsa, .inl (cJ, 12, .inr (.inl mrests))), (mbeforea, .inl (cI, 12, .inl f5)), (mtolda, .inl (cI, 2, .inl mtold))] := hD
      obtain ⟨x25, ex25⟩ : ∃ y : Int32, y = (x21 + (1 : Int32)) := ⟨_, rfl⟩
      replace h := am_let_s ex25 h
      refine lv_iinc (pc := 108) (v := x25) (lv' := [(5, .int x25), (0, .ref mself), (1, .int p0), (2, .int p1), (4, .int j6)]) hx hb dX7_observe_108 hl (k := 4) rfl (by rw [ex25]; rfl) (by decide) rfl (fun ls hl => ?_)
      refine lv_goto (pc := 111) (tgt := 80) hx hb dX7_observe_111 (by decide) ?_
      exact ihrec23 _ _ h ls (lv_sub hl [1, 2, 3, 4, 0] rfl) H locs hP hD hS
    refine lv_if_ne (pc := 31) (tgt := 39) hx hb dX7_observe_31 (by decide) (fun cc => ?_) (fun cc => ?_)
    · replace h := am_f cc h
      refine lv_iload_n (pc := 39) hx hb dX7_observe_39 rfl (lv_at hl 0 rfl) ?_
      refine lv_ldc (pc := 40) hx hb hown hk221 dX7_observe_40 ?_
      refine am_join0_s (∀ (ls : Array Slot), lv_has ls 6 [(0, .ref mself), (1, .int p0), (2, .int p1)] → W p l e rmX7_observe s m args below meth c H locs 0 0 Q (F0 m 69 ls [])) h (fun h ls hl => ?_) (fun J26 hJ26 h => ?_)
      · refine lv_ldc (pc := 69) hx hb hown hk275 dX7_observe_69 ?_
        refine lv_goto (pc := 71) (tgt := 75) hx hb dX7_observe_71 (by decide) ?_
        exact hJ7 _ h ls (lv_sub hl [0, 1, 2] rfl)
      refine lv_icmp_gt (pc := 42) (tgt := 69) hx hb dX7_observe_42 (by decide) (fun cc => ?_) (fun cc => ?_)
      · replace h := am_t cc h
        exact hJ26 h ls (lv_sub hl [1, 2, 3] rfl)
      replace h := am_f cc h
      refine lv_aload_n (pc := 45) hx hb dX7_observe_45 rfl (lv_at hl 1 rfl) ?_
      obtain ⟨r27, hc27, h⟩ := am_bind_s h
      refine kc_Vi (pc := 46) (ci := 7) ⟨hx, hb, hml, hown, hts⟩ hP hK [] (c_X7_effective l D cI cJ mself msa mpasta mhelda mtexta mchosena mtimesa mrestsa mbeforea mtolda mpasts mruns mtyped mspot mfrom mreason mcause morders mkind f4 mpast mheld mtext mchosen mtimes mrests f5 mtold r27 hc27) [0, 1, 2, 3, 4, 5, 6, 7, 8, 9] rfl (cwV 0 hts (gzV wl383 wl384 wl385 wl5 wl386) rfl rfl rfl ⟨rfl, hdX7_effective⟩ ⟨Nat.le_of_ble_eq_true rfl, Nat.le_of_ble_eq_true rfl⟩) rfl rfl [] rfl hl.1 rfl (Nat.le_of_ble_eq_true rfl) dX7_observe_46 ⟨Nat.zero_le _, Nat.zero_le _⟩ ?_
      refine lv_aload_n (pc := 49) hx hb dX7_observe_49 rfl (lv_at hl 1 rfl) ?_
      refine va_get (pc := 50) (D := D) (ci := 7) (v := .ref msa) (C := RX7) (T := TX7) (N := 18) hx hb hts hnX7 hown hK.1 hP 0 rfl rfl 0 (Nat.le_of_ble_eq_true rfl) hk121 (fun _ h9 => h9) rfl dX7_observe_50 ?_
      refine lv_iconst (v := 5) (pc := 53) hx hb dX7_observe_53 (by decide) ?_
      refine va_iald (pc := 54) hx hb hK.1 hP 1 0 rfl rfl (vp_in_nI (n := 5) (N := 580) (by decide) (by decide)) dX7_observe_54 ?_
      refine am_join0_s (∀ (ls : Array Slot), lv_has ls 6 [(0, .ref mself), (1, .int p0), (2, .int p1)] → W p l e rmX7_observe s m args below meth c H locs 0 0 Q (F0 m 74 ls [])) h (fun h ls hl => ?_) (fun J28 hJ28 h => ?_)
      · refine lv_iconst (v := 0) (pc := 74) hx hb dX7_observe_74 (by decide) ?_
        exact hJ7 _ h ls (lv_sub hl [0, 1, 2] rfl)
      refine lv_icmp_ge (pc := 55) (tgt := 74) hx hb dX7_observe_55 (by decide) (fun cc => ?_) (fun cc => ?_)
      · replace h := am_t cc h
        exact hJ28 h ls (lv_sub hl [1, 2, 3] rfl)
      replace h := am_f cc h
      refine lv_aload_n (pc := 58) hx hb dX7_observe_58 rfl (lv_at hl 1 rfl) ?_
      refine va_get (pc := 59) (D := D) (ci := 7) (v := .ref msa) (C := RX7) (T := TX7) (N := 18) hx hb hts hnX7 hown hK.1 hP 0 rfl rfl 0 (Nat.le_of_ble_eq_true rfl) hk121 (fun _ h9 => h9) rfl dX7_observe_59 ?_
      refine lv_iconst (v := 1) (pc := 62) hx hb dX7_observe_62 (by decide) ?_
      refine va_iald (pc := 63) hx hb hK.1 hP 1 0 rfl rfl (vp_in_nI (n := 1) (N := 580) (by decide) (by decide)) dX7_observe_63 ?_
      refine lv_bipush (v := 20) (pc := 64) hx hb dX7_observe_64 (by decide) ?_
      refine lv_icmp_ne (pc := 66) (tgt := 74) hx hb dX7_observe_66 (by decide) (fun cc => ?_) (fun cc => ?_)
      · replace h := am_f cc h
        exact hJ28 h ls (lv_sub hl [1, 2, 3] rfl)
      replace h := am_t cc h
      exact hJ26 h ls (lv_sub hl [1, 2, 3] rfl)
    replace h := am_t cc h
    refine lv_ldc (pc := 34) hx hb hown hk222 dX7_observe_34 ?_
    refine lv_goto (pc := 36) (tgt := 75) hx hb dX7_observe_36 (by decide) ?_
    exact hJ7 _ h ls (lv_sub hl [1, 2, 3] rfl)
  replace h := am_t cc h
  refine lv_ldc (pc := 20) hx hb hown hk175 dX7_observe_20 ?_
  obtain ⟨e1, e2, e3, e4, e5, e6, e7, e8⟩ := am_ret8 h
  exact hret _ _ _ _ _ dX7_observe_22 rfl e1 (by rw [← e2, ← e3, ← e4, ← e5, ← e6, ← e7, ← e8]; exact hP) hS
theorem hdX7_unlike : yX7_unlike.cls ≠ "java/lang/invoke/MethodHandle" ∧ yX7_unlike.cls ≠ "java/lang/invoke/VarHandle" ∧ (parseMethodDescriptor yX7_unlike.desc).map (fun d => d.parameters.length) = some 2 := by decide +kernel
abbrev rmX7_unlike : Room := { frames := 0, cells := 0, slots := 0, locals := 0 }
set_option maxHeartbeats 20000000 in
set_option maxRecDepth 100000 in
theorem c_X7_unlike (l : Launch) (D : va_G) (cI cJ : ClassId) (mself : Nat) (msa : Nat) (mpasta : Nat) (mhelda : Nat) (mtexta : Nat) (mchosena : Nat) (mtimesa : Nat) (mrestsa : Nat) (mbeforea : Nat) (mtolda : Nat) (mpasts : Int32) (mruns : Int32) (mtyped : Int32) (mspot : Int32) (mfrom : Int32) (mreason : Int32) (mcause : Int32) (morders : Int32) (mkind : Int32) (ms : Nat → Int32) (mpast : Nat → Int32) (mheld : Nat → Int32) (mtext : Nat → Int32) (mchosen : Nat → Int32) (mtimes : Nat → Int32) (mrests : Nat → Int64) (mbefore : Nat → Int32) (mtold : Nat → Int32) (p0 : Int32) (p1 : Int32) (r0 : Int32) (hF : F_X7_unlike ms p0 p1 = some r0) : Met l yX7_unlike (wz yX7_unlike cX7_unlike 7 (some .int)) rmX7_unlike (kPc D cI cJ [(mself, .inr (7, [.ref msa, .ref mpasta, .ref mhelda, .int mpasts, .int mruns, .ref mtexta, .int mtyped, .ref mchosena, .ref mtimesa, .ref mrestsa, .ref mbeforea, .int mspot, .int mfrom, .int mreason, .int mcause, .int morders, .int mkind, .ref mtolda])), (msa, .inl (cI, 580, .inl ms)), (mpasta, .inl (cI, 2320, .inl mpast)), (mhelda, .inl (cI, 580, .inl mheld)), (mtexta, .inl (cI, 60, .inl mtext)), (mchosena, .inl (cI, 12, .inl mchosen)), (mtimesa, .inl (cI, 12, .inl mtimes)), (mrestsa, .inl (cJ, 12, .inr (.inl mrests))), (mbeforea, .inl (cI, 12, .inl mbefore)), (mtolda, .inl (cI, 2, .inl mtold))] [.ref mself, .int p0, .int p1]) (vp_Si (fun r => r = r0)) 0 0 (fun _ => False) := by
  refine kM_ri cX7_unlike 7 .int (by decide +kernel) rfl rfl (Nat.le_of_ble_eq_true rfl) ⟨rfl, rfl⟩ ?_
  intro p e s m args below meth c Q ls hx hb hml hown hts hP hK hl hret
  have hk121 := hts _ (List.mem_cons_of_mem _ wl121)
  have hnX7 : ∀ w ∈ u_ws RX7 TX7 18, w ∈ wz yX7_unlike cX7_unlike 7 (some .int) := fun w h => List.mem_cons_of_mem _ (inlX7 w h)
  replace hl : lv_has ls 7 [(0, .ref mself), (1, .int p0), (2, .int p1)] := hl
  have h := hF
  unfold F_X7_unlike at h
  refine lv_iconst (v := 0) (pc := 0) hx hb dX7_unlike_0 (by decide) ?_
  refine lv_istore_n (lv' := [(3, .int (0 : Int32)), (0, .ref mself), (1, .int p0), (2, .int p1)]) (pc := 1) hx hb dX7_unlike_1 rfl hl (by decide) rfl (fun ls hl => ?_)
  refine lv_iconst (v := 0) (pc := 2) hx hb dX7_unlike_2 (by decide) ?_
  refine lv_istore (lv' := [(4, .int (0 : Int32)), (3, .int (0 : Int32)), (0, .ref mself), (1, .int p0), (2, .int p1)]) (pc := 3) hx hb dX7_unlike_3 hl (by decide) rfl (fun ls hl => ?_)
  refine am_join1_s (fun (x1 : Int32) => ∀ (ls : Array Slot), lv_has ls 7 [(3, .int x1)] → W p l e rmX7_unlike s m args below meth c s.heap [] 0 0 Q (F0 m 97 ls [])) h (fun x1 h ls hl => ?_) (fun K2 hK2 h => ?_)
  · refine lv_iload_n (pc := 97) hx hb dX7_unlike_97 rfl (lv_at hl 0 rfl) ?_
    obtain e1 := am_ret1 h
    exact hret _ _ _ dX7_unlike_98 rfl e1
  refine am_loop2_s (fun (x3 : Int32) (x4 : Int32) => ∀ (ls : Array Slot), lv_has ls 7 [(0, .ref mself), (1, .int p0), (2, .int p1), (3, .int x3), (4, .int x4)] → W p l e rmX7_unlike s m args below meth c s.heap [] 0 0 Q (F0 m 5 ls [])) (fun rec5 ihrec5 x3 x4 h ls hl => ?_) _ _ _ h ls (lv_sub hl [2, 3, 4, 1, 0] rfl)
  unfold F_X7_unlike_B5 at h
  refine lv_iload (pc := 5) hx hb dX7_unlike_5 (lv_at hl 4 rfl) ?_
  refine lv_aload_n (pc := 7) hx hb dX7_unlike_7 rfl (lv_at hl 0 rfl) ?_
  refine va_get (pc := 8) (D := D) (ci := 7) (v := .ref msa) (C := RX7) (T := TX7) (N := 18) hx hb hts hnX7 hown hK.1 hP 0 rfl rfl 0 (Nat.le_of_ble_eq_true rfl) hk121 (fun _ h9 => h9) rfl dX7_unlike_8 ?_
  refine lv_iconst (v := 0) (pc := 11) hx hb dX7_unlike_11 (by decide) ?_
  refine va_iald (pc := 12) hx hb hK.1 hP 1 0 rfl rfl (vp_in_nI (n := 0) (N := 580) (by decide) (by decide)) dX7_unlike_12 ?_
  refine lv_icmp_ge (pc := 13) (tgt := 97) hx hb dX7_unlike_13 (by decide) (fun cc => ?_) (fun cc => ?_)
  · replace h := am_t cc h
    exact hK2 _ h ls (lv_sub hl [3] rfl)
  replace h := am_f cc h
  refine lv_iconst (v := 1) (pc := 16) hx hb dX7_unlike_16 (by decide) ?_
  refine lv_istore (lv' := [(5, .int (1 : Int32)), (0, .ref mself), (1, .int p0), (2, .int p1), (3, .int x3), (4, .int x4)]) (pc := 17) hx hb dX7_unlike_17 hl (by decide) rfl (fun ls hl => ?_)
  refine lv_iconst (v := 0) (pc := 19) hx hb dX7_unlike_19 (by decide) ?_
  refine lv_istore (lv' := [(6, .int (0 : Int32)), (5, .int (1 : Int32)), (0, .ref mself), (1, .int p0), (2, .int p1), (3, .int x3), (4, .int x4)]) (pc := 20) hx hb dX7_unlike_20 hl (by decide) rfl (fun ls hl => ?_)
  refine am_join1_s (fun (x6 : Int32) => ∀ (ls : Array Slot), lv_has ls 7 [(0, .ref mself), (1, .int p0), (2, .int p1), (3, .int x3), (4, .int x4), (5, .int x6)] → W p l e rmX7_unlike s m args below meth c s.heap [] 0 0 Q (F0 m 78 ls [])) h (fun x6 h ls hl => ?_) (fun K7 hK7 h => ?_)
  · refine lv_iload_n (pc := 78) hx hb dX7_unlike_78 rfl (lv_at hl 3 rfl) ?_
    refine lv_iload (pc := 79) hx hb dX7_unlike_79 (lv_at hl 5 rfl) ?_
    refine lv_if_eq (pc := 81) (tgt := 88) hx hb dX7_unlike_81 (by decide) (fun cc => ?_) (fun cc => ?_)
    · replace h := am_t cc h
      refine lv_iconst (v := 0) (pc := 88) hx hb dX7_unlike_88 (by decide) ?_
      refine lv_iadd (pc := 89) hx hb dX7_unlike_89 ?_
      refine lv_topi (fun x8 ex8 => ?_)
      replace h := am_let_s ex8 h
      refine lv_istore_n (lv' := [(3, .int x8), (0, .ref mself), (1, .int p0), (2, .int p1), (4, .int x4), (5, .int x6)]) (pc := 90) hx hb dX7_unlike_90 rfl hl (by decide) rfl (fun ls hl => ?_)
      obtain ⟨x9, ex9⟩ : ∃ y : Int32, y = (x4 + (1 : Int32)) := ⟨_, rfl⟩
      replace h := am_let_s ex9 h
      refine lv_iinc (pc := 91) (v := x9) (lv' := [(4, .int x9), (3, .int x8), (0, .ref mself), (1, .int p0), (2, .int p1), (5, .int x6)]) hx hb dX7_unlike_91 hl (k := 4) rfl (by rw [ex9]; rfl) (by decide) rfl (fun ls hl => ?_)
      refine lv_goto (pc := 94) (tgt := 5) hx hb dX7_unlike_94 (by decide) ?_
      exact ihrec5 _ _ h ls (lv_sub hl [2, 3, 4, 1, 0] rfl)
    replace h := am_f cc h
    refine lv_iconst (v := 1) (pc := 84) hx hb dX7_unlike_84 (by decide) ?_
    refine lv_goto (pc := 85) (tgt := 89) hx hb dX7_unlike_85 (by decide) ?_
    refine lv_iadd (pc := 89) hx hb dX7_unlike_89 ?_
    refine lv_topi (fun x10 ex10 => ?_)
    replace h := am_let_s ex10 h
    refine lv_istore_n (lv' := [(3, .int x10), (0, .ref mself), (1, .int p0), (2, .int p1), (4, .int x4), (5, .int x6)]) (pc := 90) hx hb dX7_unlike_90 rfl hl (by decide) rfl (fun ls hl => ?_)
    obtain ⟨x11, ex11⟩ : ∃ y : Int32, y = (x4 + (1 : Int32)) := ⟨_, rfl⟩
    replace h := am_let_s ex11 h
    refine lv_iinc (pc := 91) (v := x11) (lv' := [(4, .int x11), (3, .int x10), (0, .ref mself), (1, .int p0), (2, .int p1), (5, .int x6)]) hx hb dX7_unlike_91 hl (k := 4) rfl (by rw [ex11]; rfl) (by decide) rfl (fun ls hl => ?_)
    refine lv_goto (pc := 94) (tgt := 5) hx hb dX7_unlike_94 (by decide) ?_
    exact ihrec5 _ _ h ls (lv_sub hl [2, 3, 4, 1, 0] rfl)
  refine am_loop2_s (fun (x12 : Int32) (x13 : Int32) => ∀ (ls : Array Slot), lv_has ls 7 [(0, .ref mself), (1, .int p0), (2, .int p1), (3, .int x3), (4, .int x4), (5, .int x12), (6, .int x13)] → W p l e rmX7_unlike s m args below meth c s.heap [] 0 0 Q (F0 m 22 ls [])) (fun rec14 ihrec14 x12 x13 h ls hl => ?_) _ _ _ h ls (lv_sub hl [2, 3, 4, 5, 6, 1, 0] rfl)
  unfold F_X7_unlike_B22 at h
  refine lv_iload (pc := 22) hx hb dX7_unlike_22 (lv_at hl 6 rfl) ?_
  refine lv_iload (pc := 24) hx hb dX7_unlike_24 (lv_at hl 4 rfl) ?_
  refine lv_icmp_ge (pc := 26) (tgt := 78) hx hb dX7_unlike_26 (by decide) (fun cc => ?_) (fun cc => ?_)
  · replace h := am_t cc h
    exact hK7 _ h ls (lv_sub hl [0, 1, 2, 3, 4, 5] rfl)
  replace h := am_f cc h
  refine lv_iload (pc := 29) hx hb dX7_unlike_29 (lv_at hl 5 rfl) ?_
  refine lv_if_eq (pc := 31) (tgt := 69) hx hb dX7_unlike_31 (by decide) (fun cc => ?_) (fun cc => ?_)
  · replace h := am_t cc h
    refine lv_iconst (v := 0) (pc := 69) hx hb dX7_unlike_69 (by decide) ?_
    refine lv_istore (lv' := [(5, .int (0 : Int32)), (0, .ref mself), (1, .int p0), (2, .int p1), (3, .int x3), (4, .int x4), (6, .int x13)]) (pc := 70) hx hb dX7_unlike_70 hl (by decide) rfl (fun ls hl => ?_)
    obtain ⟨x15, ex15⟩ : ∃ y : Int32, y = (x13 + (1 : Int32)) := ⟨_, rfl⟩
    replace h := am_let_s ex15 h
    refine lv_iinc (pc := 72) (v := x15) (lv' := [(6, .int x15), (5, .int (0 : Int32)), (0, .ref mself), (1, .int p0), (2, .int p1), (3, .int x3), (4, .int x4)]) hx hb dX7_unlike_72 hl (k := 6) rfl (by rw [ex15]; rfl) (by decide) rfl (fun ls hl => ?_)
    refine lv_goto (pc := 75) (tgt := 22) hx hb dX7_unlike_75 (by decide) ?_
    exact ihrec14 _ _ h ls (lv_sub hl [2, 3, 4, 5, 6, 1, 0] rfl)
  replace h := am_f cc h
  refine lv_aload_n (pc := 34) hx hb dX7_unlike_34 rfl (lv_at hl 0 rfl) ?_
  refine va_get (pc := 35) (D := D) (ci := 7) (v := .ref msa) (C := RX7) (T := TX7) (N := 18) hx hb hts hnX7 hown hK.1 hP 0 rfl rfl 0 (Nat.le_of_ble_eq_true rfl) hk121 (fun _ h9 => h9) rfl dX7_unlike_35 ?_
  refine lv_iload_n (pc := 38) hx hb dX7_unlike_38 rfl (lv_at hl 2 rfl) ?_
  refine lv_bipush (v := 12) (pc := 39) hx hb dX7_unlike_39 (by decide) ?_
  refine lv_iload_n (pc := 41) hx hb dX7_unlike_41 rfl (lv_at hl 1 rfl) ?_
  refine lv_imul (pc := 42) hx hb dX7_unlike_42 ?_
  refine lv_iadd (pc := 43) hx hb dX7_unlike_43 ?_
  refine lv_iload (pc := 44) hx hb dX7_unlike_44 (lv_at hl 6 rfl) ?_
  refine lv_iadd (pc := 46) hx hb dX7_unlike_46 ?_
  obtain ⟨hi, h⟩ := am_in_s h
  refine va_iald (pc := 47) hx hb hK.1 hP 1 0 rfl rfl hi dX7_unlike_47 ?_
  refine lv_aload_n (pc := 48) hx hb dX7_unlike_48 rfl (lv_at hl 0 rfl) ?_
  refine va_get (pc := 49) (D := D) (ci := 7) (v := .ref msa) (C := RX7) (T := TX7) (N := 18) hx hb hts hnX7 hown hK.1 hP 0 rfl rfl 0 (Nat.le_of_ble_eq_true rfl) hk121 (fun _ h9 => h9) rfl dX7_unlike_49 ?_
  refine lv_iload_n (pc := 52) hx hb dX7_unlike_52 rfl (lv_at hl 2 rfl) ?_
  refine lv_bipush (v := 12) (pc := 53) hx hb dX7_unlike_53 (by decide) ?_
  refine lv_iload_n (pc := 55) hx hb dX7_unlike_55 rfl (lv_at hl 1 rfl) ?_
  refine lv_imul (pc := 56) hx hb dX7_unlike_56 ?_
  refine lv_iadd (pc := 57) hx hb dX7_unlike_57 ?_
  refine lv_iload (pc := 58) hx hb dX7_unlike_58 (lv_at hl 4 rfl) ?_
  refine lv_iadd (pc := 60) hx hb dX7_unlike_60 ?_
  obtain ⟨hi, h⟩ := am_in_s h
  refine va_iald (pc := 61) hx hb hK.1 hP 1 0 rfl rfl hi dX7_unlike_61 ?_
  refine lv_icmp_eq (pc := 62) (tgt := 69) hx hb dX7_unlike_62 (by decide) (fun cc => ?_) (fun cc => ?_)
  · replace h := am_t cc h
    refine lv_iconst (v := 0) (pc := 69) hx hb dX7_unlike_69 (by decide) ?_
    refine lv_istore (lv' := [(5, .int (0 : Int32)), (0, .ref mself), (1, .int p0), (2, .int p1), (3, .int x3), (4, .int x4), (6, .int x13)]) (pc := 70) hx hb dX7_unlike_70 hl (by decide) rfl (fun ls hl => ?_)
    obtain ⟨x16, ex16⟩ : ∃ y : Int32, y = (x13 + (1 : Int32)) := ⟨_, rfl⟩
    replace h := am_let_s ex16 h
    refine lv_iinc (pc := 72) (v := x16) (lv' := [(6, .int x16), (5, .int (0 : Int32)), (0, .ref mself), (1, .int p0), (2, .int p1), (3, .int x3), (4, .int x4)]) hx hb dX7_unlike_72 hl (k := 6) rfl (by rw [ex16]; rfl) (by decide) rfl (fun ls hl => ?_)
    refine lv_goto (pc := 75) (tgt := 22) hx hb dX7_unlike_75 (by decide) ?_
    exact ihrec14 _ _ h ls (lv_sub hl [2, 3, 4, 5, 6, 1, 0] rfl)
  replace h := am_f cc h
  refine lv_iconst (v := 1) (pc := 65) hx hb dX7_unlike_65 (by decide) ?_
  refine lv_goto (pc := 66) (tgt := 70) hx hb dX7_unlike_66 (by decide) ?_
  refine lv_istore (lv' := [(5, .int (1 : Int32)), (0, .ref mself), (1, .int p0), (2, .int p1), (3, .int x3), (4, .int x4), (6, .int x13)]) (pc := 70) hx hb dX7_unlike_70 hl (by decide) rfl (fun ls hl => ?_)
  obtain ⟨x17, ex17⟩ : ∃ y : Int32, y = (x13 + (1 : Int32)) := ⟨_, rfl⟩
  replace h := am_let_s ex17 h
  refine lv_iinc (pc := 72) (v := x17) (lv' := [(6, .int x17), (5, .int (1 : Int32)), (0, .ref mself), (1, .int p0), (2, .int p1), (3, .int x3), (4, .int x4)]) hx hb dX7_unlike_72 hl (k := 6) rfl (by rw [ex17]; rfl) (by decide) rfl (fun ls hl => ?_)
  refine lv_goto (pc := 75) (tgt := 22) hx hb dX7_unlike_75 (by decide) ?_
  exact ihrec14 _ _ h ls (lv_sub hl [2, 3, 4, 5, 6, 1, 0] rfl)
theorem hdX7_resample : yX7_resample.cls ≠ "java/lang/invoke/MethodHandle" ∧ yX7_resample.cls ≠ "java/lang/invoke/VarHandle" ∧ (parseMethodDescriptor yX7_resample.desc).map (fun d => d.parameters.length) = some 0 := by decide +kernel
abbrev rmX7_resample : Room := { frames := 4, cells := 0, slots := 0, locals := 97 }
set_option maxHeartbeats 20000000 in
set_option maxRecDepth 100000 in
theorem c_X7_resample (l : Launch) (D : va_G) (cI cJ : ClassId) (mself : Nat) (msa : Nat) (mpasta : Nat) (mhelda : Nat) (mtexta : Nat) (mchosena : Nat) (mtimesa : Nat) (mrestsa : Nat) (mbeforea : Nat) (mtolda : Nat) (mpasts : Int32) (mruns : Int32) (mtyped : Int32) (mspot : Int32) (mfrom : Int32) (mreason : Int32) (mcause : Int32) (morders : Int32) (mkind : Int32) (ms : Nat → Int32) (mpast : Nat → Int32) (mheld : Nat → Int32) (mtext : Nat → Int32) (mchosen : Nat → Int32) (mtimes : Nat → Int32) (mrests : Nat → Int64) (mbefore : Nat → Int32) (mtold : Nat → Int32)  (r0 : Int32) (zmpasts : Int32) (zms : Nat → Int32) (zmpast : Nat → Int32) (zmchosen : Nat → Int32) (zmtimes : Nat → Int32) (zmrests : Nat → Int64) (hF : F_X7_resample mpasts mruns ms mpast mchosen mtimes mrests = some (r0, zmpasts, zms, zmpast, zmchosen, zmtimes, zmrests)) (sz : Nat) : Met l yX7_resample (wz yX7_resample cX7_resample 1 (some .int)) rmX7_resample (kPw D cI cJ [(mself, .inr (7, [.ref msa, .ref mpasta, .ref mhelda, .int mpasts, .int mruns, .ref mtexta, .int mtyped, .ref mchosena, .ref mtimesa, .ref mrestsa, .ref mbeforea, .int mspot, .int mfrom, .int mreason, .int mcause, .int morders, .int mkind, .ref mtolda])), (msa, .inl (cI, 580, .inl ms)), (mpasta, .inl (cI, 2320, .inl mpast)), (mhelda, .inl (cI, 580, .inl mheld)), (mtexta, .inl (cI, 60, .inl mtext)), (mchosena, .inl (cI, 12, .inl mchosen)), (mtimesa, .inl (cI, 12, .inl mtimes)), (mrestsa, .inl (cJ, 12, .inr (.inl mrests))), (mbeforea, .inl (cI, 12, .inl mbefore)), (mtolda, .inl (cI, 2, .inl mtold))] sz [.ref mself]) (kQi D r0 [(mself, .inr (7, [.ref msa, .ref mpasta, .ref mhelda, .int zmpasts, .int mruns, .ref mtexta, .int mtyped, .ref mchosena, .ref mtimesa, .ref mrestsa, .ref mbeforea, .int mspot, .int mfrom, .int mreason, .int mcause, .int morders, .int mkind, .ref mtolda])), (msa, .inl (cI, 580, .inl zms)), (mpasta, .inl (cI, 2320, .inl zmpast)), (mhelda, .inl (cI, 580, .inl mheld)), (mtexta, .inl (cI, 60, .inl mtext)), (mchosena, .inl (cI, 12, .inl zmchosen)), (mtimesa, .inl (cI, 12, .inl zmtimes)), (mrestsa, .inl (cJ, 12, .inr (.inl zmrests))), (mbeforea, .inl (cI, 12, .inl mbefore)), (mtolda, .inl (cI, 2, .inl mtold))] (va_A [(mself, .inr (7, [.ref msa, .ref mpasta, .ref mhelda, .int mpasts, .int mruns, .ref mtexta, .int mtyped, .ref mchosena, .ref mtimesa, .ref mrestsa, .ref mbeforea, .int mspot, .int mfrom, .int mreason, .int mcause, .int morders, .int mkind, .ref mtolda])), (msa, .inl (cI, 580, .inl ms)), (mpasta, .inl (cI, 2320, .inl mpast)), (mhelda, .inl (cI, 580, .inl mheld)), (mtexta, .inl (cI, 60, .inl mtext)), (mchosena, .inl (cI, 12, .inl mchosen)), (mtimesa, .inl (cI, 12, .inl mtimes)), (mrestsa, .inl (cJ, 12, .inr (.inl mrests))), (mbeforea, .inl (cI, 12, .inl mbefore)), (mtolda, .inl (cI, 2, .inl mtold))] sz)) 0 0 (va_A [(mself, .inr (7, [.ref msa, .ref mpasta, .ref mhelda, .int mpasts, .int mruns, .ref mtexta, .int mtyped, .ref mchosena, .ref mtimesa, .ref mrestsa, .ref mbeforea, .int mspot, .int mfrom, .int mreason, .int mcause, .int morders, .int mkind, .ref mtolda])), (msa, .inl (cI, 580, .inl ms)), (mpasta, .inl (cI, 2320, .inl mpast)), (mhelda, .inl (cI, 580, .inl mheld)), (mtexta, .inl (cI, 60, .inl mtext)), (mchosena, .inl (cI, 12, .inl mchosen)), (mtimesa, .inl (cI, 12, .inl mtimes)), (mrestsa, .inl (cJ, 12, .inr (.inl mrests))), (mbeforea, .inl (cI, 12, .inl mbefore)), (mtolda, .inl (cI, 2, .inl mtold))] sz) := by
  refine kM_wi cX7_resample 1 .int (by decide +kernel) rfl rfl (Nat.le_of_ble_eq_true rfl) ⟨rfl, rfl⟩ ?_
  intro p e s m args below meth c Q A ls hx hb hml hown hts hP hK hD hA hS hl hret
  have hk121 := hts _ (List.mem_cons_of_mem _ wl121)
  have hk275 := hts _ (List.mem_cons_of_mem _ wl275)
  have hnX7 : ∀ w ∈ u_ws RX7 TX7 18, w ∈ wz yX7_resample cX7_resample 1 (some .int) := fun w h => List.mem_cons_of_mem _ (inlX7 w h)
  replace hl : lv_has ls 1 [(0, .ref mself)] := hl
  have h := hF
  unfold F_X7_resample at h
  refine lv_aload_n (pc := 0) hx hb dX7_resample_0 rfl (lv_at hl 0 rfl) ?_
  refine va_get (pc := 1) (D := D) (ci := 7) (v := .ref msa) (C := RX7) (T := TX7) (N := 18) hx hb hts hnX7 hown hK.1 hP 0 rfl rfl 0 (Nat.le_of_ble_eq_true rfl) hk121 (fun _ h9 => h9) rfl dX7_resample_1 ?_
  refine lv_iconst (v := 1) (pc := 4) hx hb dX7_resample_4 (by decide) ?_
  refine va_iald (pc := 5) hx hb hK.1 hP 1 0 rfl rfl (vp_in_nI (n := 1) (N := 580) (by decide) (by decide)) dX7_resample_5 ?_
  refine lv_bipush (v := 20) (pc := 6) hx hb dX7_resample_6 (by decide) ?_
  refine lv_icmp_ne (pc := 8) (tgt := 14) hx hb dX7_resample_8 (by decide) (fun cc => ?_) (fun cc => ?_)
  · replace h := am_f cc h
    refine lv_aload_n (pc := 14) hx hb dX7_resample_14 rfl (lv_at hl 0 rfl) ?_
    obtain ⟨u1, f2, hc2, h⟩ := am_call2_s h
    refine kc_Wv (pc := 15) (ci := 7) ⟨hx, hb, hml, hown, hts⟩ hP hK hD hS hA [] (c_X7_changes l D cI cJ mself msa mpasta mhelda mtexta mchosena mtimesa mrestsa mbeforea mtolda mpasts mruns mtyped mspot mfrom mreason mcause morders mkind ms mpast mheld mtext mchosen mtimes mrests mbefore mtold u1 f2 hc2 _) [0, 1, 2, 3, 4, 5, 6, 7, 8, 9] rfl rfl rfl (cwV 0 hts (gzV wl179 wl180 wl181 wl5 wl182) rfl rfl rfl ⟨rfl, hdX7_changes⟩ ⟨Nat.le_of_ble_eq_true rfl, Nat.le_of_ble_eq_true rfl⟩) rfl rfl [] rfl hl.1 rfl (Nat.le_of_ble_eq_true rfl) dX7_resample_15 ⟨Nat.zero_le _, Nat.zero_le _⟩ (fun H locs hP hD hS => ?_)
    replace hP : va_P D vwCl [(mself, .inr (7, [.ref msa, .ref mpasta, .ref mhelda, .int u1, .int mruns, .ref mtexta, .int mtyped, .ref mchosena, .ref mtimesa, .ref mrestsa, .ref mbeforea, .int mspot, .int mfrom, .int mreason, .int mcause, .int morders, .int mkind, .ref mtolda])), (msa, .inl (cI, 580, .inl ms)), (mpasta, .inl (cI, 2320, .inl f2)), (mhelda, .inl (cI, 580, .inl mheld)), (mtexta, .inl (cI, 60, .inl mtext)), (mchosena, .inl (cI, 12, .inl mchosen)), (mtimesa, .inl (cI, 12, .inl mtimes)), (mrestsa, .inl (cJ, 12, .inr (.inl mrests))), (mbeforea, .inl (cI, 12, .inl mbefore)), (mtolda, .inl (cI, 2, .inl mtold))] H := hP
    replace hD : va_D A [(mself, .inr (7, [.ref msa, .ref mpasta, .ref mhelda, .int u1, .int mruns, .ref mtexta, .int mtyped, .ref mchosena, .ref mtimesa, .ref mrestsa, .ref mbeforea, .int mspot, .int mfrom, .int mreason, .int mcause, .int morders, .int mkind, .ref mtolda])), (msa, .inl (cI, 580, .inl ms)), (mpasta, .inl (cI, 2320, .inl f2)), (mhelda, .inl (cI, 580, .inl mheld)), (mtexta, .inl (cI, 60, .inl mtext)), (mchosena, .inl (cI, 12, .inl mchosen)), (mtimesa, .inl (cI, 12, .inl mtimes)), (mrestsa, .inl (cJ, 12, .inr (.inl mrests))), (mbeforea, .inl (cI, 12, .inl mbefore)), (mtolda, .inl (cI, 2, .inl mtold))] := hD
    refine lv_aload_n (pc := 18) hx hb dX7_resample_18 rfl (lv_at hl 0 rfl) ?_
    obtain ⟨f3, f4, f5, f6, hc6, h⟩ := am_call4_s h
    refine kc_Wv (pc := 19) (ci := 7) ⟨hx, hb, hml, hown, hts⟩ hP hK hD hS hA [] (c_X7_resamples l D cI cJ mself msa mpasta mhelda mtexta mchosena mtimesa mrestsa mbeforea mtolda u1 mruns mtyped mspot mfrom mreason mcause morders mkind ms f2 mheld mtext mchosen mtimes mrests mbefore mtold f3 f4 f5 f6 hc6 _) [0, 1, 2, 3, 4, 5, 6, 7, 8, 9] rfl rfl rfl (cwV 0 hts (gzV wl387 wl388 wl389 wl5 wl390) rfl rfl rfl ⟨rfl, hdX7_resamples⟩ ⟨Nat.le_of_ble_eq_true rfl, Nat.le_of_ble_eq_true rfl⟩) rfl rfl [] rfl hl.1 rfl (Nat.le_of_ble_eq_true rfl) dX7_resample_19 ⟨Nat.zero_le _, Nat.zero_le _⟩ (fun H locs hP hD hS => ?_)
    replace hP : va_P D vwCl [(mself, .inr (7, [.ref msa, .ref mpasta, .ref mhelda, .int u1, .int mruns, .ref mtexta, .int mtyped, .ref mchosena, .ref mtimesa, .ref mrestsa, .ref mbeforea, .int mspot, .int mfrom, .int mreason, .int mcause, .int morders, .int mkind, .ref mtolda])), (msa, .inl (cI, 580, .inl f3)), (mpasta, .inl (cI, 2320, .inl f2)), (mhelda, .inl (cI, 580, .inl mheld)), (mtexta, .inl (cI, 60, .inl mtext)), (mchosena, .inl (cI, 12, .inl f4)), (mtimesa, .inl (cI, 12, .inl f5)), (mrestsa, .inl (cJ, 12, .inr (.inl f6))), (mbeforea, .inl (cI, 12, .inl mbefore)), (mtolda, .inl (cI, 2, .inl mtold))] H := hP
    replace hD : va_D A [(mself, .inr (7, [.ref msa, .ref mpasta, .ref mhelda, .int u1, .int mruns, .ref mtexta, .int mtyped, .ref mchosena, .ref mtimesa, .ref mrestsa, .ref mbeforea, .int mspot, .int mfrom, .int mreason, .int mcause, .int morders, .int mkind, .ref mtolda])), (msa, .inl (cI, 580, .inl f3)), (mpasta, .inl (cI, 2320, .inl f2)), (mhelda, .inl (cI, 580, .inl mheld)), (mtexta, .inl (cI, 60, .inl mtext)), (mchosena, .inl (cI, 12, .inl f4)), (mtimesa, .inl (cI, 12, .inl f5)), (mrestsa, .inl (cJ, 12, .inr (.inl f6))), (mbeforea, .inl (cI, 12, .inl mbefore)), (mtolda, .inl (cI, 2, .inl mtold))] := hD
    refine lv_aload_n (pc := 22) hx hb dX7_resample_22 rfl (lv_at hl 0 rfl) ?_
    refine lv_aload_n (pc := 23) hx hb dX7_resample_23 rfl (lv_at hl 0 rfl) ?_
    obtain ⟨r7, hc7, h⟩ := am_bind_s h
    refine kc_Vi (pc := 24) (ci := 7) ⟨hx, hb, hml, hown, hts⟩ hP hK [] (c_X7_latest l D cI cJ mself msa mpasta mhelda mtexta mchosena mtimesa mrestsa mbeforea mtolda u1 mruns mtyped mspot mfrom mreason mcause morders mkind f3 f2 mheld mtext f4 f5 f6 mbefore mtold r7 hc7) [0, 1, 2, 3, 4, 5, 6, 7, 8, 9] rfl (cwV 0 hts (gzV wl379 wl380 wl381 wl5 wl382) rfl rfl rfl ⟨rfl, hdX7_latest⟩ ⟨Nat.le_of_ble_eq_true rfl, Nat.le_of_ble_eq_true rfl⟩) rfl rfl [.ref mself] rfl hl.1 rfl (Nat.le_of_ble_eq_true rfl) dX7_resample_24 ⟨Nat.zero_le _, Nat.zero_le _⟩ ?_
    refine lv_bipush (v := 100) (pc := 27) hx hb dX7_resample_27 (by decide) ?_
    obtain ⟨r8, hc8, h⟩ := am_bind_s h
    refine kc_Vi (pc := 29) (ci := 7) ⟨hx, hb, hml, hown, hts⟩ hP hK [.int r7, .int (100 : Int32)] (c_X7_unlike l D cI cJ mself msa mpasta mhelda mtexta mchosena mtimesa mrestsa mbeforea mtolda u1 mruns mtyped mspot mfrom mreason mcause morders mkind f3 f2 mheld mtext f4 f5 f6 mbefore mtold r7 (100 : Int32) r8 hc8) [0, 1, 2, 3, 4, 5, 6, 7, 8, 9] rfl (cwV 2 hts (gzV wl414 wl415 wl416 wl5 wl417) rfl rfl rfl ⟨rfl, hdX7_unlike⟩ ⟨Nat.le_of_ble_eq_true rfl, Nat.le_of_ble_eq_true rfl⟩) rfl rfl [] rfl hl.1 rfl (Nat.le_of_ble_eq_true rfl) dX7_resample_29 ⟨Nat.zero_le _, Nat.zero_le _⟩ ?_
    obtain ⟨e1, e2, e3, e4, e5, e6, e7⟩ := am_ret7 h
    exact hret _ _ _ _ _ dX7_resample_32 rfl e1 (by rw [← e2, ← e3, ← e4, ← e5, ← e6, ← e7]; exact hP) hS
  replace h := am_t cc h
  refine lv_ldc (pc := 11) hx hb hown hk275 dX7_resample_11 ?_
  obtain ⟨e1, e2, e3, e4, e5, e6, e7⟩ := am_ret7 h
  exact hret _ _ _ _ _ dX7_resample_13 rfl e1 (by rw [← e2, ← e3, ← e4, ← e5, ← e6, ← e7]; exact hP) hS
theorem hdX7_set : yX7_set.cls ≠ "java/lang/invoke/MethodHandle" ∧ yX7_set.cls ≠ "java/lang/invoke/VarHandle" ∧ (parseMethodDescriptor yX7_set.desc).map (fun d => d.parameters.length) = some 2 := by decide +kernel
abbrev rmX7_set : Room := { frames := 1, cells := 0, slots := 0, locals := 22 }
set_option maxHeartbeats 20000000 in
set_option maxRecDepth 100000 in
theorem c_X7_set (l : Launch) (D : va_G) (cI cJ : ClassId) (mself : Nat) (msa : Nat) (mpasta : Nat) (mhelda : Nat) (mtexta : Nat) (mchosena : Nat) (mtimesa : Nat) (mrestsa : Nat) (mbeforea : Nat) (mtolda : Nat) (mpasts : Int32) (mruns : Int32) (mtyped : Int32) (mspot : Int32) (mfrom : Int32) (mreason : Int32) (mcause : Int32) (morders : Int32) (mkind : Int32) (ms : Nat → Int32) (mpast : Nat → Int32) (mheld : Nat → Int32) (mtext : Nat → Int32) (mchosen : Nat → Int32) (mtimes : Nat → Int32) (mrests : Nat → Int64) (mbefore : Nat → Int32) (mtold : Nat → Int32) (p0 : Int32) (p1 : Int32) (r0 : Int32) (zmpasts : Int32) (zms : Nat → Int32) (zmpast : Nat → Int32) (hF : F_X7_set mpasts mruns ms mpast p0 p1 = some (r0, zmpasts, zms, zmpast)) (sz : Nat) : Met l yX7_set (wz yX7_set cX7_set 4 (some .int)) rmX7_set (kPw D cI cJ [(mself, .inr (7, [.ref msa, .ref mpasta, .ref mhelda, .int mpasts, .int mruns, .ref mtexta, .int mtyped, .ref mchosena, .ref mtimesa, .ref mrestsa, .ref mbeforea, .int mspot, .int mfrom, .int mreason, .int mcause, .int morders, .int mkind, .ref mtolda])), (msa, .inl (cI, 580, .inl ms)), (mpasta, .inl (cI, 2320, .inl mpast)), (mhelda, .inl (cI, 580, .inl mheld)), (mtexta, .inl (cI, 60, .inl mtext)), (mchosena, .inl (cI, 12, .inl mchosen)), (mtimesa, .inl (cI, 12, .inl mtimes)), (mrestsa, .inl (cJ, 12, .inr (.inl mrests))), (mbeforea, .inl (cI, 12, .inl mbefore)), (mtolda, .inl (cI, 2, .inl mtold))] sz [.ref mself, .int p0, .int p1]) (kQi D r0 [(mself, .inr (7, [.ref msa, .ref mpasta, .ref mhelda, .int zmpasts, .int mruns, .ref mtexta, .int mtyped, .ref mchosena, .ref mtimesa, .ref mrestsa, .ref mbeforea, .int mspot, .int mfrom, .int mreason, .int mcause, .int morders, .int mkind, .ref mtolda])), (msa, .inl (cI, 580, .inl zms)), (mpasta, .inl (cI, 2320, .inl zmpast)), (mhelda, .inl (cI, 580, .inl mheld)), (mtexta, .inl (cI, 60, .inl mtext)), (mchosena, .inl (cI, 12, .inl mchosen)), (mtimesa, .inl (cI, 12, .inl mtimes)), (mrestsa, .inl (cJ, 12, .inr (.inl mrests))), (mbeforea, .inl (cI, 12, .inl mbefore)), (mtolda, .inl (cI, 2, .inl mtold))] (va_A [(mself, .inr (7, [.ref msa, .ref mpasta, .ref mhelda, .int mpasts, .int mruns, .ref mtexta, .int mtyped, .ref mchosena, .ref mtimesa, .ref mrestsa, .ref mbeforea, .int mspot, .int mfrom, .int mreason, .int mcause, .int morders, .int mkind, .ref mtolda])), (msa, .inl (cI, 580, .inl ms)), (mpasta, .inl (cI, 2320, .inl mpast)), (mhelda, .inl (cI, 580, .inl mheld)), (mtexta, .inl (cI, 60, .inl mtext)), (mchosena, .inl (cI, 12, .inl mchosen)), (mtimesa, .inl (cI, 12, .inl mtimes)), (mrestsa, .inl (cJ, 12, .inr (.inl mrests))), (mbeforea, .inl (cI, 12, .inl mbefore)), (mtolda, .inl (cI, 2, .inl mtold))] sz)) 0 0 (va_A [(mself, .inr (7, [.ref msa, .ref mpasta, .ref mhelda, .int mpasts, .int mruns, .ref mtexta, .int mtyped, .ref mchosena, .ref mtimesa, .ref mrestsa, .ref mbeforea, .int mspot, .int mfrom, .int mreason, .int mcause, .int morders, .int mkind, .ref mtolda])), (msa, .inl (cI, 580, .inl ms)), (mpasta, .inl (cI, 2320, .inl mpast)), (mhelda, .inl (cI, 580, .inl mheld)), (mtexta, .inl (cI, 60, .inl mtext)), (mchosena, .inl (cI, 12, .inl mchosen)), (mtimesa, .inl (cI, 12, .inl mtimes)), (mrestsa, .inl (cJ, 12, .inr (.inl mrests))), (mbeforea, .inl (cI, 12, .inl mbefore)), (mtolda, .inl (cI, 2, .inl mtold))] sz) := by
  refine kM_wi cX7_set 4 .int (by decide +kernel) rfl rfl (Nat.le_of_ble_eq_true rfl) ⟨rfl, rfl⟩ ?_
  intro p e s m args below meth c Q A ls hx hb hml hown hts hP hK hD hA hS hl hret
  have hk121 := hts _ (List.mem_cons_of_mem _ wl121)
  have hk175 := hts _ (List.mem_cons_of_mem _ wl175)
  have hnX7 : ∀ w ∈ u_ws RX7 TX7 18, w ∈ wz yX7_set cX7_set 4 (some .int) := fun w h => List.mem_cons_of_mem _ (inlX7 w h)
  replace hl : lv_has ls 4 [(0, .ref mself), (1, .int p0), (2, .int p1)] := hl
  have h := hF
  unfold F_X7_set at h
  refine lv_iload_n (pc := 0) hx hb dX7_set_0 rfl (lv_at hl 1 rfl) ?_
  refine lv_iconst (v := 0) (pc := 1) hx hb dX7_set_1 (by decide) ?_
  refine lv_iconst (v := 2) (pc := 2) hx hb dX7_set_2 (by decide) ?_
  obtain ⟨r1, hc1, h⟩ := am_bind_s h
  refine kc_Si (pc := 3) ⟨hx, hb, hml, hown, hts⟩ hP hK [.int p0, .int (0 : Int32), .int (2 : Int32)] (c_X7_in l D cI cJ p0 (0 : Int32) (2 : Int32) r1 hc1) [] rfl (cwS 3 hts (gzS wl176 wl177 wl5 wl178) rfl rfl rfl ⟨rfl, hdX7_in⟩ ⟨Nat.le_of_ble_eq_true rfl, Nat.le_of_ble_eq_true rfl⟩) [] rfl hl.1 rfl (Nat.le_of_ble_eq_true rfl) dX7_set_3 ⟨Nat.zero_le _, Nat.zero_le _⟩ ?_
  refine lv_if_eq (pc := 6) (tgt := 37) hx hb dX7_set_6 (by decide) (fun cc => ?_) (fun cc => ?_)
  · replace h := am_t cc h
    refine lv_ldc (pc := 37) hx hb hown hk175 dX7_set_37 ?_
    obtain ⟨e1, e2, e3, e4⟩ := am_ret4 h
    exact hret _ _ _ _ _ dX7_set_39 rfl e1 (by rw [← e2, ← e3, ← e4]; exact hP) hS
  replace h := am_f cc h
  refine lv_iload_n (pc := 9) hx hb dX7_set_9 rfl (lv_at hl 2 rfl) ?_
  refine lv_iconst (v := 0) (pc := 10) hx hb dX7_set_10 (by decide) ?_
  refine lv_iload_n (pc := 11) hx hb dX7_set_11 rfl (lv_at hl 1 rfl) ?_
  refine am_join1_s (fun (j2 : Int32) => ∀ (ls : Array Slot), lv_has ls 4 [(0, .ref mself), (1, .int p0), (2, .int p1)] → W p l e rmX7_set s m args below meth c s.heap [] 0 0 Q (F0 m 31 ls [.int j2, .int (0 : Int32), .int p1])) h (fun j2 h ls hl => ?_) (fun J3 hJ3 h => ?_)
  · obtain ⟨r4, hc4, h⟩ := am_bind_s h
    refine kc_Si (pc := 31) ⟨hx, hb, hml, hown, hts⟩ hP hK [.int p1, .int (0 : Int32), .int j2] (c_X7_in l D cI cJ p1 (0 : Int32) j2 r4 hc4) [] rfl (cwS 3 hts (gzS wl176 wl177 wl5 wl178) rfl rfl rfl ⟨rfl, hdX7_in⟩ ⟨Nat.le_of_ble_eq_true rfl, Nat.le_of_ble_eq_true rfl⟩) [] rfl hl.1 rfl (Nat.le_of_ble_eq_true rfl) dX7_set_31 ⟨Nat.zero_le _, Nat.zero_le _⟩ ?_
    refine lv_if_ne (pc := 34) (tgt := 40) hx hb dX7_set_34 (by decide) (fun cc => ?_) (fun cc => ?_)
    · replace h := am_f cc h
      refine lv_aload_n (pc := 40) hx hb dX7_set_40 rfl (lv_at hl 0 rfl) ?_
      obtain ⟨u5, f6, hc6, h⟩ := am_call2_s h
      refine kc_Wv (pc := 41) (ci := 7) ⟨hx, hb, hml, hown, hts⟩ hP hK hD hS hA [] (c_X7_changes l D cI cJ mself msa mpasta mhelda mtexta mchosena mtimesa mrestsa mbeforea mtolda mpasts mruns mtyped mspot mfrom mreason mcause morders mkind ms mpast mheld mtext mchosen mtimes mrests mbefore mtold u5 f6 hc6 _) [0, 1, 2, 3, 4, 5, 6, 7, 8, 9] rfl rfl rfl (cwV 0 hts (gzV wl179 wl180 wl181 wl5 wl182) rfl rfl rfl ⟨rfl, hdX7_changes⟩ ⟨Nat.le_of_ble_eq_true rfl, Nat.le_of_ble_eq_true rfl⟩) rfl rfl [] rfl hl.1 rfl (Nat.le_of_ble_eq_true rfl) dX7_set_41 ⟨Nat.zero_le _, Nat.zero_le _⟩ (fun H locs hP hD hS => ?_)
      replace hP : va_P D vwCl [(mself, .inr (7, [.ref msa, .ref mpasta, .ref mhelda, .int u5, .int mruns, .ref mtexta, .int mtyped, .ref mchosena, .ref mtimesa, .ref mrestsa, .ref mbeforea, .int mspot, .int mfrom, .int mreason, .int mcause, .int morders, .int mkind, .ref mtolda])), (msa, .inl (cI, 580, .inl ms)), (mpasta, .inl (cI, 2320, .inl f6)), (mhelda, .inl (cI, 580, .inl mheld)), (mtexta, .inl (cI, 60, .inl mtext)), (mchosena, .inl (cI, 12, .inl mchosen)), (mtimesa, .inl (cI, 12, .inl mtimes)), (mrestsa, .inl (cJ, 12, .inr (.inl mrests))), (mbeforea, .inl (cI, 12, .inl mbefore)), (mtolda, .inl (cI, 2, .inl mtold))] H := hP
      replace hD : va_D A [(mself, .inr (7, [.ref msa, .ref mpasta, .ref mhelda, .int u5, .int mruns, .ref mtexta, .int mtyped, .ref mchosena, .ref mtimesa, .ref mrestsa, .ref mbeforea, .int mspot, .int mfrom, .int mreason, .int mcause, .int morders, .int mkind, .ref mtolda])), (msa, .inl (cI, 580, .inl ms)), (mpasta, .inl (cI, 2320, .inl f6)), (mhelda, .inl (cI, 580, .inl mheld)), (mtexta, .inl (cI, 60, .inl mtext)), (mchosena, .inl (cI, 12, .inl mchosen)), (mtimesa, .inl (cI, 12, .inl mtimes)), (mrestsa, .inl (cJ, 12, .inr (.inl mrests))), (mbeforea, .inl (cI, 12, .inl mbefore)), (mtolda, .inl (cI, 2, .inl mtold))] := hD
      refine lv_aload_n (pc := 44) hx hb dX7_set_44 rfl (lv_at hl 0 rfl) ?_
      refine va_get (pc := 45) (D := D) (ci := 7) (v := .ref msa) (C := RX7) (T := TX7) (N := 18) hx hb hts hnX7 hown hK.1 hP 0 rfl rfl 0 (Nat.le_of_ble_eq_true rfl) hk121 (fun _ h9 => h9) rfl dX7_set_45 ?_
      refine lv_iconst (v := 5) (pc := 48) hx hb dX7_set_48 (by decide) ?_
      refine lv_iload_n (pc := 49) hx hb dX7_set_49 rfl (lv_at hl 1 rfl) ?_
      refine lv_iadd (pc := 50) hx hb dX7_set_50 ?_
      obtain ⟨hi, h⟩ := am_in_s h
      refine va_iald (pc := 51) hx hb hK.1 hP 1 0 rfl rfl hi dX7_set_51 ?_
      refine lv_topi (fun x7 ex7 => ?_)
      replace h := am_let_s ex7 h
      refine lv_istore_n (lv' := [(3, .int x7), (0, .ref mself), (1, .int p0), (2, .int p1)]) (pc := 52) hx hb dX7_set_52 rfl hl (by decide) rfl (fun ls hl => ?_)
      refine lv_aload_n (pc := 53) hx hb dX7_set_53 rfl (lv_at hl 1 rfl) ?_
      refine va_get (pc := 54) (D := D) (ci := 7) (v := .ref msa) (C := RX7) (T := TX7) (N := 18) hx hb hts hnX7 hown hK.1 hP 0 rfl rfl 0 (Nat.le_of_ble_eq_true rfl) hk121 (fun _ h9 => h9) rfl dX7_set_54 ?_
      refine lv_iconst (v := 5) (pc := 57) hx hb dX7_set_57 (by decide) ?_
      refine lv_iload_n (pc := 58) hx hb dX7_set_58 rfl (lv_at hl 2 rfl) ?_
      refine lv_iadd (pc := 59) hx hb dX7_set_59 ?_
      refine lv_iload_n (pc := 60) hx hb dX7_set_60 rfl (lv_at hl 3 rfl) ?_
      obtain ⟨hi, h⟩ := am_in_s h
      obtain ⟨f8, ef8⟩ : ∃ y : Nat → Int32, y = (upd ms ((5 : Int32) + p0).toNatClampNeg p1) := ⟨_, rfl⟩
      replace h := am_let_s ef8 h
      refine va_iast (pc := 61) hx hb hK.1 hP hD hS 1 0 rfl rfl hi dX7_set_61 (fun H locs hP hD hS => ?_)
      rw [← ef8] at hP hD
      replace hP : va_P D vwCl [(mself, .inr (7, [.ref msa, .ref mpasta, .ref mhelda, .int u5, .int mruns, .ref mtexta, .int mtyped, .ref mchosena, .ref mtimesa, .ref mrestsa, .ref mbeforea, .int mspot, .int mfrom, .int mreason, .int mcause, .int morders, .int mkind, .ref mtolda])), (msa, .inl (cI, 580, .inl f8)), (mpasta, .inl (cI, 2320, .inl f6)), (mhelda, .inl (cI, 580, .inl mheld)), (mtexta, .inl (cI, 60, .inl mtext)), (mchosena, .inl (cI, 12, .inl mchosen)), (mtimesa, .inl (cI, 12, .inl mtimes)), (mrestsa, .inl (cJ, 12, .inr (.inl mrests))), (mbeforea, .inl (cI, 12, .inl mbefore)), (mtolda, .inl (cI, 2, .inl mtold))] H := hP
      replace hD : va_D A [(mself, .inr (7, [.ref msa, .ref mpasta, .ref mhelda, .int u5, .int mruns, .ref mtexta, .int mtyped, .ref mchosena, .ref mtimesa, .ref mrestsa, .ref mbeforea, .int mspot, .int mfrom, .int mreason, .int mcause, .int morders, .int mkind, .ref mtolda])), (msa, .inl (cI, 580, .inl f8)), (mpasta, .inl (cI, 2320, .inl f6)), (mhelda, .inl (cI, 580, .inl mheld)), (mtexta, .inl (cI, 60, .inl mtext)), (mchosena, .inl (cI, 12, .inl mchosen)), (mtimesa, .inl (cI, 12, .inl mtimes)), (mrestsa, .inl (cJ, 12, .inr (.inl mrests))), (mbeforea, .inl (cI, 12, .inl mbefore)), (mtolda, .inl (cI, 2, .inl mtold))] := hD
      refine lv_iload_n (pc := 62) hx hb dX7_set_62 rfl (lv_at hl 0 rfl) ?_
      obtain ⟨e1, e2, e3, e4⟩ := am_ret4 h
      exact hret _ _ _ _ _ dX7_set_63 rfl e1 (by rw [← e2, ← e3, ← e4]; exact hP) hS
    replace h := am_t cc h
    refine lv_ldc (pc := 37) hx hb hown hk175 dX7_set_37 ?_
    obtain ⟨e1, e2, e3, e4⟩ := am_ret4 h
    exact hret _ _ _ _ _ dX7_set_39 rfl e1 (by rw [← e2, ← e3, ← e4]; exact hP) hS
  refine lv_if_ne (pc := 12) (tgt := 20) hx hb dX7_set_12 (by decide) (fun cc => ?_) (fun cc => ?_)
  · replace h := am_f cc h
    refine lv_iload_n (pc := 20) hx hb dX7_set_20 rfl (lv_at hl 1 rfl) ?_
    refine lv_iconst (v := 1) (pc := 21) hx hb dX7_set_21 (by decide) ?_
    refine lv_icmp_ne (pc := 22) (tgt := 29) hx hb dX7_set_22 (by decide) (fun cc => ?_) (fun cc => ?_)
    · replace h := am_f cc h
      refine lv_bipush (v := 99) (pc := 29) hx hb dX7_set_29 (by decide) ?_
      exact hJ3 _ h ls (lv_sub hl [0, 1, 2] rfl)
    replace h := am_t cc h
    refine lv_iconst (v := 2) (pc := 25) hx hb dX7_set_25 (by decide) ?_
    refine lv_goto (pc := 26) (tgt := 31) hx hb dX7_set_26 (by decide) ?_
    exact hJ3 _ h ls (lv_sub hl [0, 1, 2] rfl)
  replace h := am_t cc h
  refine lv_bipush (v := 12) (pc := 15) hx hb dX7_set_15 (by decide) ?_
  refine lv_goto (pc := 17) (tgt := 31) hx hb dX7_set_17 (by decide) ?_
  exact hJ3 _ h ls (lv_sub hl [0, 1, 2] rfl)
theorem hdX7_part : yX7_part.cls ≠ "java/lang/invoke/MethodHandle" ∧ yX7_part.cls ≠ "java/lang/invoke/VarHandle" ∧ (parseMethodDescriptor yX7_part.desc).map (fun d => d.parameters.length) = some 3 := by decide +kernel
abbrev rmX7_part : Room := { frames := 0, cells := 0, slots := 0, locals := 0 }
set_option maxHeartbeats 20000000 in
set_option maxRecDepth 100000 in
theorem c_X7_part (l : Launch) (D : va_G) (cI cJ : ClassId)   (p0 : Int64) (p1 : Int64) (p2 : Int32) (r0 : Int32) (hF : F_X7_part p0 p1 p2 = some r0) : Met l yX7_part (wz yX7_part cX7_part 11 (some .int)) rmX7_part (kPc D cI cJ [] [.long p0, .long p1, .int p2]) (vp_Si (fun r => r = r0)) 0 0 (fun _ => False) := by
  refine kM_ri cX7_part 11 .int (by decide +kernel) rfl rfl (Nat.le_of_ble_eq_true rfl) ⟨rfl, rfl⟩ ?_
  intro p e s m args below meth c Q ls hx hb hml hown hts hP hK hl hret
  replace hl : lv_has ls 11 [(0, .long p0), (2, .long p1), (4, .int p2)] := hl
  have h := hF
  unfold F_X7_part at h
  refine lv_lload_n (pc := 0) hx hb dX7_part_0 rfl (lv_at hl 0 rfl) ?_
  refine lv_lstore (lv' := [(5, .long p0), (0, .long p0), (2, .long p1), (4, .int p2)]) (pc := 1) hx hb dX7_part_1 hl (by decide) rfl (fun ls hl => ?_)
  refine lv_lload_n (pc := 3) hx hb dX7_part_3 rfl (lv_at hl 2 rfl) ?_
  refine lv_lstore (lv' := [(7, .long p1), (5, .long p0), (0, .long p0), (2, .long p1), (4, .int p2)]) (pc := 4) hx hb dX7_part_4 hl (by decide) rfl (fun ls hl => ?_)
  refine am_join1_s (fun (x1 : Int64) => ∀ (ls : Array Slot), lv_has ls 11 [(0, .long p0), (2, .long p1), (4, .int p2), (5, .long x1)] → W p l e rmX7_part s m args below meth c s.heap [] 0 0 Q (F0 m 31 ls [])) h (fun x1 h ls hl => ?_) (fun K2 hK2 h => ?_)
  · refine lv_iload (pc := 31) hx hb dX7_part_31 (lv_at hl 2 rfl) ?_
    refine lv_if_ne (pc := 33) (tgt := 43) hx hb dX7_part_33 (by decide) (fun cc => ?_) (fun cc => ?_)
    · replace h := am_f cc h
      refine lv_lload_n (pc := 43) hx hb dX7_part_43 rfl (lv_at hl 1 rfl) ?_
      refine lv_lload (pc := 44) hx hb dX7_part_44 (lv_at hl 3 rfl) ?_
      obtain ⟨hz, h⟩ := am_nzl_s h
      refine lv_ldiv (pc := 46) hx hb dX7_part_46 hz ?_
      refine lv_l2i (pc := 47) hx hb dX7_part_47 rfl ?_
      obtain e1 := am_ret1 h
      exact hret _ _ _ dX7_part_48 rfl e1
    replace h := am_t cc h
    refine lv_lload_n (pc := 36) hx hb dX7_part_36 rfl (lv_at hl 0 rfl) ?_
    refine lv_lload (pc := 37) hx hb dX7_part_37 (lv_at hl 3 rfl) ?_
    obtain ⟨hz, h⟩ := am_nzl_s h
    refine lv_ldiv (pc := 39) hx hb dX7_part_39 hz ?_
    refine lv_goto (pc := 40) (tgt := 47) hx hb dX7_part_40 (by decide) ?_
    refine lv_l2i (pc := 47) hx hb dX7_part_47 rfl ?_
    obtain e1 := am_ret1 h
    exact hret _ _ _ dX7_part_48 rfl e1
  refine am_loop2_s (fun (x3 : Int64) (x4 : Int64) => ∀ (ls : Array Slot), lv_has ls 11 [(0, .long p0), (2, .long p1), (4, .int p2), (5, .long x3), (7, .long x4)] → W p l e rmX7_part s m args below meth c s.heap [] 0 0 Q (F0 m 6 ls [])) (fun rec5 ihrec5 x3 x4 h ls hl => ?_) _ _ _ h ls (lv_sub hl [2, 3, 4, 1, 0] rfl)
  unfold F_X7_part_B6 at h
  refine lv_lload (pc := 6) hx hb dX7_part_6 (lv_at hl 4 rfl) ?_
  refine lv_lconst (v := 0) (pc := 8) hx hb dX7_part_8 rfl ?_
  refine W.lcmp (pc := 9) hx hb dX7_part_9 ?_
  refine lv_if_eq (pc := 10) (tgt := 31) hx hb dX7_part_10 (by decide) (fun cc => ?_) (fun cc => ?_)
  · replace h := am_t cc h
    exact hK2 _ h ls (lv_sub hl [0, 1, 2, 3] rfl)
  replace h := am_f cc h
  refine lv_lload (pc := 13) hx hb dX7_part_13 (lv_at hl 3 rfl) ?_
  refine lv_lload (pc := 15) hx hb dX7_part_15 (lv_at hl 4 rfl) ?_
  obtain ⟨hz, h⟩ := am_nzl_s h
  refine lv_lrem (pc := 17) hx hb dX7_part_17 hz ?_
  refine lv_topl (fun x6 ex6 => ?_)
  replace h := am_let_s ex6 h
  refine lv_lstore (lv' := [(9, .long x6), (0, .long p0), (2, .long p1), (4, .int p2), (5, .long x3), (7, .long x4)]) (pc := 18) hx hb dX7_part_18 hl (by decide) rfl (fun ls hl => ?_)
  refine lv_lload (pc := 20) hx hb dX7_part_20 (lv_at hl 5 rfl) ?_
  refine lv_lstore (lv' := [(5, .long x4), (9, .long x6), (0, .long p0), (2, .long p1), (4, .int p2), (7, .long x4)]) (pc := 22) hx hb dX7_part_22 hl (by decide) rfl (fun ls hl => ?_)
  refine lv_lload (pc := 24) hx hb dX7_part_24 (lv_at hl 1 rfl) ?_
  refine lv_lstore (lv' := [(7, .long x6), (5, .long x4), (9, .long x6), (0, .long p0), (2, .long p1), (4, .int p2)]) (pc := 26) hx hb dX7_part_26 hl (by decide) rfl (fun ls hl => ?_)
  refine lv_goto (pc := 28) (tgt := 6) hx hb dX7_part_28 (by decide) ?_
  exact ihrec5 _ _ h ls (lv_sub hl [3, 4, 5, 1, 0] rfl)
theorem hdX7_likePlaces : yX7_likePlaces.cls ≠ "java/lang/invoke/MethodHandle" ∧ yX7_likePlaces.cls ≠ "java/lang/invoke/VarHandle" ∧ (parseMethodDescriptor yX7_likePlaces.desc).map (fun d => d.parameters.length) = some 1 := by decide +kernel
abbrev rmX7_likePlaces : Room := { frames := 1, cells := 0, slots := 0, locals := 22 }
set_option maxHeartbeats 20000000 in
set_option maxRecDepth 100000 in
theorem c_X7_likePlaces (l : Launch) (D : va_G) (cI cJ : ClassId) (mself : Nat) (msa : Nat) (mpasta : Nat) (mhelda : Nat) (mtexta : Nat) (mchosena : Nat) (mtimesa : Nat) (mrestsa : Nat) (mbeforea : Nat) (mtolda : Nat) (mpasts : Int32) (mruns : Int32) (mtyped : Int32) (mspot : Int32) (mfrom : Int32) (mreason : Int32) (mcause : Int32) (morders : Int32) (mkind : Int32) (ms : Nat → Int32) (mpast : Nat → Int32) (mheld : Nat → Int32) (mtext : Nat → Int32) (mchosen : Nat → Int32) (mtimes : Nat → Int32) (mrests : Nat → Int64) (mbefore : Nat → Int32) (mtold : Nat → Int32) (p0 : Int32) (r0 : Int32) (hF : F_X7_likePlaces ms p0 = some r0) : Met l yX7_likePlaces (wz yX7_likePlaces cX7_likePlaces 4 (some .int)) rmX7_likePlaces (kPc D cI cJ [(mself, .inr (7, [.ref msa, .ref mpasta, .ref mhelda, .int mpasts, .int mruns, .ref mtexta, .int mtyped, .ref mchosena, .ref mtimesa, .ref mrestsa, .ref mbeforea, .int mspot, .int mfrom, .int mreason, .int mcause, .int morders, .int mkind, .ref mtolda])), (msa, .inl (cI, 580, .inl ms)), (mpasta, .inl (cI, 2320, .inl mpast)), (mhelda, .inl (cI, 580, .inl mheld)), (mtexta, .inl (cI, 60, .inl mtext)), (mchosena, .inl (cI, 12, .inl mchosen)), (mtimesa, .inl (cI, 12, .inl mtimes)), (mrestsa, .inl (cJ, 12, .inr (.inl mrests))), (mbeforea, .inl (cI, 12, .inl mbefore)), (mtolda, .inl (cI, 2, .inl mtold))] [.ref mself, .int p0]) (vp_Si (fun r => r = r0)) 0 0 (fun _ => False) := by
  refine kM_ri cX7_likePlaces 4 .int (by decide +kernel) rfl rfl (Nat.le_of_ble_eq_true rfl) ⟨rfl, rfl⟩ ?_
  intro p e s m args below meth c Q ls hx hb hml hown hts hP hK hl hret
  have hk121 := hts _ (List.mem_cons_of_mem _ wl121)
  have hnX7 : ∀ w ∈ u_ws RX7 TX7 18, w ∈ wz yX7_likePlaces cX7_likePlaces 4 (some .int) := fun w h => List.mem_cons_of_mem _ (inlX7 w h)
  replace hl : lv_has ls 4 [(0, .ref mself), (1, .int p0)] := hl
  have h := hF
  unfold F_X7_likePlaces at h
  refine lv_iconst (v := 0) (pc := 0) hx hb dX7_likePlaces_0 (by decide) ?_
  refine lv_istore_n (lv' := [(2, .int (0 : Int32)), (0, .ref mself), (1, .int p0)]) (pc := 1) hx hb dX7_likePlaces_1 rfl hl (by decide) rfl (fun ls hl => ?_)
  refine lv_iconst (v := 0) (pc := 2) hx hb dX7_likePlaces_2 (by decide) ?_
  refine lv_istore_n (lv' := [(3, .int (0 : Int32)), (2, .int (0 : Int32)), (0, .ref mself), (1, .int p0)]) (pc := 3) hx hb dX7_likePlaces_3 rfl hl (by decide) rfl (fun ls hl => ?_)
  refine am_join1_s (fun (x1 : Int32) => ∀ (ls : Array Slot), lv_has ls 4 [(2, .int x1)] → W p l e rmX7_likePlaces s m args below meth c s.heap [] 0 0 Q (F0 m 49 ls [])) h (fun x1 h ls hl => ?_) (fun K2 hK2 h => ?_)
  · refine lv_iload_n (pc := 49) hx hb dX7_likePlaces_49 rfl (lv_at hl 0 rfl) ?_
    obtain e1 := am_ret1 h
    exact hret _ _ _ dX7_likePlaces_50 rfl e1
  refine am_loop2_s (fun (x3 : Int32) (x4 : Int32) => ∀ (ls : Array Slot), lv_has ls 4 [(0, .ref mself), (1, .int p0), (2, .int x3), (3, .int x4)] → W p l e rmX7_likePlaces s m args below meth c s.heap [] 0 0 Q (F0 m 4 ls [])) (fun rec5 ihrec5 x3 x4 h ls hl => ?_) _ _ _ h ls (lv_sub hl [2, 3, 1, 0] rfl)
  unfold F_X7_likePlaces_B4 at h
  refine lv_iload_n (pc := 4) hx hb dX7_likePlaces_4 rfl (lv_at hl 3 rfl) ?_
  refine lv_aload_n (pc := 5) hx hb dX7_likePlaces_5 rfl (lv_at hl 0 rfl) ?_
  refine va_get (pc := 6) (D := D) (ci := 7) (v := .ref msa) (C := RX7) (T := TX7) (N := 18) hx hb hts hnX7 hown hK.1 hP 0 rfl rfl 0 (Nat.le_of_ble_eq_true rfl) hk121 (fun _ h9 => h9) rfl dX7_likePlaces_6 ?_
  refine lv_iconst (v := 0) (pc := 9) hx hb dX7_likePlaces_9 (by decide) ?_
  refine va_iald (pc := 10) hx hb hK.1 hP 1 0 rfl rfl (vp_in_nI (n := 0) (N := 580) (by decide) (by decide)) dX7_likePlaces_10 ?_
  refine lv_icmp_ge (pc := 11) (tgt := 49) hx hb dX7_likePlaces_11 (by decide) (fun cc => ?_) (fun cc => ?_)
  · replace h := am_t cc h
    exact hK2 _ h ls (lv_sub hl [2] rfl)
  replace h := am_f cc h
  refine lv_iload_n (pc := 14) hx hb dX7_likePlaces_14 rfl (lv_at hl 2 rfl) ?_
  refine lv_aload_n (pc := 15) hx hb dX7_likePlaces_15 rfl (lv_at hl 0 rfl) ?_
  refine lv_aload_n (pc := 16) hx hb dX7_likePlaces_16 rfl (lv_at hl 0 rfl) ?_
  obtain ⟨r6, hc6, h⟩ := am_bind_s h
  refine kc_Vi (pc := 17) (ci := 7) ⟨hx, hb, hml, hown, hts⟩ hP hK [] (c_X7_latest l D cI cJ mself msa mpasta mhelda mtexta mchosena mtimesa mrestsa mbeforea mtolda mpasts mruns mtyped mspot mfrom mreason mcause morders mkind ms mpast mheld mtext mchosen mtimes mrests mbefore mtold r6 hc6) [0, 1, 2, 3, 4, 5, 6, 7, 8, 9] rfl (cwV 0 hts (gzV wl379 wl380 wl381 wl5 wl382) rfl rfl rfl ⟨rfl, hdX7_latest⟩ ⟨Nat.le_of_ble_eq_true rfl, Nat.le_of_ble_eq_true rfl⟩) rfl rfl [.ref mself, .int x3] rfl hl.1 rfl (Nat.le_of_ble_eq_true rfl) dX7_likePlaces_17 ⟨Nat.zero_le _, Nat.zero_le _⟩ ?_
  refine lv_iload_n (pc := 20) hx hb dX7_likePlaces_20 rfl (lv_at hl 3 rfl) ?_
  obtain ⟨r7, hc7, h⟩ := am_bind_s h
  refine kc_Vi (pc := 21) (ci := 7) ⟨hx, hb, hml, hown, hts⟩ hP hK [.int r6, .int x4] (c_X7_placeIn l D cI cJ mself msa mpasta mhelda mtexta mchosena mtimesa mrestsa mbeforea mtolda mpasts mruns mtyped mspot mfrom mreason mcause morders mkind ms mpast mheld mtext mchosen mtimes mrests mbefore mtold r6 x4 r7 hc7) [0, 1, 2, 3, 4, 5, 6, 7, 8, 9] rfl (cwV 2 hts (gzV wl280 wl281 wl282 wl5 wl283) rfl rfl rfl ⟨rfl, hdX7_placeIn⟩ ⟨Nat.le_of_ble_eq_true rfl, Nat.le_of_ble_eq_true rfl⟩) rfl rfl [.int x3] rfl hl.1 rfl (Nat.le_of_ble_eq_true rfl) dX7_likePlaces_21 ⟨Nat.zero_le _, Nat.zero_le _⟩ ?_
  refine lv_aload_n (pc := 24) hx hb dX7_likePlaces_24 rfl (lv_at hl 0 rfl) ?_
  refine lv_aload_n (pc := 25) hx hb dX7_likePlaces_25 rfl (lv_at hl 0 rfl) ?_
  obtain ⟨r8, hc8, h⟩ := am_bind_s h
  refine kc_Vi (pc := 26) (ci := 7) ⟨hx, hb, hml, hown, hts⟩ hP hK [] (c_X7_latest l D cI cJ mself msa mpasta mhelda mtexta mchosena mtimesa mrestsa mbeforea mtolda mpasts mruns mtyped mspot mfrom mreason mcause morders mkind ms mpast mheld mtext mchosen mtimes mrests mbefore mtold r8 hc8) [0, 1, 2, 3, 4, 5, 6, 7, 8, 9] rfl (cwV 0 hts (gzV wl379 wl380 wl381 wl5 wl382) rfl rfl rfl ⟨rfl, hdX7_latest⟩ ⟨Nat.le_of_ble_eq_true rfl, Nat.le_of_ble_eq_true rfl⟩) rfl rfl [.ref mself, .int r7, .int x3] rfl hl.1 rfl (Nat.le_of_ble_eq_true rfl) dX7_likePlaces_26 ⟨Nat.zero_le _, Nat.zero_le _⟩ ?_
  refine lv_iload_n (pc := 29) hx hb dX7_likePlaces_29 rfl (lv_at hl 1 rfl) ?_
  obtain ⟨r9, hc9, h⟩ := am_bind_s h
  refine kc_Vi (pc := 30) (ci := 7) ⟨hx, hb, hml, hown, hts⟩ hP hK [.int r8, .int p0] (c_X7_placeIn l D cI cJ mself msa mpasta mhelda mtexta mchosena mtimesa mrestsa mbeforea mtolda mpasts mruns mtyped mspot mfrom mreason mcause morders mkind ms mpast mheld mtext mchosen mtimes mrests mbefore mtold r8 p0 r9 hc9) [0, 1, 2, 3, 4, 5, 6, 7, 8, 9] rfl (cwV 2 hts (gzV wl280 wl281 wl282 wl5 wl283) rfl rfl rfl ⟨rfl, hdX7_placeIn⟩ ⟨Nat.le_of_ble_eq_true rfl, Nat.le_of_ble_eq_true rfl⟩) rfl rfl [.int r7, .int x3] rfl hl.1 rfl (Nat.le_of_ble_eq_true rfl) dX7_likePlaces_30 ⟨Nat.zero_le _, Nat.zero_le _⟩ ?_
  refine lv_icmp_ne (pc := 33) (tgt := 40) hx hb dX7_likePlaces_33 (by decide) (fun cc => ?_) (fun cc => ?_)
  · replace h := am_f cc h
    refine lv_iconst (v := 0) (pc := 40) hx hb dX7_likePlaces_40 (by decide) ?_
    refine lv_iadd (pc := 41) hx hb dX7_likePlaces_41 ?_
    refine lv_topi (fun x10 ex10 => ?_)
    replace h := am_let_s ex10 h
    refine lv_istore_n (lv' := [(2, .int x10), (0, .ref mself), (1, .int p0), (3, .int x4)]) (pc := 42) hx hb dX7_likePlaces_42 rfl hl (by decide) rfl (fun ls hl => ?_)
    obtain ⟨x11, ex11⟩ : ∃ y : Int32, y = (x4 + (1 : Int32)) := ⟨_, rfl⟩
    replace h := am_let_s ex11 h
    refine lv_iinc (pc := 43) (v := x11) (lv' := [(3, .int x11), (2, .int x10), (0, .ref mself), (1, .int p0)]) hx hb dX7_likePlaces_43 hl (k := 3) rfl (by rw [ex11]; rfl) (by decide) rfl (fun ls hl => ?_)
    refine lv_goto (pc := 46) (tgt := 4) hx hb dX7_likePlaces_46 (by decide) ?_
    exact ihrec5 _ _ h ls (lv_sub hl [2, 3, 1, 0] rfl)
  replace h := am_t cc h
  refine lv_iconst (v := 1) (pc := 36) hx hb dX7_likePlaces_36 (by decide) ?_
  refine lv_goto (pc := 37) (tgt := 41) hx hb dX7_likePlaces_37 (by decide) ?_
  refine lv_iadd (pc := 41) hx hb dX7_likePlaces_41 ?_
  refine lv_topi (fun x12 ex12 => ?_)
  replace h := am_let_s ex12 h
  refine lv_istore_n (lv' := [(2, .int x12), (0, .ref mself), (1, .int p0), (3, .int x4)]) (pc := 42) hx hb dX7_likePlaces_42 rfl hl (by decide) rfl (fun ls hl => ?_)
  obtain ⟨x13, ex13⟩ : ∃ y : Int32, y = (x4 + (1 : Int32)) := ⟨_, rfl⟩
  replace h := am_let_s ex13 h
  refine lv_iinc (pc := 43) (v := x13) (lv' := [(3, .int x13), (2, .int x12), (0, .ref mself), (1, .int p0)]) hx hb dX7_likePlaces_43 hl (k := 3) rfl (by rw [ex13]; rfl) (by decide) rfl (fun ls hl => ?_)
  refine lv_goto (pc := 46) (tgt := 4) hx hb dX7_likePlaces_46 (by decide) ?_
  exact ihrec5 _ _ h ls (lv_sub hl [2, 3, 1, 0] rfl)
theorem hdX7_rank : yX7_rank.cls ≠ "java/lang/invoke/MethodHandle" ∧ yX7_rank.cls ≠ "java/lang/invoke/VarHandle" ∧ (parseMethodDescriptor yX7_rank.desc).map (fun d => d.parameters.length) = some 1 := by decide +kernel
abbrev rmX7_rank : Room := { frames := 0, cells := 0, slots := 0, locals := 0 }
set_option maxHeartbeats 20000000 in
set_option maxRecDepth 100000 in
theorem c_X7_rank (l : Launch) (D : va_G) (cI cJ : ClassId) (mself : Nat) (msa : Nat) (mpasta : Nat) (mhelda : Nat) (mtexta : Nat) (mchosena : Nat) (mtimesa : Nat) (mrestsa : Nat) (mbeforea : Nat) (mtolda : Nat) (mpasts : Int32) (mruns : Int32) (mtyped : Int32) (mspot : Int32) (mfrom : Int32) (mreason : Int32) (mcause : Int32) (morders : Int32) (mkind : Int32) (ms : Nat → Int32) (mpast : Nat → Int32) (mheld : Nat → Int32) (mtext : Nat → Int32) (mchosen : Nat → Int32) (mtimes : Nat → Int32) (mrests : Nat → Int64) (mbefore : Nat → Int32) (mtold : Nat → Int32) (p0 : Int32) (r0 : Int32) (hF : F_X7_rank ms p0 = some r0) : Met l yX7_rank (wz yX7_rank cX7_rank 5 (some .int)) rmX7_rank (kPc D cI cJ [(mself, .inr (7, [.ref msa, .ref mpasta, .ref mhelda, .int mpasts, .int mruns, .ref mtexta, .int mtyped, .ref mchosena, .ref mtimesa, .ref mrestsa, .ref mbeforea, .int mspot, .int mfrom, .int mreason, .int mcause, .int morders, .int mkind, .ref mtolda])), (msa, .inl (cI, 580, .inl ms)), (mpasta, .inl (cI, 2320, .inl mpast)), (mhelda, .inl (cI, 580, .inl mheld)), (mtexta, .inl (cI, 60, .inl mtext)), (mchosena, .inl (cI, 12, .inl mchosen)), (mtimesa, .inl (cI, 12, .inl mtimes)), (mrestsa, .inl (cJ, 12, .inr (.inl mrests))), (mbeforea, .inl (cI, 12, .inl mbefore)), (mtolda, .inl (cI, 2, .inl mtold))] [.ref mself, .int p0]) (vp_Si (fun r => r = r0)) 0 0 (fun _ => False) := by
  refine kM_ri cX7_rank 5 .int (by decide +kernel) rfl rfl (Nat.le_of_ble_eq_true rfl) ⟨rfl, rfl⟩ ?_
  intro p e s m args below meth c Q ls hx hb hml hown hts hP hK hl hret
  have hk121 := hts _ (List.mem_cons_of_mem _ wl121)
  have hnX7 : ∀ w ∈ u_ws RX7 TX7 18, w ∈ wz yX7_rank cX7_rank 5 (some .int) := fun w h => List.mem_cons_of_mem _ (inlX7 w h)
  replace hl : lv_has ls 5 [(0, .ref mself), (1, .int p0)] := hl
  have h := hF
  unfold F_X7_rank at h
  refine lv_iconst (v := 0) (pc := 0) hx hb dX7_rank_0 (by decide) ?_
  refine lv_istore_n (lv' := [(2, .int (0 : Int32)), (0, .ref mself), (1, .int p0)]) (pc := 1) hx hb dX7_rank_1 rfl hl (by decide) rfl (fun ls hl => ?_)
  refine lv_aload_n (pc := 2) hx hb dX7_rank_2 rfl (lv_at hl 1 rfl) ?_
  refine va_get (pc := 3) (D := D) (ci := 7) (v := .ref msa) (C := RX7) (T := TX7) (N := 18) hx hb hts hnX7 hown hK.1 hP 0 rfl rfl 0 (Nat.le_of_ble_eq_true rfl) hk121 (fun _ h9 => h9) rfl dX7_rank_3 ?_
  refine lv_bipush (v := 8) (pc := 6) hx hb dX7_rank_6 (by decide) ?_
  refine lv_iload_n (pc := 8) hx hb dX7_rank_8 rfl (lv_at hl 2 rfl) ?_
  refine lv_iadd (pc := 9) hx hb dX7_rank_9 ?_
  obtain ⟨hi, h⟩ := am_in_s h
  refine va_iald (pc := 10) hx hb hK.1 hP 1 0 rfl rfl hi dX7_rank_10 ?_
  refine lv_topi (fun x1 ex1 => ?_)
  replace h := am_let_s ex1 h
  refine lv_istore_n (lv' := [(3, .int x1), (2, .int (0 : Int32)), (0, .ref mself), (1, .int p0)]) (pc := 11) hx hb dX7_rank_11 rfl hl (by decide) rfl (fun ls hl => ?_)
  refine lv_iconst (v := 0) (pc := 12) hx hb dX7_rank_12 (by decide) ?_
  refine lv_istore (lv' := [(4, .int (0 : Int32)), (3, .int x1), (2, .int (0 : Int32)), (0, .ref mself), (1, .int p0)]) (pc := 13) hx hb dX7_rank_13 hl (by decide) rfl (fun ls hl => ?_)
  refine am_join1_s (fun (x2 : Int32) => ∀ (ls : Array Slot), lv_has ls 5 [(2, .int x2)] → W p l e rmX7_rank s m args below meth c s.heap [] 0 0 Q (F0 m 74 ls [])) h (fun x2 h ls hl => ?_) (fun K3 hK3 h => ?_)
  · refine lv_iload_n (pc := 74) hx hb dX7_rank_74 rfl (lv_at hl 0 rfl) ?_
    obtain e1 := am_ret1 h
    exact hret _ _ _ dX7_rank_75 rfl e1
  refine am_loop2_s (fun (x4 : Int32) (x5 : Int32) => ∀ (ls : Array Slot), lv_has ls 5 [(0, .ref mself), (1, .int p0), (2, .int x4), (3, .int x1), (4, .int x5)] → W p l e rmX7_rank s m args below meth c s.heap [] 0 0 Q (F0 m 15 ls [])) (fun rec6 ihrec6 x4 x5 h ls hl => ?_) _ _ _ h ls (lv_sub hl [3, 4, 2, 1, 0] rfl)
  unfold F_X7_rank_B15 at h
  refine lv_iload (pc := 15) hx hb dX7_rank_15 (lv_at hl 4 rfl) ?_
  refine lv_aload_n (pc := 17) hx hb dX7_rank_17 rfl (lv_at hl 0 rfl) ?_
  refine va_get (pc := 18) (D := D) (ci := 7) (v := .ref msa) (C := RX7) (T := TX7) (N := 18) hx hb hts hnX7 hown hK.1 hP 0 rfl rfl 0 (Nat.le_of_ble_eq_true rfl) hk121 (fun _ h9 => h9) rfl dX7_rank_18 ?_
  refine lv_iconst (v := 0) (pc := 21) hx hb dX7_rank_21 (by decide) ?_
  refine va_iald (pc := 22) hx hb hK.1 hP 1 0 rfl rfl (vp_in_nI (n := 0) (N := 580) (by decide) (by decide)) dX7_rank_22 ?_
  refine lv_icmp_ge (pc := 23) (tgt := 74) hx hb dX7_rank_23 (by decide) (fun cc => ?_) (fun cc => ?_)
  · replace h := am_t cc h
    exact hK3 _ h ls (lv_sub hl [2] rfl)
  replace h := am_f cc h
  refine lv_iload_n (pc := 26) hx hb dX7_rank_26 rfl (lv_at hl 2 rfl) ?_
  refine lv_aload_n (pc := 27) hx hb dX7_rank_27 rfl (lv_at hl 0 rfl) ?_
  refine va_get (pc := 28) (D := D) (ci := 7) (v := .ref msa) (C := RX7) (T := TX7) (N := 18) hx hb hts hnX7 hown hK.1 hP 0 rfl rfl 0 (Nat.le_of_ble_eq_true rfl) hk121 (fun _ h9 => h9) rfl dX7_rank_28 ?_
  refine lv_bipush (v := 8) (pc := 31) hx hb dX7_rank_31 (by decide) ?_
  refine lv_iload (pc := 33) hx hb dX7_rank_33 (lv_at hl 4 rfl) ?_
  refine lv_iadd (pc := 35) hx hb dX7_rank_35 ?_
  obtain ⟨hi, h⟩ := am_in_s h
  refine va_iald (pc := 36) hx hb hK.1 hP 1 0 rfl rfl hi dX7_rank_36 ?_
  refine lv_iload_n (pc := 37) hx hb dX7_rank_37 rfl (lv_at hl 3 rfl) ?_
  refine lv_icmp_gt (pc := 38) (tgt := 61) hx hb dX7_rank_38 (by decide) (fun cc => ?_) (fun cc => ?_)
  · replace h := am_t cc h
    refine lv_iconst (v := 1) (pc := 61) hx hb dX7_rank_61 (by decide) ?_
    refine lv_goto (pc := 62) (tgt := 66) hx hb dX7_rank_62 (by decide) ?_
    refine lv_iadd (pc := 66) hx hb dX7_rank_66 ?_
    refine lv_topi (fun x7 ex7 => ?_)
    replace h := am_let_s ex7 h
    refine lv_istore_n (lv' := [(2, .int x7), (0, .ref mself), (1, .int p0), (3, .int x1), (4, .int x5)]) (pc := 67) hx hb dX7_rank_67 rfl hl (by decide) rfl (fun ls hl => ?_)
    obtain ⟨x8, ex8⟩ : ∃ y : Int32, y = (x5 + (1 : Int32)) := ⟨_, rfl⟩
    replace h := am_let_s ex8 h
    refine lv_iinc (pc := 68) (v := x8) (lv' := [(4, .int x8), (2, .int x7), (0, .ref mself), (1, .int p0), (3, .int x1)]) hx hb dX7_rank_68 hl (k := 4) rfl (by rw [ex8]; rfl) (by decide) rfl (fun ls hl => ?_)
    refine lv_goto (pc := 71) (tgt := 15) hx hb dX7_rank_71 (by decide) ?_
    exact ihrec6 _ _ h ls (lv_sub hl [2, 3, 1, 4, 0] rfl)
  replace h := am_f cc h
  refine lv_aload_n (pc := 41) hx hb dX7_rank_41 rfl (lv_at hl 0 rfl) ?_
  refine va_get (pc := 42) (D := D) (ci := 7) (v := .ref msa) (C := RX7) (T := TX7) (N := 18) hx hb hts hnX7 hown hK.1 hP 0 rfl rfl 0 (Nat.le_of_ble_eq_true rfl) hk121 (fun _ h9 => h9) rfl dX7_rank_42 ?_
  refine lv_bipush (v := 8) (pc := 45) hx hb dX7_rank_45 (by decide) ?_
  refine lv_iload (pc := 47) hx hb dX7_rank_47 (lv_at hl 4 rfl) ?_
  refine lv_iadd (pc := 49) hx hb dX7_rank_49 ?_
  obtain ⟨hi, h⟩ := am_in_s h
  refine va_iald (pc := 50) hx hb hK.1 hP 1 0 rfl rfl hi dX7_rank_50 ?_
  refine lv_iload_n (pc := 51) hx hb dX7_rank_51 rfl (lv_at hl 3 rfl) ?_
  refine lv_icmp_ne (pc := 52) (tgt := 65) hx hb dX7_rank_52 (by decide) (fun cc => ?_) (fun cc => ?_)
  · replace h := am_f cc h
    refine lv_iconst (v := 0) (pc := 65) hx hb dX7_rank_65 (by decide) ?_
    refine lv_iadd (pc := 66) hx hb dX7_rank_66 ?_
    refine lv_topi (fun x9 ex9 => ?_)
    replace h := am_let_s ex9 h
    refine lv_istore_n (lv' := [(2, .int x9), (0, .ref mself), (1, .int p0), (3, .int x1), (4, .int x5)]) (pc := 67) hx hb dX7_rank_67 rfl hl (by decide) rfl (fun ls hl => ?_)
    obtain ⟨x10, ex10⟩ : ∃ y : Int32, y = (x5 + (1 : Int32)) := ⟨_, rfl⟩
    replace h := am_let_s ex10 h
    refine lv_iinc (pc := 68) (v := x10) (lv' := [(4, .int x10), (2, .int x9), (0, .ref mself), (1, .int p0), (3, .int x1)]) hx hb dX7_rank_68 hl (k := 4) rfl (by rw [ex10]; rfl) (by decide) rfl (fun ls hl => ?_)
    refine lv_goto (pc := 71) (tgt := 15) hx hb dX7_rank_71 (by decide) ?_
    exact ihrec6 _ _ h ls (lv_sub hl [2, 3, 1, 4, 0] rfl)
  replace h := am_t cc h
  refine lv_iload (pc := 55) hx hb dX7_rank_55 (lv_at hl 4 rfl) ?_
  refine lv_iload_n (pc := 57) hx hb dX7_rank_57 rfl (lv_at hl 1 rfl) ?_
  refine lv_icmp_ge (pc := 58) (tgt := 65) hx hb dX7_rank_58 (by decide) (fun cc => ?_) (fun cc => ?_)
  · replace h := am_t cc h
    refine lv_iconst (v := 0) (pc := 65) hx hb dX7_rank_65 (by decide) ?_
    refine lv_iadd (pc := 66) hx hb dX7_rank_66 ?_
    refine lv_topi (fun x11 ex11 => ?_)
    replace h := am_let_s ex11 h
    refine lv_istore_n (lv' := [(2, .int x11), (0, .ref mself), (1, .int p0), (3, .int x1), (4, .int x5)]) (pc := 67) hx hb dX7_rank_67 rfl hl (by decide) rfl (fun ls hl => ?_)
    obtain ⟨x12, ex12⟩ : ∃ y : Int32, y = (x5 + (1 : Int32)) := ⟨_, rfl⟩
    replace h := am_let_s ex12 h
    refine lv_iinc (pc := 68) (v := x12) (lv' := [(4, .int x12), (2, .int x11), (0, .ref mself), (1, .int p0), (3, .int x1)]) hx hb dX7_rank_68 hl (k := 4) rfl (by rw [ex12]; rfl) (by decide) rfl (fun ls hl => ?_)
    refine lv_goto (pc := 71) (tgt := 15) hx hb dX7_rank_71 (by decide) ?_
    exact ihrec6 _ _ h ls (lv_sub hl [2, 3, 1, 4, 0] rfl)
  replace h := am_f cc h
  refine lv_iconst (v := 1) (pc := 61) hx hb dX7_rank_61 (by decide) ?_
  refine lv_goto (pc := 62) (tgt := 66) hx hb dX7_rank_62 (by decide) ?_
  refine lv_iadd (pc := 66) hx hb dX7_rank_66 ?_
  refine lv_topi (fun x13 ex13 => ?_)
  replace h := am_let_s ex13 h
  refine lv_istore_n (lv' := [(2, .int x13), (0, .ref mself), (1, .int p0), (3, .int x1), (4, .int x5)]) (pc := 67) hx hb dX7_rank_67 rfl hl (by decide) rfl (fun ls hl => ?_)
  obtain ⟨x14, ex14⟩ : ∃ y : Int32, y = (x5 + (1 : Int32)) := ⟨_, rfl⟩
  replace h := am_let_s ex14 h
  refine lv_iinc (pc := 68) (v := x14) (lv' := [(4, .int x14), (2, .int x13), (0, .ref mself), (1, .int p0), (3, .int x1)]) hx hb dX7_rank_68 hl (k := 4) rfl (by rw [ex14]; rfl) (by decide) rfl (fun ls hl => ?_)
  refine lv_goto (pc := 71) (tgt := 15) hx hb dX7_rank_71 (by decide) ?_
  exact ihrec6 _ _ h ls (lv_sub hl [2, 3, 1, 4, 0] rfl)
theorem hdX7_particleOf : yX7_particleOf.cls ≠ "java/lang/invoke/MethodHandle" ∧ yX7_particleOf.cls ≠ "java/lang/invoke/VarHandle" ∧ (parseMethodDescriptor yX7_particleOf.desc).map (fun d => d.parameters.length) = some 2 := by decide +kernel
abbrev rmX7_particleOf : Room := { frames := 2, cells := 0, slots := 0, locals := 45 }
set_option maxHeartbeats 20000000 in
set_option maxRecDepth 100000 in
theorem c_X7_particleOf (l : Launch) (D : va_G) (cI cJ : ClassId) (mself : Nat) (msa : Nat) (mpasta : Nat) (mhelda : Nat) (mtexta : Nat) (mchosena : Nat) (mtimesa : Nat) (mrestsa : Nat) (mbeforea : Nat) (mtolda : Nat) (mpasts : Int32) (mruns : Int32) (mtyped : Int32) (mspot : Int32) (mfrom : Int32) (mreason : Int32) (mcause : Int32) (morders : Int32) (mkind : Int32) (ms : Nat → Int32) (mpast : Nat → Int32) (mheld : Nat → Int32) (mtext : Nat → Int32) (mchosen : Nat → Int32) (mtimes : Nat → Int32) (mrests : Nat → Int64) (mbefore : Nat → Int32) (mtold : Nat → Int32) (p0 : Int32) (p1 : Int32) (r0 : Int32) (hF : F_X7_particleOf ms p0 p1 = some r0) : Met l yX7_particleOf (wz yX7_particleOf cX7_particleOf 3 (some .int)) rmX7_particleOf (kPc D cI cJ [(mself, .inr (7, [.ref msa, .ref mpasta, .ref mhelda, .int mpasts, .int mruns, .ref mtexta, .int mtyped, .ref mchosena, .ref mtimesa, .ref mrestsa, .ref mbeforea, .int mspot, .int mfrom, .int mreason, .int mcause, .int morders, .int mkind, .ref mtolda])), (msa, .inl (cI, 580, .inl ms)), (mpasta, .inl (cI, 2320, .inl mpast)), (mhelda, .inl (cI, 580, .inl mheld)), (mtexta, .inl (cI, 60, .inl mtext)), (mchosena, .inl (cI, 12, .inl mchosen)), (mtimesa, .inl (cI, 12, .inl mtimes)), (mrestsa, .inl (cJ, 12, .inr (.inl mrests))), (mbeforea, .inl (cI, 12, .inl mbefore)), (mtolda, .inl (cI, 2, .inl mtold))] [.ref mself, .int p0, .int p1]) (vp_Si (fun r => r = r0)) 0 0 (fun _ => False) := by
  refine kM_ri cX7_particleOf 3 .int (by decide +kernel) rfl rfl (Nat.le_of_ble_eq_true rfl) ⟨rfl, rfl⟩ ?_
  intro p e s m args below meth c Q ls hx hb hml hown hts hP hK hl hret
  have hk121 := hts _ (List.mem_cons_of_mem _ wl121)
  have hk175 := hts _ (List.mem_cons_of_mem _ wl175)
  have hnX7 : ∀ w ∈ u_ws RX7 TX7 18, w ∈ wz yX7_particleOf cX7_particleOf 3 (some .int) := fun w h => List.mem_cons_of_mem _ (inlX7 w h)
  replace hl : lv_has ls 3 [(0, .ref mself), (1, .int p0), (2, .int p1)] := hl
  have h := hF
  unfold F_X7_particleOf at h
  refine lv_aload_n (pc := 0) hx hb dX7_particleOf_0 rfl (lv_at hl 0 rfl) ?_
  refine lv_iload_n (pc := 1) hx hb dX7_particleOf_1 rfl (lv_at hl 1 rfl) ?_
  obtain ⟨r1, hc1, h⟩ := am_bind_s h
  refine kc_Vi (pc := 2) (ci := 7) ⟨hx, hb, hml, hown, hts⟩ hP hK [.int p0] (c_X7_isParticle l D cI cJ mself msa mpasta mhelda mtexta mchosena mtimesa mrestsa mbeforea mtolda mpasts mruns mtyped mspot mfrom mreason mcause morders mkind ms mpast mheld mtext mchosen mtimes mrests mbefore mtold p0 r1 hc1) [0, 1, 2, 3, 4, 5, 6, 7, 8, 9] rfl (cwV 1 hts (gzV wl223 wl224 wl225 wl5 wl226) rfl rfl rfl ⟨rfl, hdX7_isParticle⟩ ⟨Nat.le_of_ble_eq_true rfl, Nat.le_of_ble_eq_true rfl⟩) rfl rfl [] rfl hl.1 rfl (Nat.le_of_ble_eq_true rfl) dX7_particleOf_2 ⟨Nat.zero_le _, Nat.zero_le _⟩ ?_
  refine lv_if_ne (pc := 5) (tgt := 11) hx hb dX7_particleOf_5 (by decide) (fun cc => ?_) (fun cc => ?_)
  · replace h := am_f cc h
    refine lv_iload_n (pc := 11) hx hb dX7_particleOf_11 rfl (lv_at hl 2 rfl) ?_
    by_cases cc : p1 = (0 : Int32)
    · replace h := am_t cc h
      refine lv_tableIn (pc := 12) (tgt := 56) hx hb dX7_particleOf_12 (by rw [cc]; decide) (by rw [cc]; decide) (by rw [cc]; rfl) (by decide) ?_
      refine lv_aload_n (pc := 56) hx hb dX7_particleOf_56 rfl (lv_at hl 0 rfl) ?_
      refine lv_aload_n (pc := 57) hx hb dX7_particleOf_57 rfl (lv_at hl 0 rfl) ?_
      obtain ⟨r2, hc2, h⟩ := am_bind_s h
      refine kc_Vi (pc := 58) (ci := 7) ⟨hx, hb, hml, hown, hts⟩ hP hK [] (c_X7_latest l D cI cJ mself msa mpasta mhelda mtexta mchosena mtimesa mrestsa mbeforea mtolda mpasts mruns mtyped mspot mfrom mreason mcause morders mkind ms mpast mheld mtext mchosen mtimes mrests mbefore mtold r2 hc2) [0, 1, 2, 3, 4, 5, 6, 7, 8, 9] rfl (cwV 0 hts (gzV wl379 wl380 wl381 wl5 wl382) rfl rfl rfl ⟨rfl, hdX7_latest⟩ ⟨Nat.le_of_ble_eq_true rfl, Nat.le_of_ble_eq_true rfl⟩) rfl rfl [.ref mself] rfl hl.1 rfl (Nat.le_of_ble_eq_true rfl) dX7_particleOf_58 ⟨Nat.zero_le _, Nat.zero_le _⟩ ?_
      refine lv_iload_n (pc := 61) hx hb dX7_particleOf_61 rfl (lv_at hl 1 rfl) ?_
      obtain ⟨r3, hc3, h⟩ := am_bind_s h
      refine kc_Vi (pc := 62) (ci := 7) ⟨hx, hb, hml, hown, hts⟩ hP hK [.int r2, .int p0] (c_X7_placeIn l D cI cJ mself msa mpasta mhelda mtexta mchosena mtimesa mrestsa mbeforea mtolda mpasts mruns mtyped mspot mfrom mreason mcause morders mkind ms mpast mheld mtext mchosen mtimes mrests mbefore mtold r2 p0 r3 hc3) [0, 1, 2, 3, 4, 5, 6, 7, 8, 9] rfl (cwV 2 hts (gzV wl280 wl281 wl282 wl5 wl283) rfl rfl rfl ⟨rfl, hdX7_placeIn⟩ ⟨Nat.le_of_ble_eq_true rfl, Nat.le_of_ble_eq_true rfl⟩) rfl rfl [] rfl hl.1 rfl (Nat.le_of_ble_eq_true rfl) dX7_particleOf_62 ⟨Nat.zero_le _, Nat.zero_le _⟩ ?_
      obtain e1 := am_ret1 h
      exact hret _ _ _ dX7_particleOf_65 rfl e1
    replace h := am_f cc h
    have n0 := cc
    by_cases cc : p1 = (1 : Int32)
    · replace h := am_t cc h
      refine lv_tableIn (pc := 12) (tgt := 66) hx hb dX7_particleOf_12 (by rw [cc]; decide) (by rw [cc]; decide) (by rw [cc]; rfl) (by decide) ?_
      refine lv_aload_n (pc := 66) hx hb dX7_particleOf_66 rfl (lv_at hl 0 rfl) ?_
      refine va_get (pc := 67) (D := D) (ci := 7) (v := .ref msa) (C := RX7) (T := TX7) (N := 18) hx hb hts hnX7 hown hK.1 hP 0 rfl rfl 0 (Nat.le_of_ble_eq_true rfl) hk121 (fun _ h9 => h9) rfl dX7_particleOf_67 ?_
      refine lv_bipush (v := 8) (pc := 70) hx hb dX7_particleOf_70 (by decide) ?_
      refine lv_iload_n (pc := 72) hx hb dX7_particleOf_72 rfl (lv_at hl 1 rfl) ?_
      refine lv_iadd (pc := 73) hx hb dX7_particleOf_73 ?_
      obtain ⟨hi, h⟩ := am_in_s h
      refine va_iald (pc := 74) hx hb hK.1 hP 1 0 rfl rfl hi dX7_particleOf_74 ?_
      obtain e1 := am_ret1 h
      exact hret _ _ _ dX7_particleOf_75 rfl e1
    replace h := am_f cc h
    have n1 := cc
    by_cases cc : p1 = (2 : Int32)
    · replace h := am_t cc h
      refine lv_tableIn (pc := 12) (tgt := 76) hx hb dX7_particleOf_12 (by rw [cc]; decide) (by rw [cc]; decide) (by rw [cc]; rfl) (by decide) ?_
      refine lv_aload_n (pc := 76) hx hb dX7_particleOf_76 rfl (lv_at hl 0 rfl) ?_
      refine va_get (pc := 77) (D := D) (ci := 7) (v := .ref msa) (C := RX7) (T := TX7) (N := 18) hx hb hts hnX7 hown hK.1 hP 0 rfl rfl 0 (Nat.le_of_ble_eq_true rfl) hk121 (fun _ h9 => h9) rfl dX7_particleOf_77 ?_
      refine lv_bipush (v := 100) (pc := 80) hx hb dX7_particleOf_80 (by decide) ?_
      refine lv_bipush (v := 12) (pc := 82) hx hb dX7_particleOf_82 (by decide) ?_
      refine lv_aload_n (pc := 84) hx hb dX7_particleOf_84 rfl (lv_at hl 0 rfl) ?_
      obtain ⟨r4, hc4, h⟩ := am_bind_s h
      refine kc_Vi (pc := 85) (ci := 7) ⟨hx, hb, hml, hown, hts⟩ hP hK [] (c_X7_latest l D cI cJ mself msa mpasta mhelda mtexta mchosena mtimesa mrestsa mbeforea mtolda mpasts mruns mtyped mspot mfrom mreason mcause morders mkind ms mpast mheld mtext mchosen mtimes mrests mbefore mtold r4 hc4) [0, 1, 2, 3, 4, 5, 6, 7, 8, 9] rfl (cwV 0 hts (gzV wl379 wl380 wl381 wl5 wl382) rfl rfl rfl ⟨rfl, hdX7_latest⟩ ⟨Nat.le_of_ble_eq_true rfl, Nat.le_of_ble_eq_true rfl⟩) rfl rfl [.int (12 : Int32), .int (100 : Int32), .ref msa] rfl hl.1 rfl (Nat.le_of_ble_eq_true rfl) dX7_particleOf_85 ⟨Nat.zero_le _, Nat.zero_le _⟩ ?_
      refine lv_imul (pc := 88) hx hb dX7_particleOf_88 ?_
      refine lv_iadd (pc := 89) hx hb dX7_particleOf_89 ?_
      refine lv_iload_n (pc := 90) hx hb dX7_particleOf_90 rfl (lv_at hl 1 rfl) ?_
      refine lv_iadd (pc := 91) hx hb dX7_particleOf_91 ?_
      obtain ⟨hi, h⟩ := am_in_s h
      refine va_iald (pc := 92) hx hb hK.1 hP 1 0 rfl rfl hi dX7_particleOf_92 ?_
      obtain e1 := am_ret1 h
      exact hret _ _ _ dX7_particleOf_93 rfl e1
    replace h := am_f cc h
    have n2 := cc
    by_cases cc : p1 = (3 : Int32)
    · replace h := am_t cc h
      refine lv_tableIn (pc := 12) (tgt := 94) hx hb dX7_particleOf_12 (by rw [cc]; decide) (by rw [cc]; decide) (by rw [cc]; rfl) (by decide) ?_
      refine lv_aload_n (pc := 94) hx hb dX7_particleOf_94 rfl (lv_at hl 0 rfl) ?_
      refine lv_iload_n (pc := 95) hx hb dX7_particleOf_95 rfl (lv_at hl 1 rfl) ?_
      obtain ⟨r5, hc5, h⟩ := am_bind_s h
      refine kc_Vi (pc := 96) (ci := 7) ⟨hx, hb, hml, hown, hts⟩ hP hK [.int p0] (c_X7_likePlaces l D cI cJ mself msa mpasta mhelda mtexta mchosena mtimesa mrestsa mbeforea mtolda mpasts mruns mtyped mspot mfrom mreason mcause morders mkind ms mpast mheld mtext mchosen mtimes mrests mbefore mtold p0 r5 hc5) [0, 1, 2, 3, 4, 5, 6, 7, 8, 9] rfl (cwV 1 hts (gzV wl467 wl468 wl469 wl5 wl470) rfl rfl rfl ⟨rfl, hdX7_likePlaces⟩ ⟨Nat.le_of_ble_eq_true rfl, Nat.le_of_ble_eq_true rfl⟩) rfl rfl [] rfl hl.1 rfl (Nat.le_of_ble_eq_true rfl) dX7_particleOf_96 ⟨Nat.zero_le _, Nat.zero_le _⟩ ?_
      obtain e1 := am_ret1 h
      exact hret _ _ _ dX7_particleOf_99 rfl e1
    replace h := am_f cc h
    have n3 := cc
    by_cases cc : p1 = (4 : Int32)
    · replace h := am_t cc h
      refine lv_tableIn (pc := 12) (tgt := 100) hx hb dX7_particleOf_12 (by rw [cc]; decide) (by rw [cc]; decide) (by rw [cc]; rfl) (by decide) ?_
      refine lv_aload_n (pc := 100) hx hb dX7_particleOf_100 rfl (lv_at hl 0 rfl) ?_
      refine va_get (pc := 101) (D := D) (ci := 7) (v := .ref msa) (C := RX7) (T := TX7) (N := 18) hx hb hts hnX7 hown hK.1 hP 0 rfl rfl 0 (Nat.le_of_ble_eq_true rfl) hk121 (fun _ h9 => h9) rfl dX7_particleOf_101 ?_
      refine lv_bipush (v := 8) (pc := 104) hx hb dX7_particleOf_104 (by decide) ?_
      refine lv_iload_n (pc := 106) hx hb dX7_particleOf_106 rfl (lv_at hl 1 rfl) ?_
      refine lv_iadd (pc := 107) hx hb dX7_particleOf_107 ?_
      obtain ⟨hi, h⟩ := am_in_s h
      refine va_iald (pc := 108) hx hb hK.1 hP 1 0 rfl rfl hi dX7_particleOf_108 ?_
      refine lv_i2l (pc := 109) hx hb dX7_particleOf_109 rfl ?_
      refine lv_aload_n (pc := 110) hx hb dX7_particleOf_110 rfl (lv_at hl 0 rfl) ?_
      obtain ⟨r6, hc6, h⟩ := am_bind_s h
      refine kc_Vi (pc := 111) (ci := 7) ⟨hx, hb, hml, hown, hts⟩ hP hK [] (c_X7_sum l D cI cJ mself msa mpasta mhelda mtexta mchosena mtimesa mrestsa mbeforea mtolda mpasts mruns mtyped mspot mfrom mreason mcause morders mkind ms mpast mheld mtext mchosen mtimes mrests mbefore mtold r6 hc6) [0, 1, 2, 3, 4, 5, 6, 7, 8, 9] rfl (cwV 0 hts (gzV wl227 wl228 wl229 wl5 wl230) rfl rfl rfl ⟨rfl, hdX7_sum⟩ ⟨Nat.le_of_ble_eq_true rfl, Nat.le_of_ble_eq_true rfl⟩) rfl rfl [.long (ms ((8 : Int32) + p0).toNatClampNeg).toInt64] rfl hl.1 rfl (Nat.le_of_ble_eq_true rfl) dX7_particleOf_111 ⟨Nat.zero_le _, Nat.zero_le _⟩ ?_
      refine lv_i2l (pc := 114) hx hb dX7_particleOf_114 rfl ?_
      refine lv_iload_n (pc := 115) hx hb dX7_particleOf_115 rfl (lv_at hl 2 rfl) ?_
      refine lv_iconst (v := 4) (pc := 116) hx hb dX7_particleOf_116 (by decide) ?_
      refine lv_isub (pc := 117) hx hb dX7_particleOf_117 ?_
      obtain ⟨r7, hc7, h⟩ := am_bind_s h
      refine kc_Si (pc := 118) ⟨hx, hb, hml, hown, hts⟩ hP hK [.long (ms ((8 : Int32) + p0).toNatClampNeg).toInt64, .long r6.toInt64, .int (p1 - (4 : Int32))] (c_X7_part l D cI cJ (ms ((8 : Int32) + p0).toNatClampNeg).toInt64 r6.toInt64 (p1 - (4 : Int32)) r7 hc7) [] rfl (cwS 3 hts (gzS wl471 wl472 wl5 wl473) rfl rfl rfl ⟨rfl, hdX7_part⟩ ⟨Nat.le_of_ble_eq_true rfl, Nat.le_of_ble_eq_true rfl⟩) [] rfl hl.1 rfl (Nat.le_of_ble_eq_true rfl) dX7_particleOf_118 ⟨Nat.zero_le _, Nat.zero_le _⟩ ?_
      obtain e1 := am_ret1 h
      exact hret _ _ _ dX7_particleOf_121 rfl e1
    replace h := am_f cc h
    have n4 := cc
    by_cases cc : p1 = (5 : Int32)
    · replace h := am_t cc h
      refine lv_tableIn (pc := 12) (tgt := 100) hx hb dX7_particleOf_12 (by rw [cc]; decide) (by rw [cc]; decide) (by rw [cc]; rfl) (by decide) ?_
      refine lv_aload_n (pc := 100) hx hb dX7_particleOf_100 rfl (lv_at hl 0 rfl) ?_
      refine va_get (pc := 101) (D := D) (ci := 7) (v := .ref msa) (C := RX7) (T := TX7) (N := 18) hx hb hts hnX7 hown hK.1 hP 0 rfl rfl 0 (Nat.le_of_ble_eq_true rfl) hk121 (fun _ h9 => h9) rfl dX7_particleOf_101 ?_
      refine lv_bipush (v := 8) (pc := 104) hx hb dX7_particleOf_104 (by decide) ?_
      refine lv_iload_n (pc := 106) hx hb dX7_particleOf_106 rfl (lv_at hl 1 rfl) ?_
      refine lv_iadd (pc := 107) hx hb dX7_particleOf_107 ?_
      obtain ⟨hi, h⟩ := am_in_s h
      refine va_iald (pc := 108) hx hb hK.1 hP 1 0 rfl rfl hi dX7_particleOf_108 ?_
      refine lv_i2l (pc := 109) hx hb dX7_particleOf_109 rfl ?_
      refine lv_aload_n (pc := 110) hx hb dX7_particleOf_110 rfl (lv_at hl 0 rfl) ?_
      obtain ⟨r8, hc8, h⟩ := am_bind_s h
      refine kc_Vi (pc := 111) (ci := 7) ⟨hx, hb, hml, hown, hts⟩ hP hK [] (c_X7_sum l D cI cJ mself msa mpasta mhelda mtexta mchosena mtimesa mrestsa mbeforea mtolda mpasts mruns mtyped mspot mfrom mreason mcause morders mkind ms mpast mheld mtext mchosen mtimes mrests mbefore mtold r8 hc8) [0, 1, 2, 3, 4, 5, 6, 7, 8, 9] rfl (cwV 0 hts (gzV wl227 wl228 wl229 wl5 wl230) rfl rfl rfl ⟨rfl, hdX7_sum⟩ ⟨Nat.le_of_ble_eq_true rfl, Nat.le_of_ble_eq_true rfl⟩) rfl rfl [.long (ms ((8 : Int32) + p0).toNatClampNeg).toInt64] rfl hl.1 rfl (Nat.le_of_ble_eq_true rfl) dX7_particleOf_111 ⟨Nat.zero_le _, Nat.zero_le _⟩ ?_
      refine lv_i2l (pc := 114) hx hb dX7_particleOf_114 rfl ?_
      refine lv_iload_n (pc := 115) hx hb dX7_particleOf_115 rfl (lv_at hl 2 rfl) ?_
      refine lv_iconst (v := 4) (pc := 116) hx hb dX7_particleOf_116 (by decide) ?_
      refine lv_isub (pc := 117) hx hb dX7_particleOf_117 ?_
      obtain ⟨r9, hc9, h⟩ := am_bind_s h
      refine kc_Si (pc := 118) ⟨hx, hb, hml, hown, hts⟩ hP hK [.long (ms ((8 : Int32) + p0).toNatClampNeg).toInt64, .long r8.toInt64, .int (p1 - (4 : Int32))] (c_X7_part l D cI cJ (ms ((8 : Int32) + p0).toNatClampNeg).toInt64 r8.toInt64 (p1 - (4 : Int32)) r9 hc9) [] rfl (cwS 3 hts (gzS wl471 wl472 wl5 wl473) rfl rfl rfl ⟨rfl, hdX7_part⟩ ⟨Nat.le_of_ble_eq_true rfl, Nat.le_of_ble_eq_true rfl⟩) [] rfl hl.1 rfl (Nat.le_of_ble_eq_true rfl) dX7_particleOf_118 ⟨Nat.zero_le _, Nat.zero_le _⟩ ?_
      obtain e1 := am_ret1 h
      exact hret _ _ _ dX7_particleOf_121 rfl e1
    replace h := am_f cc h
    have n5 := cc
    by_cases cc : p1 = (6 : Int32)
    · replace h := am_t cc h
      refine lv_tableIn (pc := 12) (tgt := 122) hx hb dX7_particleOf_12 (by rw [cc]; decide) (by rw [cc]; decide) (by rw [cc]; rfl) (by decide) ?_
      refine lv_aload_n (pc := 122) hx hb dX7_particleOf_122 rfl (lv_at hl 0 rfl) ?_
      refine lv_iload_n (pc := 123) hx hb dX7_particleOf_123 rfl (lv_at hl 1 rfl) ?_
      obtain ⟨r10, hc10, h⟩ := am_bind_s h
      refine kc_Vi (pc := 124) (ci := 7) ⟨hx, hb, hml, hown, hts⟩ hP hK [.int p0] (c_X7_rank l D cI cJ mself msa mpasta mhelda mtexta mchosena mtimesa mrestsa mbeforea mtolda mpasts mruns mtyped mspot mfrom mreason mcause morders mkind ms mpast mheld mtext mchosen mtimes mrests mbefore mtold p0 r10 hc10) [0, 1, 2, 3, 4, 5, 6, 7, 8, 9] rfl (cwV 1 hts (gzV wl474 wl475 wl476 wl5 wl477) rfl rfl rfl ⟨rfl, hdX7_rank⟩ ⟨Nat.le_of_ble_eq_true rfl, Nat.le_of_ble_eq_true rfl⟩) rfl rfl [] rfl hl.1 rfl (Nat.le_of_ble_eq_true rfl) dX7_particleOf_124 ⟨Nat.zero_le _, Nat.zero_le _⟩ ?_
      obtain e1 := am_ret1 h
      exact hret _ _ _ dX7_particleOf_127 rfl e1
    replace h := am_f cc h
    have n6 := cc
    refine lv_tableOut (pc := 12) (tgt := 128) hx hb dX7_particleOf_12 (am_out_0_6 n0 n1 n2 n3 n4 n5 n6) (by decide) ?_
    refine lv_ldc (pc := 128) hx hb hown hk175 dX7_particleOf_128 ?_
    obtain e1 := am_ret1 h
    exact hret _ _ _ dX7_particleOf_130 rfl e1
  replace h := am_t cc h
  refine lv_ldc (pc := 8) hx hb hown hk175 dX7_particleOf_8 ?_
  obtain e1 := am_ret1 h
  exact hret _ _ _ dX7_particleOf_10 rfl e1
theorem hdX7_up : yX7_up.cls ≠ "java/lang/invoke/MethodHandle" ∧ yX7_up.cls ≠ "java/lang/invoke/VarHandle" ∧ (parseMethodDescriptor yX7_up.desc).map (fun d => d.parameters.length) = some 2 := by decide +kernel
abbrev rmX7_up : Room := { frames := 1, cells := 0, slots := 0, locals := 20 }
set_option maxHeartbeats 20000000 in
set_option maxRecDepth 100000 in
theorem c_X7_up (l : Launch) (D : va_G) (cI cJ : ClassId) (mself : Nat) (msa : Nat) (mpasta : Nat) (mhelda : Nat) (mtexta : Nat) (mchosena : Nat) (mtimesa : Nat) (mrestsa : Nat) (mbeforea : Nat) (mtolda : Nat) (mpasts : Int32) (mruns : Int32) (mtyped : Int32) (mspot : Int32) (mfrom : Int32) (mreason : Int32) (mcause : Int32) (morders : Int32) (mkind : Int32) (ms : Nat → Int32) (mpast : Nat → Int32) (mheld : Nat → Int32) (mtext : Nat → Int32) (mchosen : Nat → Int32) (mtimes : Nat → Int32) (mrests : Nat → Int64) (mbefore : Nat → Int32) (mtold : Nat → Int32) (p0 : Int32) (p1 : Int32) (r0 : Int32) (hF : F_X7_up ms p0 p1 = some r0) : Met l yX7_up (wz yX7_up cX7_up 5 (some .int)) rmX7_up (kPc D cI cJ [(mself, .inr (7, [.ref msa, .ref mpasta, .ref mhelda, .int mpasts, .int mruns, .ref mtexta, .int mtyped, .ref mchosena, .ref mtimesa, .ref mrestsa, .ref mbeforea, .int mspot, .int mfrom, .int mreason, .int mcause, .int morders, .int mkind, .ref mtolda])), (msa, .inl (cI, 580, .inl ms)), (mpasta, .inl (cI, 2320, .inl mpast)), (mhelda, .inl (cI, 580, .inl mheld)), (mtexta, .inl (cI, 60, .inl mtext)), (mchosena, .inl (cI, 12, .inl mchosen)), (mtimesa, .inl (cI, 12, .inl mtimes)), (mrestsa, .inl (cJ, 12, .inr (.inl mrests))), (mbeforea, .inl (cI, 12, .inl mbefore)), (mtolda, .inl (cI, 2, .inl mtold))] [.ref mself, .int p0, .int p1]) (vp_Si (fun r => r = r0)) 0 0 (fun _ => False) := by
  refine kM_ri cX7_up 5 .int (by decide +kernel) rfl rfl (Nat.le_of_ble_eq_true rfl) ⟨rfl, rfl⟩ ?_
  intro p e s m args below meth c Q ls hx hb hml hown hts hP hK hl hret
  have hk121 := hts _ (List.mem_cons_of_mem _ wl121)
  have hnX7 : ∀ w ∈ u_ws RX7 TX7 18, w ∈ wz yX7_up cX7_up 5 (some .int) := fun w h => List.mem_cons_of_mem _ (inlX7 w h)
  replace hl : lv_has ls 5 [(0, .ref mself), (1, .int p0), (2, .int p1)] := hl
  have h := hF
  unfold F_X7_up at h
  refine lv_iload_n (pc := 0) hx hb dX7_up_0 rfl (lv_at hl 1 rfl) ?_
  refine lv_istore_n (lv' := [(3, .int p0), (0, .ref mself), (1, .int p0), (2, .int p1)]) (pc := 1) hx hb dX7_up_1 rfl hl (by decide) rfl (fun ls hl => ?_)
  refine lv_aload_n (pc := 2) hx hb dX7_up_2 rfl (lv_at hl 1 rfl) ?_
  obtain ⟨r1, hc1, h⟩ := am_bind_s h
  refine kc_Vi (pc := 3) (ci := 7) ⟨hx, hb, hml, hown, hts⟩ hP hK [] (c_X7_latest l D cI cJ mself msa mpasta mhelda mtexta mchosena mtimesa mrestsa mbeforea mtolda mpasts mruns mtyped mspot mfrom mreason mcause morders mkind ms mpast mheld mtext mchosen mtimes mrests mbefore mtold r1 hc1) [0, 1, 2, 3, 4, 5, 6, 7, 8, 9] rfl (cwV 0 hts (gzV wl379 wl380 wl381 wl5 wl382) rfl rfl rfl ⟨rfl, hdX7_latest⟩ ⟨Nat.le_of_ble_eq_true rfl, Nat.le_of_ble_eq_true rfl⟩) rfl rfl [] rfl hl.1 rfl (Nat.le_of_ble_eq_true rfl) dX7_up_3 ⟨Nat.zero_le _, Nat.zero_le _⟩ ?_
  refine lv_istore (lv' := [(4, .int r1), (3, .int p0), (0, .ref mself), (1, .int p0), (2, .int p1)]) (pc := 6) hx hb dX7_up_6 hl (by decide) rfl (fun ls hl => ?_)
  refine am_join1_s (fun (x2 : Int32) => ∀ (ls : Array Slot), lv_has ls 5 [(3, .int x2)] → W p l e rmX7_up s m args below meth c s.heap [] 0 0 Q (F0 m 36 ls [])) h (fun x2 h ls hl => ?_) (fun K3 hK3 h => ?_)
  · refine lv_iload_n (pc := 36) hx hb dX7_up_36 rfl (lv_at hl 0 rfl) ?_
    obtain e1 := am_ret1 h
    exact hret _ _ _ dX7_up_37 rfl e1
  refine am_loop2_s (fun (x4 : Int32) (x5 : Int32) => ∀ (ls : Array Slot), lv_has ls 5 [(0, .ref mself), (2, .int p1), (3, .int x4), (4, .int x5)] → W p l e rmX7_up s m args below meth c s.heap [] 0 0 Q (F0 m 8 ls [])) (fun rec6 ihrec6 x4 x5 h ls hl => ?_) _ _ _ h ls (lv_sub hl [2, 4, 1, 0] rfl)
  unfold F_X7_up_B8 at h
  refine lv_iload (pc := 8) hx hb dX7_up_8 (lv_at hl 3 rfl) ?_
  refine lv_iload_n (pc := 10) hx hb dX7_up_10 rfl (lv_at hl 1 rfl) ?_
  refine lv_icmp_le (pc := 11) (tgt := 36) hx hb dX7_up_11 (by decide) (fun cc => ?_) (fun cc => ?_)
  · replace h := am_t cc h
    exact hK3 _ h ls (lv_sub hl [2] rfl)
  replace h := am_f cc h
  refine lv_aload_n (pc := 14) hx hb dX7_up_14 rfl (lv_at hl 0 rfl) ?_
  refine va_get (pc := 15) (D := D) (ci := 7) (v := .ref msa) (C := RX7) (T := TX7) (N := 18) hx hb hts hnX7 hown hK.1 hP 0 rfl rfl 0 (Nat.le_of_ble_eq_true rfl) hk121 (fun _ h9 => h9) rfl dX7_up_15 ?_
  refine lv_bipush (v := 100) (pc := 18) hx hb dX7_up_18 (by decide) ?_
  refine lv_bipush (v := 12) (pc := 20) hx hb dX7_up_20 (by decide) ?_
  refine lv_iload (pc := 22) hx hb dX7_up_22 (lv_at hl 3 rfl) ?_
  refine lv_imul (pc := 24) hx hb dX7_up_24 ?_
  refine lv_iadd (pc := 25) hx hb dX7_up_25 ?_
  refine lv_iload_n (pc := 26) hx hb dX7_up_26 rfl (lv_at hl 2 rfl) ?_
  refine lv_iadd (pc := 27) hx hb dX7_up_27 ?_
  obtain ⟨hi, h⟩ := am_in_s h
  refine va_iald (pc := 28) hx hb hK.1 hP 1 0 rfl rfl hi dX7_up_28 ?_
  refine lv_topi (fun x7 ex7 => ?_)
  replace h := am_let_s ex7 h
  refine lv_istore_n (lv' := [(3, .int x7), (0, .ref mself), (2, .int p1), (4, .int x5)]) (pc := 29) hx hb dX7_up_29 rfl hl (by decide) rfl (fun ls hl => ?_)
  obtain ⟨x8, ex8⟩ : ∃ y : Int32, y = (x5 + (-1 : Int32)) := ⟨_, rfl⟩
  replace h := am_let_s ex8 h
  refine lv_iinc (pc := 30) (v := x8) (lv' := [(4, .int x8), (3, .int x7), (0, .ref mself), (2, .int p1)]) hx hb dX7_up_30 hl (k := 3) rfl (by rw [ex8]; rfl) (by decide) rfl (fun ls hl => ?_)
  refine lv_goto (pc := 33) (tgt := 8) hx hb dX7_up_33 (by decide) ?_
  exact ihrec6 _ _ h ls (lv_sub hl [2, 3, 1, 0] rfl)
theorem hdX7_alive : yX7_alive.cls ≠ "java/lang/invoke/MethodHandle" ∧ yX7_alive.cls ≠ "java/lang/invoke/VarHandle" ∧ (parseMethodDescriptor yX7_alive.desc).map (fun d => d.parameters.length) = some 1 := by decide +kernel
abbrev rmX7_alive : Room := { frames := 2, cells := 0, slots := 0, locals := 44 }
set_option maxHeartbeats 20000000 in
set_option maxRecDepth 100000 in
theorem c_X7_alive (l : Launch) (D : va_G) (cI cJ : ClassId) (mself : Nat) (msa : Nat) (mpasta : Nat) (mhelda : Nat) (mtexta : Nat) (mchosena : Nat) (mtimesa : Nat) (mrestsa : Nat) (mbeforea : Nat) (mtolda : Nat) (mpasts : Int32) (mruns : Int32) (mtyped : Int32) (mspot : Int32) (mfrom : Int32) (mreason : Int32) (mcause : Int32) (morders : Int32) (mkind : Int32) (ms : Nat → Int32) (mpast : Nat → Int32) (mheld : Nat → Int32) (mtext : Nat → Int32) (mchosen : Nat → Int32) (mtimes : Nat → Int32) (mrests : Nat → Int64) (mbefore : Nat → Int32) (mtold : Nat → Int32) (p0 : Int32) (r0 : Int32) (hF : F_X7_alive ms p0 = some r0) : Met l yX7_alive (wz yX7_alive cX7_alive 5 (some .int)) rmX7_alive (kPc D cI cJ [(mself, .inr (7, [.ref msa, .ref mpasta, .ref mhelda, .int mpasts, .int mruns, .ref mtexta, .int mtyped, .ref mchosena, .ref mtimesa, .ref mrestsa, .ref mbeforea, .int mspot, .int mfrom, .int mreason, .int mcause, .int morders, .int mkind, .ref mtolda])), (msa, .inl (cI, 580, .inl ms)), (mpasta, .inl (cI, 2320, .inl mpast)), (mhelda, .inl (cI, 580, .inl mheld)), (mtexta, .inl (cI, 60, .inl mtext)), (mchosena, .inl (cI, 12, .inl mchosen)), (mtimesa, .inl (cI, 12, .inl mtimes)), (mrestsa, .inl (cJ, 12, .inr (.inl mrests))), (mbeforea, .inl (cI, 12, .inl mbefore)), (mtolda, .inl (cI, 2, .inl mtold))] [.ref mself, .int p0]) (vp_Si (fun r => r = r0)) 0 0 (fun _ => False) := by
  refine kM_ri cX7_alive 5 .int (by decide +kernel) rfl rfl (Nat.le_of_ble_eq_true rfl) ⟨rfl, rfl⟩ ?_
  intro p e s m args below meth c Q ls hx hb hml hown hts hP hK hl hret
  have hk121 := hts _ (List.mem_cons_of_mem _ wl121)
  have hnX7 : ∀ w ∈ u_ws RX7 TX7 18, w ∈ wz yX7_alive cX7_alive 5 (some .int) := fun w h => List.mem_cons_of_mem _ (inlX7 w h)
  replace hl : lv_has ls 5 [(0, .ref mself), (1, .int p0)] := hl
  have h := hF
  unfold F_X7_alive at h
  refine lv_iconst (v := 0) (pc := 0) hx hb dX7_alive_0 (by decide) ?_
  refine lv_istore_n (lv' := [(2, .int (0 : Int32)), (0, .ref mself), (1, .int p0)]) (pc := 1) hx hb dX7_alive_1 rfl hl (by decide) rfl (fun ls hl => ?_)
  refine lv_iconst (v := 0) (pc := 2) hx hb dX7_alive_2 (by decide) ?_
  refine lv_istore_n (lv' := [(3, .int (0 : Int32)), (2, .int (0 : Int32)), (0, .ref mself), (1, .int p0)]) (pc := 3) hx hb dX7_alive_3 rfl hl (by decide) rfl (fun ls hl => ?_)
  refine lv_iconst (v := 0) (pc := 4) hx hb dX7_alive_4 (by decide) ?_
  refine lv_istore (lv' := [(4, .int (0 : Int32)), (3, .int (0 : Int32)), (2, .int (0 : Int32)), (0, .ref mself), (1, .int p0)]) (pc := 5) hx hb dX7_alive_5 hl (by decide) rfl (fun ls hl => ?_)
  refine am_join1_s (fun (x1 : Int32) => ∀ (ls : Array Slot), lv_has ls 5 [(0, .ref mself), (2, .int x1), (3, .int (0 : Int32))] → W p l e rmX7_alive s m args below meth c s.heap [] 0 0 Q (F0 m 36 ls [])) h (fun x1 h ls hl => ?_) (fun K2 hK2 h => ?_)
  · refine lv_iconst (v := 0) (pc := 36) hx hb dX7_alive_36 (by decide) ?_
    refine lv_istore (lv' := [(4, .int (0 : Int32)), (0, .ref mself), (2, .int x1), (3, .int (0 : Int32))]) (pc := 37) hx hb dX7_alive_37 hl (by decide) rfl (fun ls hl => ?_)
    refine am_join1_s (fun (x3 : Int32) => ∀ (ls : Array Slot), lv_has ls 5 [(3, .int x3)] → W p l e rmX7_alive s m args below meth c s.heap [] 0 0 Q (F0 m 65 ls [])) h (fun x3 h ls hl => ?_) (fun K4 hK4 h => ?_)
    · refine lv_iload_n (pc := 65) hx hb dX7_alive_65 rfl (lv_at hl 0 rfl) ?_
      obtain e1 := am_ret1 h
      exact hret _ _ _ dX7_alive_66 rfl e1
    refine am_loop2_s (fun (x5 : Int32) (x6 : Int32) => ∀ (ls : Array Slot), lv_has ls 5 [(0, .ref mself), (2, .int x1), (3, .int x5), (4, .int x6)] → W p l e rmX7_alive s m args below meth c s.heap [] 0 0 Q (F0 m 39 ls [])) (fun rec7 ihrec7 x5 x6 h ls hl => ?_) _ _ _ h ls (lv_sub hl [1, 2, 3, 0] rfl)
    unfold F_X7_alive_B39 at h
    refine lv_iload (pc := 39) hx hb dX7_alive_39 (lv_at hl 3 rfl) ?_
    refine lv_aload_n (pc := 41) hx hb dX7_alive_41 rfl (lv_at hl 0 rfl) ?_
    refine va_get (pc := 42) (D := D) (ci := 7) (v := .ref msa) (C := RX7) (T := TX7) (N := 18) hx hb hts hnX7 hown hK.1 hP 0 rfl rfl 0 (Nat.le_of_ble_eq_true rfl) hk121 (fun _ h9 => h9) rfl dX7_alive_42 ?_
    refine lv_iconst (v := 0) (pc := 45) hx hb dX7_alive_45 (by decide) ?_
    refine va_iald (pc := 46) hx hb hK.1 hP 1 0 rfl rfl (vp_in_nI (n := 0) (N := 580) (by decide) (by decide)) dX7_alive_46 ?_
    refine lv_icmp_ge (pc := 47) (tgt := 65) hx hb dX7_alive_47 (by decide) (fun cc => ?_) (fun cc => ?_)
    · replace h := am_t cc h
      exact hK4 _ h ls (lv_sub hl [2] rfl)
    replace h := am_f cc h
    refine lv_iload_n (pc := 50) hx hb dX7_alive_50 rfl (lv_at hl 2 rfl) ?_
    refine lv_iload_n (pc := 51) hx hb dX7_alive_51 rfl (lv_at hl 1 rfl) ?_
    refine lv_iload (pc := 52) hx hb dX7_alive_52 (lv_at hl 3 rfl) ?_
    refine lv_ishr (pc := 54) hx hb dX7_alive_54 ?_
    refine lv_iconst (v := 1) (pc := 55) hx hb dX7_alive_55 (by decide) ?_
    refine lv_iand (pc := 56) hx hb dX7_alive_56 ?_
    refine lv_iadd (pc := 57) hx hb dX7_alive_57 ?_
    refine lv_topi (fun x8 ex8 => ?_)
    replace h := am_let_s ex8 h
    refine lv_istore_n (lv' := [(3, .int x8), (0, .ref mself), (2, .int x1), (4, .int x6)]) (pc := 58) hx hb dX7_alive_58 rfl hl (by decide) rfl (fun ls hl => ?_)
    obtain ⟨x9, ex9⟩ : ∃ y : Int32, y = (x6 + (1 : Int32)) := ⟨_, rfl⟩
    replace h := am_let_s ex9 h
    refine lv_iinc (pc := 59) (v := x9) (lv' := [(4, .int x9), (3, .int x8), (0, .ref mself), (2, .int x1)]) hx hb dX7_alive_59 hl (k := 3) rfl (by rw [ex9]; rfl) (by decide) rfl (fun ls hl => ?_)
    refine lv_goto (pc := 62) (tgt := 39) hx hb dX7_alive_62 (by decide) ?_
    exact ihrec7 _ _ h ls (lv_sub hl [2, 3, 1, 0] rfl)
  refine am_loop2_s (fun (x10 : Int32) (x11 : Int32) => ∀ (ls : Array Slot), lv_has ls 5 [(0, .ref mself), (1, .int p0), (2, .int x10), (3, .int (0 : Int32)), (4, .int x11)] → W p l e rmX7_alive s m args below meth c s.heap [] 0 0 Q (F0 m 7 ls [])) (fun rec12 ihrec12 x10 x11 h ls hl => ?_) _ _ _ h ls (lv_sub hl [3, 4, 2, 1, 0] rfl)
  unfold F_X7_alive_B7 at h
  refine lv_iload (pc := 7) hx hb dX7_alive_7 (lv_at hl 4 rfl) ?_
  refine lv_aload_n (pc := 9) hx hb dX7_alive_9 rfl (lv_at hl 0 rfl) ?_
  refine va_get (pc := 10) (D := D) (ci := 7) (v := .ref msa) (C := RX7) (T := TX7) (N := 18) hx hb hts hnX7 hown hK.1 hP 0 rfl rfl 0 (Nat.le_of_ble_eq_true rfl) hk121 (fun _ h9 => h9) rfl dX7_alive_10 ?_
  refine lv_iconst (v := 0) (pc := 13) hx hb dX7_alive_13 (by decide) ?_
  refine va_iald (pc := 14) hx hb hK.1 hP 1 0 rfl rfl (vp_in_nI (n := 0) (N := 580) (by decide) (by decide)) dX7_alive_14 ?_
  refine lv_icmp_ge (pc := 15) (tgt := 36) hx hb dX7_alive_15 (by decide) (fun cc => ?_) (fun cc => ?_)
  · replace h := am_t cc h
    exact hK2 _ h ls (lv_sub hl [0, 2, 3] rfl)
  replace h := am_f cc h
  refine lv_iload_n (pc := 18) hx hb dX7_alive_18 rfl (lv_at hl 2 rfl) ?_
  refine lv_iconst (v := 1) (pc := 19) hx hb dX7_alive_19 (by decide) ?_
  refine lv_aload_n (pc := 20) hx hb dX7_alive_20 rfl (lv_at hl 0 rfl) ?_
  refine lv_iload (pc := 21) hx hb dX7_alive_21 (lv_at hl 4 rfl) ?_
  refine lv_iload_n (pc := 23) hx hb dX7_alive_23 rfl (lv_at hl 1 rfl) ?_
  obtain ⟨r13, hc13, h⟩ := am_bind_s h
  refine kc_Vi (pc := 24) (ci := 7) ⟨hx, hb, hml, hown, hts⟩ hP hK [.int x11, .int p0] (c_X7_up l D cI cJ mself msa mpasta mhelda mtexta mchosena mtimesa mrestsa mbeforea mtolda mpasts mruns mtyped mspot mfrom mreason mcause morders mkind ms mpast mheld mtext mchosen mtimes mrests mbefore mtold x11 p0 r13 hc13) [0, 1, 2, 3, 4, 5, 6, 7, 8, 9] rfl (cwV 2 hts (gzV wl526 wl527 wl528 wl5 wl529) rfl rfl rfl ⟨rfl, hdX7_up⟩ ⟨Nat.le_of_ble_eq_true rfl, Nat.le_of_ble_eq_true rfl⟩) rfl rfl [.int (1 : Int32), .int x10] rfl hl.1 rfl (Nat.le_of_ble_eq_true rfl) dX7_alive_24 ⟨Nat.zero_le _, Nat.zero_le _⟩ ?_
  refine lv_ishl (pc := 27) hx hb dX7_alive_27 ?_
  refine lv_ior (pc := 28) hx hb dX7_alive_28 ?_
  refine lv_topi (fun x14 ex14 => ?_)
  replace h := am_let_s ex14 h
  refine lv_istore_n (lv' := [(2, .int x14), (0, .ref mself), (1, .int p0), (3, .int (0 : Int32)), (4, .int x11)]) (pc := 29) hx hb dX7_alive_29 rfl hl (by decide) rfl (fun ls hl => ?_)
  obtain ⟨x15, ex15⟩ : ∃ y : Int32, y = (x11 + (1 : Int32)) := ⟨_, rfl⟩
  replace h := am_let_s ex15 h
  refine lv_iinc (pc := 30) (v := x15) (lv' := [(4, .int x15), (2, .int x14), (0, .ref mself), (1, .int p0), (3, .int (0 : Int32))]) hx hb dX7_alive_30 hl (k := 4) rfl (by rw [ex15]; rfl) (by decide) rfl (fun ls hl => ?_)
  refine lv_goto (pc := 33) (tgt := 7) hx hb dX7_alive_33 (by decide) ?_
  exact ihrec12 _ _ h ls (lv_sub hl [2, 3, 1, 4, 0] rfl)
theorem hdX7_generationOf : yX7_generationOf.cls ≠ "java/lang/invoke/MethodHandle" ∧ yX7_generationOf.cls ≠ "java/lang/invoke/VarHandle" ∧ (parseMethodDescriptor yX7_generationOf.desc).map (fun d => d.parameters.length) = some 2 := by decide +kernel
abbrev rmX7_generationOf : Room := { frames := 3, cells := 0, slots := 0, locals := 68 }
set_option maxHeartbeats 20000000 in
set_option maxRecDepth 100000 in
theorem c_X7_generationOf (l : Launch) (D : va_G) (cI cJ : ClassId) (mself : Nat) (msa : Nat) (mpasta : Nat) (mhelda : Nat) (mtexta : Nat) (mchosena : Nat) (mtimesa : Nat) (mrestsa : Nat) (mbeforea : Nat) (mtolda : Nat) (mpasts : Int32) (mruns : Int32) (mtyped : Int32) (mspot : Int32) (mfrom : Int32) (mreason : Int32) (mcause : Int32) (morders : Int32) (mkind : Int32) (ms : Nat → Int32) (mpast : Nat → Int32) (mheld : Nat → Int32) (mtext : Nat → Int32) (mchosen : Nat → Int32) (mtimes : Nat → Int32) (mrests : Nat → Int64) (mbefore : Nat → Int32) (mtold : Nat → Int32) (p0 : Int32) (p1 : Int32) (r0 : Int32) (hF : F_X7_generationOf ms p0 p1 = some r0) : Met l yX7_generationOf (wz yX7_generationOf cX7_generationOf 4 (some .int)) rmX7_generationOf (kPc D cI cJ [(mself, .inr (7, [.ref msa, .ref mpasta, .ref mhelda, .int mpasts, .int mruns, .ref mtexta, .int mtyped, .ref mchosena, .ref mtimesa, .ref mrestsa, .ref mbeforea, .int mspot, .int mfrom, .int mreason, .int mcause, .int morders, .int mkind, .ref mtolda])), (msa, .inl (cI, 580, .inl ms)), (mpasta, .inl (cI, 2320, .inl mpast)), (mhelda, .inl (cI, 580, .inl mheld)), (mtexta, .inl (cI, 60, .inl mtext)), (mchosena, .inl (cI, 12, .inl mchosen)), (mtimesa, .inl (cI, 12, .inl mtimes)), (mrestsa, .inl (cJ, 12, .inr (.inl mrests))), (mbeforea, .inl (cI, 12, .inl mbefore)), (mtolda, .inl (cI, 2, .inl mtold))] [.ref mself, .int p0, .int p1]) (vp_Si (fun r => r = r0)) 0 0 (fun _ => False) := by
  refine kM_ri cX7_generationOf 4 .int (by decide +kernel) rfl rfl (Nat.le_of_ble_eq_true rfl) ⟨rfl, rfl⟩ ?_
  intro p e s m args below meth c Q ls hx hb hml hown hts hP hK hl hret
  have hk121 := hts _ (List.mem_cons_of_mem _ wl121)
  have hk134 := hts _ (List.mem_cons_of_mem _ wl134)
  have hk175 := hts _ (List.mem_cons_of_mem _ wl175)
  have hnX7 : ∀ w ∈ u_ws RX7 TX7 18, w ∈ wz yX7_generationOf cX7_generationOf 4 (some .int) := fun w h => List.mem_cons_of_mem _ (inlX7 w h)
  replace hl : lv_has ls 4 [(0, .ref mself), (1, .int p0), (2, .int p1)] := hl
  have h := hF
  unfold F_X7_generationOf at h
  refine lv_aload_n (pc := 0) hx hb dX7_generationOf_0 rfl (lv_at hl 0 rfl) ?_
  refine lv_iload_n (pc := 1) hx hb dX7_generationOf_1 rfl (lv_at hl 1 rfl) ?_
  obtain ⟨r1, hc1, h⟩ := am_bind_s h
  refine kc_Vi (pc := 2) (ci := 7) ⟨hx, hb, hml, hown, hts⟩ hP hK [.int p0] (c_X7_isGeneration l D cI cJ mself msa mpasta mhelda mtexta mchosena mtimesa mrestsa mbeforea mtolda mpasts mruns mtyped mspot mfrom mreason mcause morders mkind ms mpast mheld mtext mchosen mtimes mrests mbefore mtold p0 r1 hc1) [0, 1, 2, 3, 4, 5, 6, 7, 8, 9] rfl (cwV 1 hts (gzV wl518 wl519 wl520 wl5 wl521) rfl rfl rfl ⟨rfl, hdX7_isGeneration⟩ ⟨Nat.le_of_ble_eq_true rfl, Nat.le_of_ble_eq_true rfl⟩) rfl rfl [] rfl hl.1 rfl (Nat.le_of_ble_eq_true rfl) dX7_generationOf_2 ⟨Nat.zero_le _, Nat.zero_le _⟩ ?_
  refine lv_if_eq (pc := 5) (tgt := 17) hx hb dX7_generationOf_5 (by decide) (fun cc => ?_) (fun cc => ?_)
  · replace h := am_t cc h
    refine lv_ldc (pc := 17) hx hb hown hk175 dX7_generationOf_17 ?_
    obtain e1 := am_ret1 h
    exact hret _ _ _ dX7_generationOf_19 rfl e1
  replace h := am_f cc h
  refine lv_iload_n (pc := 8) hx hb dX7_generationOf_8 rfl (lv_at hl 2 rfl) ?_
  refine lv_iconst (v := 0) (pc := 9) hx hb dX7_generationOf_9 (by decide) ?_
  refine lv_iconst (v := 5) (pc := 10) hx hb dX7_generationOf_10 (by decide) ?_
  obtain ⟨r2, hc2, h⟩ := am_bind_s h
  refine kc_Si (pc := 11) ⟨hx, hb, hml, hown, hts⟩ hP hK [.int p1, .int (0 : Int32), .int (5 : Int32)] (c_X7_in l D cI cJ p1 (0 : Int32) (5 : Int32) r2 hc2) [] rfl (cwS 3 hts (gzS wl176 wl177 wl5 wl178) rfl rfl rfl ⟨rfl, hdX7_in⟩ ⟨Nat.le_of_ble_eq_true rfl, Nat.le_of_ble_eq_true rfl⟩) [] rfl hl.1 rfl (Nat.le_of_ble_eq_true rfl) dX7_generationOf_11 ⟨Nat.zero_le _, Nat.zero_le _⟩ ?_
  refine lv_if_ne (pc := 14) (tgt := 20) hx hb dX7_generationOf_14 (by decide) (fun cc => ?_) (fun cc => ?_)
  · replace h := am_f cc h
    refine lv_bipush (v := 20) (pc := 20) hx hb dX7_generationOf_20 (by decide) ?_
    refine lv_iconst (v := 4) (pc := 22) hx hb dX7_generationOf_22 (by decide) ?_
    refine lv_iload_n (pc := 23) hx hb dX7_generationOf_23 rfl (lv_at hl 1 rfl) ?_
    refine lv_imul (pc := 24) hx hb dX7_generationOf_24 ?_
    refine lv_iadd (pc := 25) hx hb dX7_generationOf_25 ?_
    refine lv_topi (fun x3 ex3 => ?_)
    replace h := am_let_s ex3 h
    refine lv_istore_n (lv' := [(3, .int x3), (0, .ref mself), (1, .int p0), (2, .int p1)]) (pc := 26) hx hb dX7_generationOf_26 rfl hl (by decide) rfl (fun ls hl => ?_)
    refine lv_iload_n (pc := 27) hx hb dX7_generationOf_27 rfl (lv_at hl 3 rfl) ?_
    by_cases cc : p1 = (0 : Int32)
    · replace h := am_t cc h
      refine lv_tableIn (pc := 28) (tgt := 64) hx hb dX7_generationOf_28 (by rw [cc]; decide) (by rw [cc]; decide) (by rw [cc]; rfl) (by decide) ?_
      refine lv_aload_n (pc := 64) hx hb dX7_generationOf_64 rfl (lv_at hl 1 rfl) ?_
      refine va_get (pc := 65) (D := D) (ci := 7) (v := .ref msa) (C := RX7) (T := TX7) (N := 18) hx hb hts hnX7 hown hK.1 hP 0 rfl rfl 0 (Nat.le_of_ble_eq_true rfl) hk121 (fun _ h9 => h9) rfl dX7_generationOf_65 ?_
      refine lv_iload_n (pc := 68) hx hb dX7_generationOf_68 rfl (lv_at hl 0 rfl) ?_
      obtain ⟨hi, h⟩ := am_in_s h
      refine va_iald (pc := 69) hx hb hK.1 hP 1 0 rfl rfl hi dX7_generationOf_69 ?_
      obtain e1 := am_ret1 h
      exact hret _ _ _ dX7_generationOf_70 rfl e1
    replace h := am_f cc h
    have n0 := cc
    by_cases cc : p1 = (1 : Int32)
    · replace h := am_t cc h
      refine lv_tableIn (pc := 28) (tgt := 71) hx hb dX7_generationOf_28 (by rw [cc]; decide) (by rw [cc]; decide) (by rw [cc]; rfl) (by decide) ?_
      refine lv_aload_n (pc := 71) hx hb dX7_generationOf_71 rfl (lv_at hl 1 rfl) ?_
      refine va_get (pc := 72) (D := D) (ci := 7) (v := .ref msa) (C := RX7) (T := TX7) (N := 18) hx hb hts hnX7 hown hK.1 hP 0 rfl rfl 0 (Nat.le_of_ble_eq_true rfl) hk121 (fun _ h9 => h9) rfl dX7_generationOf_72 ?_
      refine lv_iload_n (pc := 75) hx hb dX7_generationOf_75 rfl (lv_at hl 0 rfl) ?_
      obtain ⟨hi, h⟩ := am_in_s h
      refine va_iald (pc := 76) hx hb hK.1 hP 1 0 rfl rfl hi dX7_generationOf_76 ?_
      refine lv_iconst (v := 1) (pc := 77) hx hb dX7_generationOf_77 (by decide) ?_
      refine lv_icmp_ne (pc := 78) (tgt := 95) hx hb dX7_generationOf_78 (by decide) (fun cc => ?_) (fun cc => ?_)
      · replace h := am_f cc h
        refine lv_ldc (pc := 95) hx hb hown hk134 dX7_generationOf_95 ?_
        obtain e1 := am_ret1 h
        exact hret _ _ _ dX7_generationOf_97 rfl e1
      replace h := am_t cc h
      refine lv_aload_n (pc := 81) hx hb dX7_generationOf_81 rfl (lv_at hl 1 rfl) ?_
      refine va_get (pc := 82) (D := D) (ci := 7) (v := .ref msa) (C := RX7) (T := TX7) (N := 18) hx hb hts hnX7 hown hK.1 hP 0 rfl rfl 0 (Nat.le_of_ble_eq_true rfl) hk121 (fun _ h9 => h9) rfl dX7_generationOf_82 ?_
      refine lv_iload_n (pc := 85) hx hb dX7_generationOf_85 rfl (lv_at hl 0 rfl) ?_
      refine lv_iconst (v := 1) (pc := 86) hx hb dX7_generationOf_86 (by decide) ?_
      refine lv_iadd (pc := 87) hx hb dX7_generationOf_87 ?_
      obtain ⟨hi, h⟩ := am_in_s h
      refine va_iald (pc := 88) hx hb hK.1 hP 1 0 rfl rfl hi dX7_generationOf_88 ?_
      refine lv_bipush (v := 100) (pc := 89) hx hb dX7_generationOf_89 (by decide) ?_
      refine lv_iadd (pc := 91) hx hb dX7_generationOf_91 ?_
      refine lv_goto (pc := 92) (tgt := 97) hx hb dX7_generationOf_92 (by decide) ?_
      obtain e1 := am_ret1 h
      exact hret _ _ _ dX7_generationOf_97 rfl e1
    replace h := am_f cc h
    have n1 := cc
    by_cases cc : p1 = (2 : Int32)
    · replace h := am_t cc h
      refine lv_tableIn (pc := 28) (tgt := 98) hx hb dX7_generationOf_28 (by rw [cc]; decide) (by rw [cc]; decide) (by rw [cc]; rfl) (by decide) ?_
      refine lv_aload_n (pc := 98) hx hb dX7_generationOf_98 rfl (lv_at hl 1 rfl) ?_
      refine va_get (pc := 99) (D := D) (ci := 7) (v := .ref msa) (C := RX7) (T := TX7) (N := 18) hx hb hts hnX7 hown hK.1 hP 0 rfl rfl 0 (Nat.le_of_ble_eq_true rfl) hk121 (fun _ h9 => h9) rfl dX7_generationOf_99 ?_
      refine lv_iload_n (pc := 102) hx hb dX7_generationOf_102 rfl (lv_at hl 0 rfl) ?_
      obtain ⟨hi, h⟩ := am_in_s h
      refine va_iald (pc := 103) hx hb hK.1 hP 1 0 rfl rfl hi dX7_generationOf_103 ?_
      refine lv_iconst (v := 1) (pc := 104) hx hb dX7_generationOf_104 (by decide) ?_
      refine lv_icmp_ne (pc := 105) (tgt := 119) hx hb dX7_generationOf_105 (by decide) (fun cc => ?_) (fun cc => ?_)
      · replace h := am_f cc h
        refine lv_ldc (pc := 119) hx hb hown hk134 dX7_generationOf_119 ?_
        obtain e1 := am_ret1 h
        exact hret _ _ _ dX7_generationOf_121 rfl e1
      replace h := am_t cc h
      refine lv_aload_n (pc := 108) hx hb dX7_generationOf_108 rfl (lv_at hl 1 rfl) ?_
      refine va_get (pc := 109) (D := D) (ci := 7) (v := .ref msa) (C := RX7) (T := TX7) (N := 18) hx hb hts hnX7 hown hK.1 hP 0 rfl rfl 0 (Nat.le_of_ble_eq_true rfl) hk121 (fun _ h9 => h9) rfl dX7_generationOf_109 ?_
      refine lv_iload_n (pc := 112) hx hb dX7_generationOf_112 rfl (lv_at hl 0 rfl) ?_
      refine lv_iconst (v := 2) (pc := 113) hx hb dX7_generationOf_113 (by decide) ?_
      refine lv_iadd (pc := 114) hx hb dX7_generationOf_114 ?_
      obtain ⟨hi, h⟩ := am_in_s h
      refine va_iald (pc := 115) hx hb hK.1 hP 1 0 rfl rfl hi dX7_generationOf_115 ?_
      refine lv_goto (pc := 116) (tgt := 121) hx hb dX7_generationOf_116 (by decide) ?_
      obtain e1 := am_ret1 h
      exact hret _ _ _ dX7_generationOf_121 rfl e1
    replace h := am_f cc h
    have n2 := cc
    by_cases cc : p1 = (3 : Int32)
    · replace h := am_t cc h
      refine lv_tableIn (pc := 28) (tgt := 122) hx hb dX7_generationOf_28 (by rw [cc]; decide) (by rw [cc]; decide) (by rw [cc]; rfl) (by decide) ?_
      refine lv_aload_n (pc := 122) hx hb dX7_generationOf_122 rfl (lv_at hl 1 rfl) ?_
      refine va_get (pc := 123) (D := D) (ci := 7) (v := .ref msa) (C := RX7) (T := TX7) (N := 18) hx hb hts hnX7 hown hK.1 hP 0 rfl rfl 0 (Nat.le_of_ble_eq_true rfl) hk121 (fun _ h9 => h9) rfl dX7_generationOf_123 ?_
      refine lv_iload_n (pc := 126) hx hb dX7_generationOf_126 rfl (lv_at hl 0 rfl) ?_
      obtain ⟨hi, h⟩ := am_in_s h
      refine va_iald (pc := 127) hx hb hK.1 hP 1 0 rfl rfl hi dX7_generationOf_127 ?_
      refine lv_iconst (v := 2) (pc := 128) hx hb dX7_generationOf_128 (by decide) ?_
      refine lv_icmp_ne (pc := 129) (tgt := 143) hx hb dX7_generationOf_129 (by decide) (fun cc => ?_) (fun cc => ?_)
      · replace h := am_f cc h
        refine lv_ldc (pc := 143) hx hb hown hk134 dX7_generationOf_143 ?_
        obtain e1 := am_ret1 h
        exact hret _ _ _ dX7_generationOf_145 rfl e1
      replace h := am_t cc h
      refine lv_aload_n (pc := 132) hx hb dX7_generationOf_132 rfl (lv_at hl 1 rfl) ?_
      refine va_get (pc := 133) (D := D) (ci := 7) (v := .ref msa) (C := RX7) (T := TX7) (N := 18) hx hb hts hnX7 hown hK.1 hP 0 rfl rfl 0 (Nat.le_of_ble_eq_true rfl) hk121 (fun _ h9 => h9) rfl dX7_generationOf_133 ?_
      refine lv_iload_n (pc := 136) hx hb dX7_generationOf_136 rfl (lv_at hl 0 rfl) ?_
      refine lv_iconst (v := 3) (pc := 137) hx hb dX7_generationOf_137 (by decide) ?_
      refine lv_iadd (pc := 138) hx hb dX7_generationOf_138 ?_
      obtain ⟨hi, h⟩ := am_in_s h
      refine va_iald (pc := 139) hx hb hK.1 hP 1 0 rfl rfl hi dX7_generationOf_139 ?_
      refine lv_goto (pc := 140) (tgt := 145) hx hb dX7_generationOf_140 (by decide) ?_
      obtain e1 := am_ret1 h
      exact hret _ _ _ dX7_generationOf_145 rfl e1
    replace h := am_f cc h
    have n3 := cc
    by_cases cc : p1 = (4 : Int32)
    · replace h := am_t cc h
      refine lv_tableIn (pc := 28) (tgt := 146) hx hb dX7_generationOf_28 (by rw [cc]; decide) (by rw [cc]; decide) (by rw [cc]; rfl) (by decide) ?_
      refine lv_aload_n (pc := 146) hx hb dX7_generationOf_146 rfl (lv_at hl 1 rfl) ?_
      refine lv_iload_n (pc := 147) hx hb dX7_generationOf_147 rfl (lv_at hl 2 rfl) ?_
      obtain ⟨r4, hc4, h⟩ := am_bind_s h
      refine kc_Vi (pc := 148) (ci := 7) ⟨hx, hb, hml, hown, hts⟩ hP hK [.int p0] (c_X7_alive l D cI cJ mself msa mpasta mhelda mtexta mchosena mtimesa mrestsa mbeforea mtolda mpasts mruns mtyped mspot mfrom mreason mcause morders mkind ms mpast mheld mtext mchosen mtimes mrests mbefore mtold p0 r4 hc4) [0, 1, 2, 3, 4, 5, 6, 7, 8, 9] rfl (cwV 1 hts (gzV wl522 wl523 wl524 wl5 wl525) rfl rfl rfl ⟨rfl, hdX7_alive⟩ ⟨Nat.le_of_ble_eq_true rfl, Nat.le_of_ble_eq_true rfl⟩) rfl rfl [] rfl hl.1 rfl (Nat.le_of_ble_eq_true rfl) dX7_generationOf_148 ⟨Nat.zero_le _, Nat.zero_le _⟩ ?_
      obtain e1 := am_ret1 h
      exact hret _ _ _ dX7_generationOf_151 rfl e1
    replace h := am_f cc h
    have n4 := cc
    refine lv_tableOut (pc := 28) (tgt := 152) hx hb dX7_generationOf_28 (am_out_0_4 n0 n1 n2 n3 n4) (by decide) ?_
    refine lv_aload_n (pc := 152) hx hb dX7_generationOf_152 rfl (lv_at hl 1 rfl) ?_
    refine lv_iload_n (pc := 153) hx hb dX7_generationOf_153 rfl (lv_at hl 2 rfl) ?_
    refine lv_sipush (v := 340) (pc := 154) hx hb dX7_generationOf_154 (by decide) ?_
    obtain ⟨r5, hc5, h⟩ := am_bind_s h
    refine kc_Vi (pc := 157) (ci := 7) ⟨hx, hb, hml, hown, hts⟩ hP hK [.int p0, .int (340 : Int32)] (c_X7_unlike l D cI cJ mself msa mpasta mhelda mtexta mchosena mtimesa mrestsa mbeforea mtolda mpasts mruns mtyped mspot mfrom mreason mcause morders mkind ms mpast mheld mtext mchosen mtimes mrests mbefore mtold p0 (340 : Int32) r5 hc5) [0, 1, 2, 3, 4, 5, 6, 7, 8, 9] rfl (cwV 2 hts (gzV wl414 wl415 wl416 wl5 wl417) rfl rfl rfl ⟨rfl, hdX7_unlike⟩ ⟨Nat.le_of_ble_eq_true rfl, Nat.le_of_ble_eq_true rfl⟩) rfl rfl [] rfl hl.1 rfl (Nat.le_of_ble_eq_true rfl) dX7_generationOf_157 ⟨Nat.zero_le _, Nat.zero_le _⟩ ?_
    obtain e1 := am_ret1 h
    exact hret _ _ _ dX7_generationOf_160 rfl e1
  replace h := am_t cc h
  refine lv_ldc (pc := 17) hx hb hown hk175 dX7_generationOf_17 ?_
  obtain e1 := am_ret1 h
  exact hret _ _ _ dX7_generationOf_19 rfl e1
theorem hdX7_ancestor : yX7_ancestor.cls ≠ "java/lang/invoke/MethodHandle" ∧ yX7_ancestor.cls ≠ "java/lang/invoke/VarHandle" ∧ (parseMethodDescriptor yX7_ancestor.desc).map (fun d => d.parameters.length) = some 3 := by decide +kernel
abbrev rmX7_ancestor : Room := { frames := 2, cells := 0, slots := 0, locals := 44 }
set_option maxHeartbeats 20000000 in
set_option maxRecDepth 100000 in
theorem c_X7_ancestor (l : Launch) (D : va_G) (cI cJ : ClassId) (mself : Nat) (msa : Nat) (mpasta : Nat) (mhelda : Nat) (mtexta : Nat) (mchosena : Nat) (mtimesa : Nat) (mrestsa : Nat) (mbeforea : Nat) (mtolda : Nat) (mpasts : Int32) (mruns : Int32) (mtyped : Int32) (mspot : Int32) (mfrom : Int32) (mreason : Int32) (mcause : Int32) (morders : Int32) (mkind : Int32) (ms : Nat → Int32) (mpast : Nat → Int32) (mheld : Nat → Int32) (mtext : Nat → Int32) (mchosen : Nat → Int32) (mtimes : Nat → Int32) (mrests : Nat → Int64) (mbefore : Nat → Int32) (mtold : Nat → Int32) (p0 : Int32) (p1 : Int32) (p2 : Int32) (r0 : Int32) (hF : F_X7_ancestor ms p0 p1 p2 = some r0) : Met l yX7_ancestor (wz yX7_ancestor cX7_ancestor 5 (some .int)) rmX7_ancestor (kPc D cI cJ [(mself, .inr (7, [.ref msa, .ref mpasta, .ref mhelda, .int mpasts, .int mruns, .ref mtexta, .int mtyped, .ref mchosena, .ref mtimesa, .ref mrestsa, .ref mbeforea, .int mspot, .int mfrom, .int mreason, .int mcause, .int morders, .int mkind, .ref mtolda])), (msa, .inl (cI, 580, .inl ms)), (mpasta, .inl (cI, 2320, .inl mpast)), (mhelda, .inl (cI, 580, .inl mheld)), (mtexta, .inl (cI, 60, .inl mtext)), (mchosena, .inl (cI, 12, .inl mchosen)), (mtimesa, .inl (cI, 12, .inl mtimes)), (mrestsa, .inl (cJ, 12, .inr (.inl mrests))), (mbeforea, .inl (cI, 12, .inl mbefore)), (mtolda, .inl (cI, 2, .inl mtold))] [.ref mself, .int p0, .int p1, .int p2]) (vp_Si (fun r => r = r0)) 0 0 (fun _ => False) := by
  refine kM_ri cX7_ancestor 5 .int (by decide +kernel) rfl rfl (Nat.le_of_ble_eq_true rfl) ⟨rfl, rfl⟩ ?_
  intro p e s m args below meth c Q ls hx hb hml hown hts hP hK hl hret
  have hk175 := hts _ (List.mem_cons_of_mem _ wl175)
  replace hl : lv_has ls 5 [(0, .ref mself), (1, .int p0), (2, .int p1), (3, .int p2)] := hl
  have h := hF
  unfold F_X7_ancestor at h
  refine lv_aload_n (pc := 0) hx hb dX7_ancestor_0 rfl (lv_at hl 0 rfl) ?_
  refine lv_iload_n (pc := 1) hx hb dX7_ancestor_1 rfl (lv_at hl 1 rfl) ?_
  obtain ⟨r1, hc1, h⟩ := am_bind_s h
  refine kc_Vi (pc := 2) (ci := 7) ⟨hx, hb, hml, hown, hts⟩ hP hK [.int p0] (c_X7_isParticle l D cI cJ mself msa mpasta mhelda mtexta mchosena mtimesa mrestsa mbeforea mtolda mpasts mruns mtyped mspot mfrom mreason mcause morders mkind ms mpast mheld mtext mchosen mtimes mrests mbefore mtold p0 r1 hc1) [0, 1, 2, 3, 4, 5, 6, 7, 8, 9] rfl (cwV 1 hts (gzV wl223 wl224 wl225 wl5 wl226) rfl rfl rfl ⟨rfl, hdX7_isParticle⟩ ⟨Nat.le_of_ble_eq_true rfl, Nat.le_of_ble_eq_true rfl⟩) rfl rfl [] rfl hl.1 rfl (Nat.le_of_ble_eq_true rfl) dX7_ancestor_2 ⟨Nat.zero_le _, Nat.zero_le _⟩ ?_
  refine lv_if_eq (pc := 5) (tgt := 25) hx hb dX7_ancestor_5 (by decide) (fun cc => ?_) (fun cc => ?_)
  · replace h := am_t cc h
    refine lv_ldc (pc := 25) hx hb hown hk175 dX7_ancestor_25 ?_
    obtain e1 := am_ret1 h
    exact hret _ _ _ dX7_ancestor_27 rfl e1
  replace h := am_f cc h
  refine lv_aload_n (pc := 8) hx hb dX7_ancestor_8 rfl (lv_at hl 0 rfl) ?_
  refine lv_iload_n (pc := 9) hx hb dX7_ancestor_9 rfl (lv_at hl 2 rfl) ?_
  obtain ⟨r2, hc2, h⟩ := am_bind_s h
  refine kc_Vi (pc := 10) (ci := 7) ⟨hx, hb, hml, hown, hts⟩ hP hK [.int p1] (c_X7_isGeneration l D cI cJ mself msa mpasta mhelda mtexta mchosena mtimesa mrestsa mbeforea mtolda mpasts mruns mtyped mspot mfrom mreason mcause morders mkind ms mpast mheld mtext mchosen mtimes mrests mbefore mtold p1 r2 hc2) [0, 1, 2, 3, 4, 5, 6, 7, 8, 9] rfl (cwV 1 hts (gzV wl518 wl519 wl520 wl5 wl521) rfl rfl rfl ⟨rfl, hdX7_isGeneration⟩ ⟨Nat.le_of_ble_eq_true rfl, Nat.le_of_ble_eq_true rfl⟩) rfl rfl [] rfl hl.1 rfl (Nat.le_of_ble_eq_true rfl) dX7_ancestor_10 ⟨Nat.zero_le _, Nat.zero_le _⟩ ?_
  refine lv_if_eq (pc := 13) (tgt := 25) hx hb dX7_ancestor_13 (by decide) (fun cc => ?_) (fun cc => ?_)
  · replace h := am_t cc h
    refine lv_ldc (pc := 25) hx hb hown hk175 dX7_ancestor_25 ?_
    obtain e1 := am_ret1 h
    exact hret _ _ _ dX7_ancestor_27 rfl e1
  replace h := am_f cc h
  refine lv_iload_n (pc := 16) hx hb dX7_ancestor_16 rfl (lv_at hl 3 rfl) ?_
  refine lv_iconst (v := 0) (pc := 17) hx hb dX7_ancestor_17 (by decide) ?_
  refine lv_iconst (v := 1) (pc := 18) hx hb dX7_ancestor_18 (by decide) ?_
  obtain ⟨r3, hc3, h⟩ := am_bind_s h
  refine kc_Si (pc := 19) ⟨hx, hb, hml, hown, hts⟩ hP hK [.int p2, .int (0 : Int32), .int (1 : Int32)] (c_X7_in l D cI cJ p2 (0 : Int32) (1 : Int32) r3 hc3) [] rfl (cwS 3 hts (gzS wl176 wl177 wl5 wl178) rfl rfl rfl ⟨rfl, hdX7_in⟩ ⟨Nat.le_of_ble_eq_true rfl, Nat.le_of_ble_eq_true rfl⟩) [] rfl hl.1 rfl (Nat.le_of_ble_eq_true rfl) dX7_ancestor_19 ⟨Nat.zero_le _, Nat.zero_le _⟩ ?_
  refine lv_if_ne (pc := 22) (tgt := 28) hx hb dX7_ancestor_22 (by decide) (fun cc => ?_) (fun cc => ?_)
  · replace h := am_f cc h
    refine lv_aload_n (pc := 28) hx hb dX7_ancestor_28 rfl (lv_at hl 0 rfl) ?_
    refine lv_iload_n (pc := 29) hx hb dX7_ancestor_29 rfl (lv_at hl 1 rfl) ?_
    refine lv_iload_n (pc := 30) hx hb dX7_ancestor_30 rfl (lv_at hl 2 rfl) ?_
    obtain ⟨r4, hc4, h⟩ := am_bind_s h
    refine kc_Vi (pc := 31) (ci := 7) ⟨hx, hb, hml, hown, hts⟩ hP hK [.int p0, .int p1] (c_X7_up l D cI cJ mself msa mpasta mhelda mtexta mchosena mtimesa mrestsa mbeforea mtolda mpasts mruns mtyped mspot mfrom mreason mcause morders mkind ms mpast mheld mtext mchosen mtimes mrests mbefore mtold p0 p1 r4 hc4) [0, 1, 2, 3, 4, 5, 6, 7, 8, 9] rfl (cwV 2 hts (gzV wl526 wl527 wl528 wl5 wl529) rfl rfl rfl ⟨rfl, hdX7_up⟩ ⟨Nat.le_of_ble_eq_true rfl, Nat.le_of_ble_eq_true rfl⟩) rfl rfl [] rfl hl.1 rfl (Nat.le_of_ble_eq_true rfl) dX7_ancestor_31 ⟨Nat.zero_le _, Nat.zero_le _⟩ ?_
    refine lv_istore (lv' := [(4, .int r4), (0, .ref mself), (1, .int p0), (2, .int p1), (3, .int p2)]) (pc := 34) hx hb dX7_ancestor_34 hl (by decide) rfl (fun ls hl => ?_)
    refine lv_iload_n (pc := 36) hx hb dX7_ancestor_36 rfl (lv_at hl 4 rfl) ?_
    refine lv_if_ne (pc := 37) (tgt := 45) hx hb dX7_ancestor_37 (by decide) (fun cc => ?_) (fun cc => ?_)
    · replace h := am_f cc h
      refine lv_aload_n (pc := 45) hx hb dX7_ancestor_45 rfl (lv_at hl 1 rfl) ?_
      refine lv_iload_n (pc := 46) hx hb dX7_ancestor_46 rfl (lv_at hl 3 rfl) ?_
      refine lv_iload (pc := 47) hx hb dX7_ancestor_47 (lv_at hl 0 rfl) ?_
      obtain ⟨r5, hc5, h⟩ := am_bind_s h
      refine kc_Vi (pc := 49) (ci := 7) ⟨hx, hb, hml, hown, hts⟩ hP hK [.int p1, .int r4] (c_X7_placeIn l D cI cJ mself msa mpasta mhelda mtexta mchosena mtimesa mrestsa mbeforea mtolda mpasts mruns mtyped mspot mfrom mreason mcause morders mkind ms mpast mheld mtext mchosen mtimes mrests mbefore mtold p1 r4 r5 hc5) [0, 1, 2, 3, 4, 5, 6, 7, 8, 9] rfl (cwV 2 hts (gzV wl280 wl281 wl282 wl5 wl283) rfl rfl rfl ⟨rfl, hdX7_placeIn⟩ ⟨Nat.le_of_ble_eq_true rfl, Nat.le_of_ble_eq_true rfl⟩) rfl rfl [] rfl hl.1 rfl (Nat.le_of_ble_eq_true rfl) dX7_ancestor_49 ⟨Nat.zero_le _, Nat.zero_le _⟩ ?_
      obtain e1 := am_ret1 h
      exact hret _ _ _ dX7_ancestor_52 rfl e1
    replace h := am_t cc h
    refine lv_iload (pc := 40) hx hb dX7_ancestor_40 (lv_at hl 0 rfl) ?_
    refine lv_goto (pc := 42) (tgt := 52) hx hb dX7_ancestor_42 (by decide) ?_
    obtain e1 := am_ret1 h
    exact hret _ _ _ dX7_ancestor_52 rfl e1
  replace h := am_t cc h
  refine lv_ldc (pc := 25) hx hb hown hk175 dX7_ancestor_25 ?_
  obtain e1 := am_ret1 h
  exact hret _ _ _ dX7_ancestor_27 rfl e1
theorem hdX7_meeting : yX7_meeting.cls ≠ "java/lang/invoke/MethodHandle" ∧ yX7_meeting.cls ≠ "java/lang/invoke/VarHandle" ∧ (parseMethodDescriptor yX7_meeting.desc).map (fun d => d.parameters.length) = some 3 := by decide +kernel
abbrev rmX7_meeting : Room := { frames := 2, cells := 0, slots := 0, locals := 44 }
set_option maxHeartbeats 20000000 in
set_option maxRecDepth 100000 in
theorem c_X7_meeting (l : Launch) (D : va_G) (cI cJ : ClassId) (mself : Nat) (msa : Nat) (mpasta : Nat) (mhelda : Nat) (mtexta : Nat) (mchosena : Nat) (mtimesa : Nat) (mrestsa : Nat) (mbeforea : Nat) (mtolda : Nat) (mpasts : Int32) (mruns : Int32) (mtyped : Int32) (mspot : Int32) (mfrom : Int32) (mreason : Int32) (mcause : Int32) (morders : Int32) (mkind : Int32) (ms : Nat → Int32) (mpast : Nat → Int32) (mheld : Nat → Int32) (mtext : Nat → Int32) (mchosen : Nat → Int32) (mtimes : Nat → Int32) (mrests : Nat → Int64) (mbefore : Nat → Int32) (mtold : Nat → Int32) (p0 : Int32) (p1 : Int32) (p2 : Int32) (r0 : Int32) (hF : F_X7_meeting ms p0 p1 p2 = some r0) : Met l yX7_meeting (wz yX7_meeting cX7_meeting 7 (some .int)) rmX7_meeting (kPc D cI cJ [(mself, .inr (7, [.ref msa, .ref mpasta, .ref mhelda, .int mpasts, .int mruns, .ref mtexta, .int mtyped, .ref mchosena, .ref mtimesa, .ref mrestsa, .ref mbeforea, .int mspot, .int mfrom, .int mreason, .int mcause, .int morders, .int mkind, .ref mtolda])), (msa, .inl (cI, 580, .inl ms)), (mpasta, .inl (cI, 2320, .inl mpast)), (mhelda, .inl (cI, 580, .inl mheld)), (mtexta, .inl (cI, 60, .inl mtext)), (mchosena, .inl (cI, 12, .inl mchosen)), (mtimesa, .inl (cI, 12, .inl mtimes)), (mrestsa, .inl (cJ, 12, .inr (.inl mrests))), (mbeforea, .inl (cI, 12, .inl mbefore)), (mtolda, .inl (cI, 2, .inl mtold))] [.ref mself, .int p0, .int p1, .int p2]) (vp_Si (fun r => r = r0)) 0 0 (fun _ => False) := by
  refine kM_ri cX7_meeting 7 .int (by decide +kernel) rfl rfl (Nat.le_of_ble_eq_true rfl) ⟨rfl, rfl⟩ ?_
  intro p e s m args below meth c Q ls hx hb hml hown hts hP hK hl hret
  have hk121 := hts _ (List.mem_cons_of_mem _ wl121)
  have hk134 := hts _ (List.mem_cons_of_mem _ wl134)
  have hnX7 : ∀ w ∈ u_ws RX7 TX7 18, w ∈ wz yX7_meeting cX7_meeting 7 (some .int) := fun w h => List.mem_cons_of_mem _ (inlX7 w h)
  replace hl : lv_has ls 7 [(0, .ref mself), (1, .int p0), (2, .int p1), (3, .int p2)] := hl
  have h := hF
  unfold F_X7_meeting at h
  refine lv_aload_n (pc := 0) hx hb dX7_meeting_0 rfl (lv_at hl 0 rfl) ?_
  obtain ⟨r1, hc1, h⟩ := am_bind_s h
  refine kc_Vi (pc := 1) (ci := 7) ⟨hx, hb, hml, hown, hts⟩ hP hK [] (c_X7_latest l D cI cJ mself msa mpasta mhelda mtexta mchosena mtimesa mrestsa mbeforea mtolda mpasts mruns mtyped mspot mfrom mreason mcause morders mkind ms mpast mheld mtext mchosen mtimes mrests mbefore mtold r1 hc1) [0, 1, 2, 3, 4, 5, 6, 7, 8, 9] rfl (cwV 0 hts (gzV wl379 wl380 wl381 wl5 wl382) rfl rfl rfl ⟨rfl, hdX7_latest⟩ ⟨Nat.le_of_ble_eq_true rfl, Nat.le_of_ble_eq_true rfl⟩) rfl rfl [] rfl hl.1 rfl (Nat.le_of_ble_eq_true rfl) dX7_meeting_1 ⟨Nat.zero_le _, Nat.zero_le _⟩ ?_
  refine lv_istore (lv' := [(4, .int r1), (0, .ref mself), (1, .int p0), (2, .int p1), (3, .int p2)]) (pc := 4) hx hb dX7_meeting_4 hl (by decide) rfl (fun ls hl => ?_)
  refine am_join0_s (∀ (ls : Array Slot), lv_has ls 7 [] → W p l e rmX7_meeting s m args below meth c s.heap [] 0 0 Q (F0 m 103 ls [])) h (fun h ls hl => ?_) (fun K2 hK2 h => ?_)
  · refine lv_ldc (pc := 103) hx hb hown hk134 dX7_meeting_103 ?_
    obtain e1 := am_ret1 h
    exact hret _ _ _ dX7_meeting_105 rfl e1
  refine am_loop1_s (fun (x3 : Int32) => ∀ (ls : Array Slot), lv_has ls 7 [(0, .ref mself), (1, .int p0), (2, .int p1), (3, .int p2), (4, .int x3)] → W p l e rmX7_meeting s m args below meth c s.heap [] 0 0 Q (F0 m 6 ls [])) (fun rec4 ihrec4 x3 h ls hl => ?_) _ _ h ls (lv_sub hl [1, 2, 3, 4, 0] rfl)
  unfold F_X7_meeting_B6 at h
  refine lv_iload (pc := 6) hx hb dX7_meeting_6 (lv_at hl 4 rfl) ?_
  refine lv_if_lt (pc := 8) (tgt := 103) hx hb dX7_meeting_8 (by decide) (fun cc => ?_) (fun cc => ?_)
  · replace h := am_t cc h
    exact hK2 h ls (lv_sub hl [] rfl)
  replace h := am_f cc h
  refine lv_aload_n (pc := 11) hx hb dX7_meeting_11 rfl (lv_at hl 0 rfl) ?_
  refine lv_iload_n (pc := 12) hx hb dX7_meeting_12 rfl (lv_at hl 1 rfl) ?_
  refine lv_iload (pc := 13) hx hb dX7_meeting_13 (lv_at hl 4 rfl) ?_
  obtain ⟨r5, hc5, h⟩ := am_bind_s h
  refine kc_Vi (pc := 15) (ci := 7) ⟨hx, hb, hml, hown, hts⟩ hP hK [.int p0, .int x3] (c_X7_up l D cI cJ mself msa mpasta mhelda mtexta mchosena mtimesa mrestsa mbeforea mtolda mpasts mruns mtyped mspot mfrom mreason mcause morders mkind ms mpast mheld mtext mchosen mtimes mrests mbefore mtold p0 x3 r5 hc5) [0, 1, 2, 3, 4, 5, 6, 7, 8, 9] rfl (cwV 2 hts (gzV wl526 wl527 wl528 wl5 wl529) rfl rfl rfl ⟨rfl, hdX7_up⟩ ⟨Nat.le_of_ble_eq_true rfl, Nat.le_of_ble_eq_true rfl⟩) rfl rfl [] rfl hl.1 rfl (Nat.le_of_ble_eq_true rfl) dX7_meeting_15 ⟨Nat.zero_le _, Nat.zero_le _⟩ ?_
  refine lv_aload_n (pc := 18) hx hb dX7_meeting_18 rfl (lv_at hl 0 rfl) ?_
  refine lv_iload_n (pc := 19) hx hb dX7_meeting_19 rfl (lv_at hl 2 rfl) ?_
  refine lv_iload (pc := 20) hx hb dX7_meeting_20 (lv_at hl 4 rfl) ?_
  obtain ⟨r6, hc6, h⟩ := am_bind_s h
  refine kc_Vi (pc := 22) (ci := 7) ⟨hx, hb, hml, hown, hts⟩ hP hK [.int p1, .int x3] (c_X7_up l D cI cJ mself msa mpasta mhelda mtexta mchosena mtimesa mrestsa mbeforea mtolda mpasts mruns mtyped mspot mfrom mreason mcause morders mkind ms mpast mheld mtext mchosen mtimes mrests mbefore mtold p1 x3 r6 hc6) [0, 1, 2, 3, 4, 5, 6, 7, 8, 9] rfl (cwV 2 hts (gzV wl526 wl527 wl528 wl5 wl529) rfl rfl rfl ⟨rfl, hdX7_up⟩ ⟨Nat.le_of_ble_eq_true rfl, Nat.le_of_ble_eq_true rfl⟩) rfl rfl [.int r5] rfl hl.1 rfl (Nat.le_of_ble_eq_true rfl) dX7_meeting_22 ⟨Nat.zero_le _, Nat.zero_le _⟩ ?_
  refine am_join1_s (fun (j7 : Int32) => ∀ (ls : Array Slot), lv_has ls 7 [(0, .ref mself), (1, .int p0), (2, .int p1), (3, .int p2), (4, .int x3)] → W p l e rmX7_meeting s m args below meth c s.heap [] 0 0 Q (F0 m 33 ls [.int j7])) h (fun j7 h ls hl => ?_) (fun J8 hJ8 h => ?_)
  · refine lv_istore (lv' := [(5, .int j7), (0, .ref mself), (1, .int p0), (2, .int p1), (3, .int p2), (4, .int x3)]) (pc := 33) hx hb dX7_meeting_33 hl (by decide) rfl (fun ls hl => ?_)
    refine lv_iconst (v := 0) (pc := 35) hx hb dX7_meeting_35 (by decide) ?_
    refine lv_istore (lv' := [(6, .int (0 : Int32)), (5, .int j7), (0, .ref mself), (1, .int p0), (2, .int p1), (3, .int p2), (4, .int x3)]) (pc := 36) hx hb dX7_meeting_36 hl (by decide) rfl (fun ls hl => ?_)
    refine am_join1_s (fun (x9 : Int32) => ∀ (ls : Array Slot), lv_has ls 7 [(0, .ref mself), (1, .int p0), (2, .int p1), (3, .int p2), (4, .int x3), (5, .int x9)] → W p l e rmX7_meeting s m args below meth c s.heap [] 0 0 Q (F0 m 89 ls [])) h (fun x9 h ls hl => ?_) (fun K10 hK10 h => ?_)
    · refine lv_iload (pc := 89) hx hb dX7_meeting_89 (lv_at hl 5 rfl) ?_
      refine lv_if_eq (pc := 91) (tgt := 97) hx hb dX7_meeting_91 (by decide) (fun cc => ?_) (fun cc => ?_)
      · replace h := am_t cc h
        obtain ⟨x11, ex11⟩ : ∃ y : Int32, y = (x3 + (-1 : Int32)) := ⟨_, rfl⟩
        replace h := am_let_s ex11 h
        refine lv_iinc (pc := 97) (v := x11) (lv' := [(4, .int x11), (0, .ref mself), (1, .int p0), (2, .int p1), (3, .int p2), (5, .int x9)]) hx hb dX7_meeting_97 hl (k := 4) rfl (by rw [ex11]; rfl) (by decide) rfl (fun ls hl => ?_)
        refine lv_goto (pc := 100) (tgt := 6) hx hb dX7_meeting_100 (by decide) ?_
        exact ihrec4 _ h ls (lv_sub hl [1, 2, 3, 4, 0] rfl)
      replace h := am_f cc h
      refine lv_iload (pc := 94) hx hb dX7_meeting_94 (lv_at hl 4 rfl) ?_
      obtain e1 := am_ret1 h
      exact hret _ _ _ dX7_meeting_96 rfl e1
    refine am_loop2_s (fun (x12 : Int32) (x13 : Int32) => ∀ (ls : Array Slot), lv_has ls 7 [(0, .ref mself), (1, .int p0), (2, .int p1), (3, .int p2), (4, .int x3), (5, .int x12), (6, .int x13)] → W p l e rmX7_meeting s m args below meth c s.heap [] 0 0 Q (F0 m 38 ls [])) (fun rec14 ihrec14 x12 x13 h ls hl => ?_) _ _ _ h ls (lv_sub hl [2, 3, 4, 5, 6, 1, 0] rfl)
    unfold F_X7_meeting_B38 at h
    refine lv_iload (pc := 38) hx hb dX7_meeting_38 (lv_at hl 6 rfl) ?_
    refine lv_aload_n (pc := 40) hx hb dX7_meeting_40 rfl (lv_at hl 0 rfl) ?_
    refine va_get (pc := 41) (D := D) (ci := 7) (v := .ref msa) (C := RX7) (T := TX7) (N := 18) hx hb hts hnX7 hown hK.1 hP 0 rfl rfl 0 (Nat.le_of_ble_eq_true rfl) hk121 (fun _ h9 => h9) rfl dX7_meeting_41 ?_
    refine lv_iconst (v := 0) (pc := 44) hx hb dX7_meeting_44 (by decide) ?_
    refine va_iald (pc := 45) hx hb hK.1 hP 1 0 rfl rfl (vp_in_nI (n := 0) (N := 580) (by decide) (by decide)) dX7_meeting_45 ?_
    refine lv_icmp_ge (pc := 46) (tgt := 89) hx hb dX7_meeting_46 (by decide) (fun cc => ?_) (fun cc => ?_)
    · replace h := am_t cc h
      exact hK10 _ h ls (lv_sub hl [0, 1, 2, 3, 4, 5] rfl)
    replace h := am_f cc h
    refine lv_iload_n (pc := 49) hx hb dX7_meeting_49 rfl (lv_at hl 3 rfl) ?_
    refine lv_if_eq (pc := 50) (tgt := 89) hx hb dX7_meeting_50 (by decide) (fun cc => ?_) (fun cc => ?_)
    · replace h := am_t cc h
      exact hK10 _ h ls (lv_sub hl [0, 1, 2, 3, 4, 5] rfl)
    replace h := am_f cc h
    refine lv_iload (pc := 53) hx hb dX7_meeting_53 (lv_at hl 5 rfl) ?_
    refine lv_if_eq (pc := 55) (tgt := 80) hx hb dX7_meeting_55 (by decide) (fun cc => ?_) (fun cc => ?_)
    · replace h := am_t cc h
      refine lv_iconst (v := 0) (pc := 80) hx hb dX7_meeting_80 (by decide) ?_
      refine lv_istore (lv' := [(5, .int (0 : Int32)), (0, .ref mself), (1, .int p0), (2, .int p1), (3, .int p2), (4, .int x3), (6, .int x13)]) (pc := 81) hx hb dX7_meeting_81 hl (by decide) rfl (fun ls hl => ?_)
      obtain ⟨x15, ex15⟩ : ∃ y : Int32, y = (x13 + (1 : Int32)) := ⟨_, rfl⟩
      replace h := am_let_s ex15 h
      refine lv_iinc (pc := 83) (v := x15) (lv' := [(6, .int x15), (5, .int (0 : Int32)), (0, .ref mself), (1, .int p0), (2, .int p1), (3, .int p2), (4, .int x3)]) hx hb dX7_meeting_83 hl (k := 6) rfl (by rw [ex15]; rfl) (by decide) rfl (fun ls hl => ?_)
      refine lv_goto (pc := 86) (tgt := 38) hx hb dX7_meeting_86 (by decide) ?_
      exact ihrec14 _ _ h ls (lv_sub hl [2, 3, 4, 5, 6, 1, 0] rfl)
    replace h := am_f cc h
    refine lv_aload_n (pc := 58) hx hb dX7_meeting_58 rfl (lv_at hl 0 rfl) ?_
    refine lv_iload (pc := 59) hx hb dX7_meeting_59 (lv_at hl 6 rfl) ?_
    refine lv_iload (pc := 61) hx hb dX7_meeting_61 (lv_at hl 4 rfl) ?_
    obtain ⟨r16, hc16, h⟩ := am_bind_s h
    refine kc_Vi (pc := 63) (ci := 7) ⟨hx, hb, hml, hown, hts⟩ hP hK [.int x13, .int x3] (c_X7_up l D cI cJ mself msa mpasta mhelda mtexta mchosena mtimesa mrestsa mbeforea mtolda mpasts mruns mtyped mspot mfrom mreason mcause morders mkind ms mpast mheld mtext mchosen mtimes mrests mbefore mtold x13 x3 r16 hc16) [0, 1, 2, 3, 4, 5, 6, 7, 8, 9] rfl (cwV 2 hts (gzV wl526 wl527 wl528 wl5 wl529) rfl rfl rfl ⟨rfl, hdX7_up⟩ ⟨Nat.le_of_ble_eq_true rfl, Nat.le_of_ble_eq_true rfl⟩) rfl rfl [] rfl hl.1 rfl (Nat.le_of_ble_eq_true rfl) dX7_meeting_63 ⟨Nat.zero_le _, Nat.zero_le _⟩ ?_
    refine lv_aload_n (pc := 66) hx hb dX7_meeting_66 rfl (lv_at hl 0 rfl) ?_
    refine lv_iload_n (pc := 67) hx hb dX7_meeting_67 rfl (lv_at hl 1 rfl) ?_
    refine lv_iload (pc := 68) hx hb dX7_meeting_68 (lv_at hl 4 rfl) ?_
    obtain ⟨r17, hc17, h⟩ := am_bind_s h
    refine kc_Vi (pc := 70) (ci := 7) ⟨hx, hb, hml, hown, hts⟩ hP hK [.int p0, .int x3] (c_X7_up l D cI cJ mself msa mpasta mhelda mtexta mchosena mtimesa mrestsa mbeforea mtolda mpasts mruns mtyped mspot mfrom mreason mcause morders mkind ms mpast mheld mtext mchosen mtimes mrests mbefore mtold p0 x3 r17 hc17) [0, 1, 2, 3, 4, 5, 6, 7, 8, 9] rfl (cwV 2 hts (gzV wl526 wl527 wl528 wl5 wl529) rfl rfl rfl ⟨rfl, hdX7_up⟩ ⟨Nat.le_of_ble_eq_true rfl, Nat.le_of_ble_eq_true rfl⟩) rfl rfl [.int r16] rfl hl.1 rfl (Nat.le_of_ble_eq_true rfl) dX7_meeting_70 ⟨Nat.zero_le _, Nat.zero_le _⟩ ?_
    refine lv_icmp_ne (pc := 73) (tgt := 80) hx hb dX7_meeting_73 (by decide) (fun cc => ?_) (fun cc => ?_)
    · replace h := am_f cc h
      refine lv_iconst (v := 0) (pc := 80) hx hb dX7_meeting_80 (by decide) ?_
      refine lv_istore (lv' := [(5, .int (0 : Int32)), (0, .ref mself), (1, .int p0), (2, .int p1), (3, .int p2), (4, .int x3), (6, .int x13)]) (pc := 81) hx hb dX7_meeting_81 hl (by decide) rfl (fun ls hl => ?_)
      obtain ⟨x18, ex18⟩ : ∃ y : Int32, y = (x13 + (1 : Int32)) := ⟨_, rfl⟩
      replace h := am_let_s ex18 h
      refine lv_iinc (pc := 83) (v := x18) (lv' := [(6, .int x18), (5, .int (0 : Int32)), (0, .ref mself), (1, .int p0), (2, .int p1), (3, .int p2), (4, .int x3)]) hx hb dX7_meeting_83 hl (k := 6) rfl (by rw [ex18]; rfl) (by decide) rfl (fun ls hl => ?_)
      refine lv_goto (pc := 86) (tgt := 38) hx hb dX7_meeting_86 (by decide) ?_
      exact ihrec14 _ _ h ls (lv_sub hl [2, 3, 4, 5, 6, 1, 0] rfl)
    replace h := am_t cc h
    refine lv_iconst (v := 1) (pc := 76) hx hb dX7_meeting_76 (by decide) ?_
    refine lv_goto (pc := 77) (tgt := 81) hx hb dX7_meeting_77 (by decide) ?_
    refine lv_istore (lv' := [(5, .int (1 : Int32)), (0, .ref mself), (1, .int p0), (2, .int p1), (3, .int p2), (4, .int x3), (6, .int x13)]) (pc := 81) hx hb dX7_meeting_81 hl (by decide) rfl (fun ls hl => ?_)
    obtain ⟨x19, ex19⟩ : ∃ y : Int32, y = (x13 + (1 : Int32)) := ⟨_, rfl⟩
    replace h := am_let_s ex19 h
    refine lv_iinc (pc := 83) (v := x19) (lv' := [(6, .int x19), (5, .int (1 : Int32)), (0, .ref mself), (1, .int p0), (2, .int p1), (3, .int p2), (4, .int x3)]) hx hb dX7_meeting_83 hl (k := 6) rfl (by rw [ex19]; rfl) (by decide) rfl (fun ls hl => ?_)
    refine lv_goto (pc := 86) (tgt := 38) hx hb dX7_meeting_86 (by decide) ?_
    exact ihrec14 _ _ h ls (lv_sub hl [2, 3, 4, 5, 6, 1, 0] rfl)
  refine lv_icmp_ne (pc := 25) (tgt := 32) hx hb dX7_meeting_25 (by decide) (fun cc => ?_) (fun cc => ?_)
  · replace h := am_f cc h
    refine lv_iconst (v := 0) (pc := 32) hx hb dX7_meeting_32 (by decide) ?_
    exact hJ8 _ h ls (lv_sub hl [0, 1, 2, 3, 4] rfl)
  replace h := am_t cc h
  refine lv_iconst (v := 1) (pc := 28) hx hb dX7_meeting_28 (by decide) ?_
  refine lv_goto (pc := 29) (tgt := 33) hx hb dX7_meeting_29 (by decide) ?_
  exact hJ8 _ h ls (lv_sub hl [0, 1, 2, 3, 4] rfl)
theorem hdX7_common : yX7_common.cls ≠ "java/lang/invoke/MethodHandle" ∧ yX7_common.cls ≠ "java/lang/invoke/VarHandle" ∧ (parseMethodDescriptor yX7_common.desc).map (fun d => d.parameters.length) = some 2 := by decide +kernel
abbrev rmX7_common : Room := { frames := 3, cells := 0, slots := 0, locals := 70 }
set_option maxHeartbeats 20000000 in
set_option maxRecDepth 100000 in
theorem c_X7_common (l : Launch) (D : va_G) (cI cJ : ClassId) (mself : Nat) (msa : Nat) (mpasta : Nat) (mhelda : Nat) (mtexta : Nat) (mchosena : Nat) (mtimesa : Nat) (mrestsa : Nat) (mbeforea : Nat) (mtolda : Nat) (mpasts : Int32) (mruns : Int32) (mtyped : Int32) (mspot : Int32) (mfrom : Int32) (mreason : Int32) (mcause : Int32) (morders : Int32) (mkind : Int32) (ms : Nat → Int32) (mpast : Nat → Int32) (mheld : Nat → Int32) (mtext : Nat → Int32) (mchosen : Nat → Int32) (mtimes : Nat → Int32) (mrests : Nat → Int64) (mbefore : Nat → Int32) (mtold : Nat → Int32) (p0 : Int32) (p1 : Int32) (r0 : Int32) (hF : F_X7_common ms p0 p1 = some r0) : Met l yX7_common (wz yX7_common cX7_common 3 (some .int)) rmX7_common (kPc D cI cJ [(mself, .inr (7, [.ref msa, .ref mpasta, .ref mhelda, .int mpasts, .int mruns, .ref mtexta, .int mtyped, .ref mchosena, .ref mtimesa, .ref mrestsa, .ref mbeforea, .int mspot, .int mfrom, .int mreason, .int mcause, .int morders, .int mkind, .ref mtolda])), (msa, .inl (cI, 580, .inl ms)), (mpasta, .inl (cI, 2320, .inl mpast)), (mhelda, .inl (cI, 580, .inl mheld)), (mtexta, .inl (cI, 60, .inl mtext)), (mchosena, .inl (cI, 12, .inl mchosen)), (mtimesa, .inl (cI, 12, .inl mtimes)), (mrestsa, .inl (cJ, 12, .inr (.inl mrests))), (mbeforea, .inl (cI, 12, .inl mbefore)), (mtolda, .inl (cI, 2, .inl mtold))] [.ref mself, .int p0, .int p1]) (vp_Si (fun r => r = r0)) 0 0 (fun _ => False) := by
  refine kM_ri cX7_common 3 .int (by decide +kernel) rfl rfl (Nat.le_of_ble_eq_true rfl) ⟨rfl, rfl⟩ ?_
  intro p e s m args below meth c Q ls hx hb hml hown hts hP hK hl hret
  have hk175 := hts _ (List.mem_cons_of_mem _ wl175)
  replace hl : lv_has ls 3 [(0, .ref mself), (1, .int p0), (2, .int p1)] := hl
  have h := hF
  unfold F_X7_common at h
  refine lv_aload_n (pc := 0) hx hb dX7_common_0 rfl (lv_at hl 0 rfl) ?_
  refine lv_iload_n (pc := 1) hx hb dX7_common_1 rfl (lv_at hl 1 rfl) ?_
  obtain ⟨r1, hc1, h⟩ := am_bind_s h
  refine kc_Vi (pc := 2) (ci := 7) ⟨hx, hb, hml, hown, hts⟩ hP hK [.int p0] (c_X7_isParticle l D cI cJ mself msa mpasta mhelda mtexta mchosena mtimesa mrestsa mbeforea mtolda mpasts mruns mtyped mspot mfrom mreason mcause morders mkind ms mpast mheld mtext mchosen mtimes mrests mbefore mtold p0 r1 hc1) [0, 1, 2, 3, 4, 5, 6, 7, 8, 9] rfl (cwV 1 hts (gzV wl223 wl224 wl225 wl5 wl226) rfl rfl rfl ⟨rfl, hdX7_isParticle⟩ ⟨Nat.le_of_ble_eq_true rfl, Nat.le_of_ble_eq_true rfl⟩) rfl rfl [] rfl hl.1 rfl (Nat.le_of_ble_eq_true rfl) dX7_common_2 ⟨Nat.zero_le _, Nat.zero_le _⟩ ?_
  refine lv_if_eq (pc := 5) (tgt := 26) hx hb dX7_common_5 (by decide) (fun cc => ?_) (fun cc => ?_)
  · replace h := am_t cc h
    refine lv_ldc (pc := 26) hx hb hown hk175 dX7_common_26 ?_
    obtain e1 := am_ret1 h
    exact hret _ _ _ dX7_common_28 rfl e1
  replace h := am_f cc h
  refine lv_aload_n (pc := 8) hx hb dX7_common_8 rfl (lv_at hl 0 rfl) ?_
  refine lv_iload_n (pc := 9) hx hb dX7_common_9 rfl (lv_at hl 2 rfl) ?_
  obtain ⟨r2, hc2, h⟩ := am_bind_s h
  refine kc_Vi (pc := 10) (ci := 7) ⟨hx, hb, hml, hown, hts⟩ hP hK [.int p1] (c_X7_isParticle l D cI cJ mself msa mpasta mhelda mtexta mchosena mtimesa mrestsa mbeforea mtolda mpasts mruns mtyped mspot mfrom mreason mcause morders mkind ms mpast mheld mtext mchosen mtimes mrests mbefore mtold p1 r2 hc2) [0, 1, 2, 3, 4, 5, 6, 7, 8, 9] rfl (cwV 1 hts (gzV wl223 wl224 wl225 wl5 wl226) rfl rfl rfl ⟨rfl, hdX7_isParticle⟩ ⟨Nat.le_of_ble_eq_true rfl, Nat.le_of_ble_eq_true rfl⟩) rfl rfl [] rfl hl.1 rfl (Nat.le_of_ble_eq_true rfl) dX7_common_10 ⟨Nat.zero_le _, Nat.zero_le _⟩ ?_
  refine lv_if_eq (pc := 13) (tgt := 26) hx hb dX7_common_13 (by decide) (fun cc => ?_) (fun cc => ?_)
  · replace h := am_t cc h
    refine lv_ldc (pc := 26) hx hb hown hk175 dX7_common_26 ?_
    obtain e1 := am_ret1 h
    exact hret _ _ _ dX7_common_28 rfl e1
  replace h := am_f cc h
  refine lv_aload_n (pc := 16) hx hb dX7_common_16 rfl (lv_at hl 0 rfl) ?_
  refine lv_iload_n (pc := 17) hx hb dX7_common_17 rfl (lv_at hl 1 rfl) ?_
  refine lv_iload_n (pc := 18) hx hb dX7_common_18 rfl (lv_at hl 2 rfl) ?_
  refine lv_iconst (v := 0) (pc := 19) hx hb dX7_common_19 (by decide) ?_
  obtain ⟨r3, hc3, h⟩ := am_bind_s h
  refine kc_Vi (pc := 20) (ci := 7) ⟨hx, hb, hml, hown, hts⟩ hP hK [.int p0, .int p1, .int (0 : Int32)] (c_X7_meeting l D cI cJ mself msa mpasta mhelda mtexta mchosena mtimesa mrestsa mbeforea mtolda mpasts mruns mtyped mspot mfrom mreason mcause morders mkind ms mpast mheld mtext mchosen mtimes mrests mbefore mtold p0 p1 (0 : Int32) r3 hc3) [0, 1, 2, 3, 4, 5, 6, 7, 8, 9] rfl (cwV 3 hts (gzV wl561 wl562 wl563 wl5 wl564) rfl rfl rfl ⟨rfl, hdX7_meeting⟩ ⟨Nat.le_of_ble_eq_true rfl, Nat.le_of_ble_eq_true rfl⟩) rfl rfl [] rfl hl.1 rfl (Nat.le_of_ble_eq_true rfl) dX7_common_20 ⟨Nat.zero_le _, Nat.zero_le _⟩ ?_
  refine lv_goto (pc := 23) (tgt := 28) hx hb dX7_common_23 (by decide) ?_
  obtain e1 := am_ret1 h
  exact hret _ _ _ dX7_common_28 rfl e1
theorem hdX7_root : yX7_root.cls ≠ "java/lang/invoke/MethodHandle" ∧ yX7_root.cls ≠ "java/lang/invoke/VarHandle" ∧ (parseMethodDescriptor yX7_root.desc).map (fun d => d.parameters.length) = some 0 := by decide +kernel
abbrev rmX7_root : Room := { frames := 3, cells := 0, slots := 0, locals := 70 }
set_option maxHeartbeats 20000000 in
set_option maxRecDepth 100000 in
theorem c_X7_root (l : Launch) (D : va_G) (cI cJ : ClassId) (mself : Nat) (msa : Nat) (mpasta : Nat) (mhelda : Nat) (mtexta : Nat) (mchosena : Nat) (mtimesa : Nat) (mrestsa : Nat) (mbeforea : Nat) (mtolda : Nat) (mpasts : Int32) (mruns : Int32) (mtyped : Int32) (mspot : Int32) (mfrom : Int32) (mreason : Int32) (mcause : Int32) (morders : Int32) (mkind : Int32) (ms : Nat → Int32) (mpast : Nat → Int32) (mheld : Nat → Int32) (mtext : Nat → Int32) (mchosen : Nat → Int32) (mtimes : Nat → Int32) (mrests : Nat → Int64) (mbefore : Nat → Int32) (mtold : Nat → Int32)  (r0 : Int32) (hF : F_X7_root ms = some r0) : Met l yX7_root (wz yX7_root cX7_root 1 (some .int)) rmX7_root (kPc D cI cJ [(mself, .inr (7, [.ref msa, .ref mpasta, .ref mhelda, .int mpasts, .int mruns, .ref mtexta, .int mtyped, .ref mchosena, .ref mtimesa, .ref mrestsa, .ref mbeforea, .int mspot, .int mfrom, .int mreason, .int mcause, .int morders, .int mkind, .ref mtolda])), (msa, .inl (cI, 580, .inl ms)), (mpasta, .inl (cI, 2320, .inl mpast)), (mhelda, .inl (cI, 580, .inl mheld)), (mtexta, .inl (cI, 60, .inl mtext)), (mchosena, .inl (cI, 12, .inl mchosen)), (mtimesa, .inl (cI, 12, .inl mtimes)), (mrestsa, .inl (cJ, 12, .inr (.inl mrests))), (mbeforea, .inl (cI, 12, .inl mbefore)), (mtolda, .inl (cI, 2, .inl mtold))] [.ref mself]) (vp_Si (fun r => r = r0)) 0 0 (fun _ => False) := by
  refine kM_ri cX7_root 1 .int (by decide +kernel) rfl rfl (Nat.le_of_ble_eq_true rfl) ⟨rfl, rfl⟩ ?_
  intro p e s m args below meth c Q ls hx hb hml hown hts hP hK hl hret
  replace hl : lv_has ls 1 [(0, .ref mself)] := hl
  have h := hF
  unfold F_X7_root at h
  refine lv_aload_n (pc := 0) hx hb dX7_root_0 rfl (lv_at hl 0 rfl) ?_
  refine lv_iconst (v := 0) (pc := 1) hx hb dX7_root_1 (by decide) ?_
  refine lv_iconst (v := 0) (pc := 2) hx hb dX7_root_2 (by decide) ?_
  refine lv_iconst (v := 1) (pc := 3) hx hb dX7_root_3 (by decide) ?_
  obtain ⟨r1, hc1, h⟩ := am_bind_s h
  refine kc_Vi (pc := 4) (ci := 7) ⟨hx, hb, hml, hown, hts⟩ hP hK [.int (0 : Int32), .int (0 : Int32), .int (1 : Int32)] (c_X7_meeting l D cI cJ mself msa mpasta mhelda mtexta mchosena mtimesa mrestsa mbeforea mtolda mpasts mruns mtyped mspot mfrom mreason mcause morders mkind ms mpast mheld mtext mchosen mtimes mrests mbefore mtold (0 : Int32) (0 : Int32) (1 : Int32) r1 hc1) [0, 1, 2, 3, 4, 5, 6, 7, 8, 9] rfl (cwV 3 hts (gzV wl561 wl562 wl563 wl5 wl564) rfl rfl rfl ⟨rfl, hdX7_meeting⟩ ⟨Nat.le_of_ble_eq_true rfl, Nat.le_of_ble_eq_true rfl⟩) rfl rfl [] rfl hl.1 rfl (Nat.le_of_ble_eq_true rfl) dX7_root_4 ⟨Nat.zero_le _, Nat.zero_le _⟩ ?_
  obtain e1 := am_ret1 h
  exact hret _ _ _ dX7_root_7 rfl e1
theorem hdX7_mean : yX7_mean.cls ≠ "java/lang/invoke/MethodHandle" ∧ yX7_mean.cls ≠ "java/lang/invoke/VarHandle" ∧ (parseMethodDescriptor yX7_mean.desc).map (fun d => d.parameters.length) = some 2 := by decide +kernel
abbrev rmX7_mean : Room := { frames := 2, cells := 0, slots := 0, locals := 44 }
set_option maxHeartbeats 20000000 in
set_option maxRecDepth 100000 in
theorem c_X7_mean (l : Launch) (D : va_G) (cI cJ : ClassId) (mself : Nat) (msa : Nat) (mpasta : Nat) (mhelda : Nat) (mtexta : Nat) (mchosena : Nat) (mtimesa : Nat) (mrestsa : Nat) (mbeforea : Nat) (mtolda : Nat) (mpasts : Int32) (mruns : Int32) (mtyped : Int32) (mspot : Int32) (mfrom : Int32) (mreason : Int32) (mcause : Int32) (morders : Int32) (mkind : Int32) (ms : Nat → Int32) (mpast : Nat → Int32) (mheld : Nat → Int32) (mtext : Nat → Int32) (mchosen : Nat → Int32) (mtimes : Nat → Int32) (mrests : Nat → Int64) (mbefore : Nat → Int32) (mtold : Nat → Int32) (p0 : Int32) (p1 : Int32) (r0 : Int32) (hF : F_X7_mean ms p0 p1 = some r0) : Met l yX7_mean (wz yX7_mean cX7_mean 6 (some .int)) rmX7_mean (kPc D cI cJ [(mself, .inr (7, [.ref msa, .ref mpasta, .ref mhelda, .int mpasts, .int mruns, .ref mtexta, .int mtyped, .ref mchosena, .ref mtimesa, .ref mrestsa, .ref mbeforea, .int mspot, .int mfrom, .int mreason, .int mcause, .int morders, .int mkind, .ref mtolda])), (msa, .inl (cI, 580, .inl ms)), (mpasta, .inl (cI, 2320, .inl mpast)), (mhelda, .inl (cI, 580, .inl mheld)), (mtexta, .inl (cI, 60, .inl mtext)), (mchosena, .inl (cI, 12, .inl mchosen)), (mtimesa, .inl (cI, 12, .inl mtimes)), (mrestsa, .inl (cJ, 12, .inr (.inl mrests))), (mbeforea, .inl (cI, 12, .inl mbefore)), (mtolda, .inl (cI, 2, .inl mtold))] [.ref mself, .int p0, .int p1]) (vp_Si (fun r => r = r0)) 0 0 (fun _ => False) := by
  refine kM_ri cX7_mean 6 .int (by decide +kernel) rfl rfl (Nat.le_of_ble_eq_true rfl) ⟨rfl, rfl⟩ ?_
  intro p e s m args below meth c Q ls hx hb hml hown hts hP hK hl hret
  have hk121 := hts _ (List.mem_cons_of_mem _ wl121)
  have hk175 := hts _ (List.mem_cons_of_mem _ wl175)
  have hnX7 : ∀ w ∈ u_ws RX7 TX7 18, w ∈ wz yX7_mean cX7_mean 6 (some .int) := fun w h => List.mem_cons_of_mem _ (inlX7 w h)
  replace hl : lv_has ls 6 [(0, .ref mself), (1, .int p0), (2, .int p1)] := hl
  have h := hF
  unfold F_X7_mean at h
  refine lv_aload_n (pc := 0) hx hb dX7_mean_0 rfl (lv_at hl 0 rfl) ?_
  refine lv_iload_n (pc := 1) hx hb dX7_mean_1 rfl (lv_at hl 1 rfl) ?_
  obtain ⟨r1, hc1, h⟩ := am_bind_s h
  refine kc_Vi (pc := 2) (ci := 7) ⟨hx, hb, hml, hown, hts⟩ hP hK [.int p0] (c_X7_isGeneration l D cI cJ mself msa mpasta mhelda mtexta mchosena mtimesa mrestsa mbeforea mtolda mpasts mruns mtyped mspot mfrom mreason mcause morders mkind ms mpast mheld mtext mchosen mtimes mrests mbefore mtold p0 r1 hc1) [0, 1, 2, 3, 4, 5, 6, 7, 8, 9] rfl (cwV 1 hts (gzV wl518 wl519 wl520 wl5 wl521) rfl rfl rfl ⟨rfl, hdX7_isGeneration⟩ ⟨Nat.le_of_ble_eq_true rfl, Nat.le_of_ble_eq_true rfl⟩) rfl rfl [] rfl hl.1 rfl (Nat.le_of_ble_eq_true rfl) dX7_mean_2 ⟨Nat.zero_le _, Nat.zero_le _⟩ ?_
  refine lv_if_eq (pc := 5) (tgt := 17) hx hb dX7_mean_5 (by decide) (fun cc => ?_) (fun cc => ?_)
  · replace h := am_t cc h
    refine lv_ldc (pc := 17) hx hb hown hk175 dX7_mean_17 ?_
    obtain e1 := am_ret1 h
    exact hret _ _ _ dX7_mean_19 rfl e1
  replace h := am_f cc h
  refine lv_iload_n (pc := 8) hx hb dX7_mean_8 rfl (lv_at hl 2 rfl) ?_
  refine lv_iconst (v := 0) (pc := 9) hx hb dX7_mean_9 (by decide) ?_
  refine lv_iconst (v := 1) (pc := 10) hx hb dX7_mean_10 (by decide) ?_
  obtain ⟨r2, hc2, h⟩ := am_bind_s h
  refine kc_Si (pc := 11) ⟨hx, hb, hml, hown, hts⟩ hP hK [.int p1, .int (0 : Int32), .int (1 : Int32)] (c_X7_in l D cI cJ p1 (0 : Int32) (1 : Int32) r2 hc2) [] rfl (cwS 3 hts (gzS wl176 wl177 wl5 wl178) rfl rfl rfl ⟨rfl, hdX7_in⟩ ⟨Nat.le_of_ble_eq_true rfl, Nat.le_of_ble_eq_true rfl⟩) [] rfl hl.1 rfl (Nat.le_of_ble_eq_true rfl) dX7_mean_11 ⟨Nat.zero_le _, Nat.zero_le _⟩ ?_
  refine lv_if_ne (pc := 14) (tgt := 20) hx hb dX7_mean_14 (by decide) (fun cc => ?_) (fun cc => ?_)
  · replace h := am_f cc h
    refine lv_lconst (v := 0) (pc := 20) hx hb dX7_mean_20 rfl ?_
    refine lv_lstore_n (lv' := [(3, .long (0 : Int64)), (0, .ref mself), (1, .int p0), (2, .int p1)]) (pc := 21) hx hb dX7_mean_21 rfl hl (by decide) rfl (fun ls hl => ?_)
    refine lv_iconst (v := 0) (pc := 22) hx hb dX7_mean_22 (by decide) ?_
    refine lv_istore (lv' := [(5, .int (0 : Int32)), (3, .long (0 : Int64)), (0, .ref mself), (1, .int p0), (2, .int p1)]) (pc := 23) hx hb dX7_mean_23 hl (by decide) rfl (fun ls hl => ?_)
    refine am_join1_s (fun (x3 : Int64) => ∀ (ls : Array Slot), lv_has ls 6 [(0, .ref mself), (2, .int p1), (3, .long x3)] → W p l e rmX7_mean s m args below meth c s.heap [] 0 0 Q (F0 m 70 ls [])) h (fun x3 h ls hl => ?_) (fun K4 hK4 h => ?_)
    · refine lv_lload_n (pc := 70) hx hb dX7_mean_70 rfl (lv_at hl 2 rfl) ?_
      refine lv_aload_n (pc := 71) hx hb dX7_mean_71 rfl (lv_at hl 0 rfl) ?_
      obtain ⟨r5, hc5, h⟩ := am_bind_s h
      refine kc_Vi (pc := 72) (ci := 7) ⟨hx, hb, hml, hown, hts⟩ hP hK [] (c_X7_sum l D cI cJ mself msa mpasta mhelda mtexta mchosena mtimesa mrestsa mbeforea mtolda mpasts mruns mtyped mspot mfrom mreason mcause morders mkind ms mpast mheld mtext mchosen mtimes mrests mbefore mtold r5 hc5) [0, 1, 2, 3, 4, 5, 6, 7, 8, 9] rfl (cwV 0 hts (gzV wl227 wl228 wl229 wl5 wl230) rfl rfl rfl ⟨rfl, hdX7_sum⟩ ⟨Nat.le_of_ble_eq_true rfl, Nat.le_of_ble_eq_true rfl⟩) rfl rfl [.long x3] rfl hl.1 rfl (Nat.le_of_ble_eq_true rfl) dX7_mean_72 ⟨Nat.zero_le _, Nat.zero_le _⟩ ?_
      refine lv_i2l (pc := 75) hx hb dX7_mean_75 rfl ?_
      refine lv_iload_n (pc := 76) hx hb dX7_mean_76 rfl (lv_at hl 1 rfl) ?_
      obtain ⟨r6, hc6, h⟩ := am_bind_s h
      refine kc_Si (pc := 77) ⟨hx, hb, hml, hown, hts⟩ hP hK [.long x3, .long r5.toInt64, .int p1] (c_X7_part l D cI cJ x3 r5.toInt64 p1 r6 hc6) [] rfl (cwS 3 hts (gzS wl471 wl472 wl5 wl473) rfl rfl rfl ⟨rfl, hdX7_part⟩ ⟨Nat.le_of_ble_eq_true rfl, Nat.le_of_ble_eq_true rfl⟩) [] rfl hl.1 rfl (Nat.le_of_ble_eq_true rfl) dX7_mean_77 ⟨Nat.zero_le _, Nat.zero_le _⟩ ?_
      obtain e1 := am_ret1 h
      exact hret _ _ _ dX7_mean_80 rfl e1
    refine am_loop2_s (fun (x7 : Int64) (x8 : Int32) => ∀ (ls : Array Slot), lv_has ls 6 [(0, .ref mself), (1, .int p0), (2, .int p1), (3, .long x7), (5, .int x8)] → W p l e rmX7_mean s m args below meth c s.heap [] 0 0 Q (F0 m 25 ls [])) (fun rec9 ihrec9 x7 x8 h ls hl => ?_) _ _ _ h ls (lv_sub hl [2, 3, 4, 1, 0] rfl)
    unfold F_X7_mean_B25 at h
    refine lv_iload (pc := 25) hx hb dX7_mean_25 (lv_at hl 4 rfl) ?_
    refine lv_aload_n (pc := 27) hx hb dX7_mean_27 rfl (lv_at hl 0 rfl) ?_
    refine va_get (pc := 28) (D := D) (ci := 7) (v := .ref msa) (C := RX7) (T := TX7) (N := 18) hx hb hts hnX7 hown hK.1 hP 0 rfl rfl 0 (Nat.le_of_ble_eq_true rfl) hk121 (fun _ h9 => h9) rfl dX7_mean_28 ?_
    refine lv_iconst (v := 0) (pc := 31) hx hb dX7_mean_31 (by decide) ?_
    refine va_iald (pc := 32) hx hb hK.1 hP 1 0 rfl rfl (vp_in_nI (n := 0) (N := 580) (by decide) (by decide)) dX7_mean_32 ?_
    refine lv_icmp_ge (pc := 33) (tgt := 70) hx hb dX7_mean_33 (by decide) (fun cc => ?_) (fun cc => ?_)
    · replace h := am_t cc h
      exact hK4 _ h ls (lv_sub hl [0, 2, 3] rfl)
    replace h := am_f cc h
    refine lv_lload_n (pc := 36) hx hb dX7_mean_36 rfl (lv_at hl 3 rfl) ?_
    refine lv_aload_n (pc := 37) hx hb dX7_mean_37 rfl (lv_at hl 0 rfl) ?_
    refine va_get (pc := 38) (D := D) (ci := 7) (v := .ref msa) (C := RX7) (T := TX7) (N := 18) hx hb hts hnX7 hown hK.1 hP 0 rfl rfl 0 (Nat.le_of_ble_eq_true rfl) hk121 (fun _ h9 => h9) rfl dX7_mean_38 ?_
    refine lv_bipush (v := 8) (pc := 41) hx hb dX7_mean_41 (by decide) ?_
    refine lv_iload (pc := 43) hx hb dX7_mean_43 (lv_at hl 4 rfl) ?_
    refine lv_iadd (pc := 45) hx hb dX7_mean_45 ?_
    obtain ⟨hi, h⟩ := am_in_s h
    refine va_iald (pc := 46) hx hb hK.1 hP 1 0 rfl rfl hi dX7_mean_46 ?_
    refine lv_i2l (pc := 47) hx hb dX7_mean_47 rfl ?_
    refine lv_aload_n (pc := 48) hx hb dX7_mean_48 rfl (lv_at hl 0 rfl) ?_
    refine lv_iload_n (pc := 49) hx hb dX7_mean_49 rfl (lv_at hl 1 rfl) ?_
    refine lv_aload_n (pc := 50) hx hb dX7_mean_50 rfl (lv_at hl 0 rfl) ?_
    refine lv_iload (pc := 51) hx hb dX7_mean_51 (lv_at hl 4 rfl) ?_
    refine lv_iload_n (pc := 53) hx hb dX7_mean_53 rfl (lv_at hl 1 rfl) ?_
    obtain ⟨r10, hc10, h⟩ := am_bind_s h
    refine kc_Vi (pc := 54) (ci := 7) ⟨hx, hb, hml, hown, hts⟩ hP hK [.int x8, .int p0] (c_X7_up l D cI cJ mself msa mpasta mhelda mtexta mchosena mtimesa mrestsa mbeforea mtolda mpasts mruns mtyped mspot mfrom mreason mcause morders mkind ms mpast mheld mtext mchosen mtimes mrests mbefore mtold x8 p0 r10 hc10) [0, 1, 2, 3, 4, 5, 6, 7, 8, 9] rfl (cwV 2 hts (gzV wl526 wl527 wl528 wl5 wl529) rfl rfl rfl ⟨rfl, hdX7_up⟩ ⟨Nat.le_of_ble_eq_true rfl, Nat.le_of_ble_eq_true rfl⟩) rfl rfl [.int p0, .ref mself, .long (ms ((8 : Int32) + x8).toNatClampNeg).toInt64, .long x7] rfl hl.1 rfl (Nat.le_of_ble_eq_true rfl) dX7_mean_54 ⟨Nat.zero_le _, Nat.zero_le _⟩ ?_
    obtain ⟨r11, hc11, h⟩ := am_bind_s h
    refine kc_Vi (pc := 57) (ci := 7) ⟨hx, hb, hml, hown, hts⟩ hP hK [.int p0, .int r10] (c_X7_placeIn l D cI cJ mself msa mpasta mhelda mtexta mchosena mtimesa mrestsa mbeforea mtolda mpasts mruns mtyped mspot mfrom mreason mcause morders mkind ms mpast mheld mtext mchosen mtimes mrests mbefore mtold p0 r10 r11 hc11) [0, 1, 2, 3, 4, 5, 6, 7, 8, 9] rfl (cwV 2 hts (gzV wl280 wl281 wl282 wl5 wl283) rfl rfl rfl ⟨rfl, hdX7_placeIn⟩ ⟨Nat.le_of_ble_eq_true rfl, Nat.le_of_ble_eq_true rfl⟩) rfl rfl [.long (ms ((8 : Int32) + x8).toNatClampNeg).toInt64, .long x7] rfl hl.1 rfl (Nat.le_of_ble_eq_true rfl) dX7_mean_57 ⟨Nat.zero_le _, Nat.zero_le _⟩ ?_
    refine lv_i2l (pc := 60) hx hb dX7_mean_60 rfl ?_
    refine lv_lmul (pc := 61) hx hb dX7_mean_61 ?_
    refine lv_ladd (pc := 62) hx hb dX7_mean_62 ?_
    refine lv_topl (fun x12 ex12 => ?_)
    replace h := am_let_s ex12 h
    refine lv_lstore_n (lv' := [(3, .long x12), (0, .ref mself), (1, .int p0), (2, .int p1), (5, .int x8)]) (pc := 63) hx hb dX7_mean_63 rfl hl (by decide) rfl (fun ls hl => ?_)
    obtain ⟨x13, ex13⟩ : ∃ y : Int32, y = (x8 + (1 : Int32)) := ⟨_, rfl⟩
    replace h := am_let_s ex13 h
    refine lv_iinc (pc := 64) (v := x13) (lv' := [(5, .int x13), (3, .long x12), (0, .ref mself), (1, .int p0), (2, .int p1)]) hx hb dX7_mean_64 hl (k := 4) rfl (by rw [ex13]; rfl) (by decide) rfl (fun ls hl => ?_)
    refine lv_goto (pc := 67) (tgt := 25) hx hb dX7_mean_67 (by decide) ?_
    exact ihrec9 _ _ h ls (lv_sub hl [2, 3, 4, 1, 0] rfl)
  replace h := am_t cc h
  refine lv_ldc (pc := 17) hx hb hown hk175 dX7_mean_17 ?_
  obtain e1 := am_ret1 h
  exact hret _ _ _ dX7_mean_19 rfl e1
theorem hdX7_share : yX7_share.cls ≠ "java/lang/invoke/MethodHandle" ∧ yX7_share.cls ≠ "java/lang/invoke/VarHandle" ∧ (parseMethodDescriptor yX7_share.desc).map (fun d => d.parameters.length) = some 4 := by decide +kernel
abbrev rmX7_share : Room := { frames := 2, cells := 0, slots := 0, locals := 44 }
set_option maxHeartbeats 20000000 in
set_option maxRecDepth 100000 in
theorem c_X7_share (l : Launch) (D : va_G) (cI cJ : ClassId) (mself : Nat) (msa : Nat) (mpasta : Nat) (mhelda : Nat) (mtexta : Nat) (mchosena : Nat) (mtimesa : Nat) (mrestsa : Nat) (mbeforea : Nat) (mtolda : Nat) (mpasts : Int32) (mruns : Int32) (mtyped : Int32) (mspot : Int32) (mfrom : Int32) (mreason : Int32) (mcause : Int32) (morders : Int32) (mkind : Int32) (ms : Nat → Int32) (mpast : Nat → Int32) (mheld : Nat → Int32) (mtext : Nat → Int32) (mchosen : Nat → Int32) (mtimes : Nat → Int32) (mrests : Nat → Int64) (mbefore : Nat → Int32) (mtold : Nat → Int32) (p0 : Int32) (p1 : Int32) (p2 : Int32) (p3 : Int32) (r0 : Int32) (hF : F_X7_share ms p0 p1 p2 p3 = some r0) : Met l yX7_share (wz yX7_share cX7_share 8 (some .int)) rmX7_share (kPc D cI cJ [(mself, .inr (7, [.ref msa, .ref mpasta, .ref mhelda, .int mpasts, .int mruns, .ref mtexta, .int mtyped, .ref mchosena, .ref mtimesa, .ref mrestsa, .ref mbeforea, .int mspot, .int mfrom, .int mreason, .int mcause, .int morders, .int mkind, .ref mtolda])), (msa, .inl (cI, 580, .inl ms)), (mpasta, .inl (cI, 2320, .inl mpast)), (mhelda, .inl (cI, 580, .inl mheld)), (mtexta, .inl (cI, 60, .inl mtext)), (mchosena, .inl (cI, 12, .inl mchosen)), (mtimesa, .inl (cI, 12, .inl mtimes)), (mrestsa, .inl (cJ, 12, .inr (.inl mrests))), (mbeforea, .inl (cI, 12, .inl mbefore)), (mtolda, .inl (cI, 2, .inl mtold))] [.ref mself, .int p0, .int p1, .int p2, .int p3]) (vp_Si (fun r => r = r0)) 0 0 (fun _ => False) := by
  refine kM_ri cX7_share 8 .int (by decide +kernel) rfl rfl (Nat.le_of_ble_eq_true rfl) ⟨rfl, rfl⟩ ?_
  intro p e s m args below meth c Q ls hx hb hml hown hts hP hK hl hret
  have hk121 := hts _ (List.mem_cons_of_mem _ wl121)
  have hk175 := hts _ (List.mem_cons_of_mem _ wl175)
  have hnX7 : ∀ w ∈ u_ws RX7 TX7 18, w ∈ wz yX7_share cX7_share 8 (some .int) := fun w h => List.mem_cons_of_mem _ (inlX7 w h)
  replace hl : lv_has ls 8 [(0, .ref mself), (1, .int p0), (2, .int p1), (3, .int p2), (4, .int p3)] := hl
  have h := hF
  unfold F_X7_share at h
  refine lv_aload_n (pc := 0) hx hb dX7_share_0 rfl (lv_at hl 0 rfl) ?_
  refine lv_iload_n (pc := 1) hx hb dX7_share_1 rfl (lv_at hl 1 rfl) ?_
  obtain ⟨r1, hc1, h⟩ := am_bind_s h
  refine kc_Vi (pc := 2) (ci := 7) ⟨hx, hb, hml, hown, hts⟩ hP hK [.int p0] (c_X7_isGeneration l D cI cJ mself msa mpasta mhelda mtexta mchosena mtimesa mrestsa mbeforea mtolda mpasts mruns mtyped mspot mfrom mreason mcause morders mkind ms mpast mheld mtext mchosen mtimes mrests mbefore mtold p0 r1 hc1) [0, 1, 2, 3, 4, 5, 6, 7, 8, 9] rfl (cwV 1 hts (gzV wl518 wl519 wl520 wl5 wl521) rfl rfl rfl ⟨rfl, hdX7_isGeneration⟩ ⟨Nat.le_of_ble_eq_true rfl, Nat.le_of_ble_eq_true rfl⟩) rfl rfl [] rfl hl.1 rfl (Nat.le_of_ble_eq_true rfl) dX7_share_2 ⟨Nat.zero_le _, Nat.zero_le _⟩ ?_
  refine lv_if_eq (pc := 5) (tgt := 38) hx hb dX7_share_5 (by decide) (fun cc => ?_) (fun cc => ?_)
  · replace h := am_t cc h
    refine lv_ldc (pc := 38) hx hb hown hk175 dX7_share_38 ?_
    obtain e1 := am_ret1 h
    exact hret _ _ _ dX7_share_40 rfl e1
  replace h := am_f cc h
  refine lv_iload_n (pc := 8) hx hb dX7_share_8 rfl (lv_at hl 2 rfl) ?_
  refine lv_iconst (v := 0) (pc := 9) hx hb dX7_share_9 (by decide) ?_
  refine lv_bipush (v := 99) (pc := 10) hx hb dX7_share_10 (by decide) ?_
  obtain ⟨r2, hc2, h⟩ := am_bind_s h
  refine kc_Si (pc := 12) ⟨hx, hb, hml, hown, hts⟩ hP hK [.int p1, .int (0 : Int32), .int (99 : Int32)] (c_X7_in l D cI cJ p1 (0 : Int32) (99 : Int32) r2 hc2) [] rfl (cwS 3 hts (gzS wl176 wl177 wl5 wl178) rfl rfl rfl ⟨rfl, hdX7_in⟩ ⟨Nat.le_of_ble_eq_true rfl, Nat.le_of_ble_eq_true rfl⟩) [] rfl hl.1 rfl (Nat.le_of_ble_eq_true rfl) dX7_share_12 ⟨Nat.zero_le _, Nat.zero_le _⟩ ?_
  refine lv_if_eq (pc := 15) (tgt := 38) hx hb dX7_share_15 (by decide) (fun cc => ?_) (fun cc => ?_)
  · replace h := am_t cc h
    refine lv_ldc (pc := 38) hx hb hown hk175 dX7_share_38 ?_
    obtain e1 := am_ret1 h
    exact hret _ _ _ dX7_share_40 rfl e1
  replace h := am_f cc h
  refine lv_iload_n (pc := 18) hx hb dX7_share_18 rfl (lv_at hl 3 rfl) ?_
  refine lv_iconst (v := 0) (pc := 19) hx hb dX7_share_19 (by decide) ?_
  refine lv_bipush (v := 99) (pc := 20) hx hb dX7_share_20 (by decide) ?_
  obtain ⟨r3, hc3, h⟩ := am_bind_s h
  refine kc_Si (pc := 22) ⟨hx, hb, hml, hown, hts⟩ hP hK [.int p2, .int (0 : Int32), .int (99 : Int32)] (c_X7_in l D cI cJ p2 (0 : Int32) (99 : Int32) r3 hc3) [] rfl (cwS 3 hts (gzS wl176 wl177 wl5 wl178) rfl rfl rfl ⟨rfl, hdX7_in⟩ ⟨Nat.le_of_ble_eq_true rfl, Nat.le_of_ble_eq_true rfl⟩) [] rfl hl.1 rfl (Nat.le_of_ble_eq_true rfl) dX7_share_22 ⟨Nat.zero_le _, Nat.zero_le _⟩ ?_
  refine lv_if_eq (pc := 25) (tgt := 38) hx hb dX7_share_25 (by decide) (fun cc => ?_) (fun cc => ?_)
  · replace h := am_t cc h
    refine lv_ldc (pc := 38) hx hb hown hk175 dX7_share_38 ?_
    obtain e1 := am_ret1 h
    exact hret _ _ _ dX7_share_40 rfl e1
  replace h := am_f cc h
  refine lv_iload (pc := 28) hx hb dX7_share_28 (lv_at hl 4 rfl) ?_
  refine lv_iconst (v := 0) (pc := 30) hx hb dX7_share_30 (by decide) ?_
  refine lv_iconst (v := 1) (pc := 31) hx hb dX7_share_31 (by decide) ?_
  obtain ⟨r4, hc4, h⟩ := am_bind_s h
  refine kc_Si (pc := 32) ⟨hx, hb, hml, hown, hts⟩ hP hK [.int p3, .int (0 : Int32), .int (1 : Int32)] (c_X7_in l D cI cJ p3 (0 : Int32) (1 : Int32) r4 hc4) [] rfl (cwS 3 hts (gzS wl176 wl177 wl5 wl178) rfl rfl rfl ⟨rfl, hdX7_in⟩ ⟨Nat.le_of_ble_eq_true rfl, Nat.le_of_ble_eq_true rfl⟩) [] rfl hl.1 rfl (Nat.le_of_ble_eq_true rfl) dX7_share_32 ⟨Nat.zero_le _, Nat.zero_le _⟩ ?_
  refine lv_if_ne (pc := 35) (tgt := 41) hx hb dX7_share_35 (by decide) (fun cc => ?_) (fun cc => ?_)
  · replace h := am_f cc h
    refine lv_lconst (v := 0) (pc := 41) hx hb dX7_share_41 rfl ?_
    refine lv_lstore (lv' := [(5, .long (0 : Int64)), (0, .ref mself), (1, .int p0), (2, .int p1), (3, .int p2), (4, .int p3)]) (pc := 42) hx hb dX7_share_42 hl (by decide) rfl (fun ls hl => ?_)
    refine lv_iconst (v := 0) (pc := 44) hx hb dX7_share_44 (by decide) ?_
    refine lv_istore (lv' := [(7, .int (0 : Int32)), (5, .long (0 : Int64)), (0, .ref mself), (1, .int p0), (2, .int p1), (3, .int p2), (4, .int p3)]) (pc := 45) hx hb dX7_share_45 hl (by decide) rfl (fun ls hl => ?_)
    refine am_join1_s (fun (x5 : Int64) => ∀ (ls : Array Slot), lv_has ls 8 [(0, .ref mself), (4, .int p3), (5, .long x5)] → W p l e rmX7_share s m args below meth c s.heap [] 0 0 Q (F0 m 104 ls [])) h (fun x5 h ls hl => ?_) (fun K6 hK6 h => ?_)
    · refine lv_lload (pc := 104) hx hb dX7_share_104 (lv_at hl 2 rfl) ?_
      refine lv_aload_n (pc := 106) hx hb dX7_share_106 rfl (lv_at hl 0 rfl) ?_
      obtain ⟨r7, hc7, h⟩ := am_bind_s h
      refine kc_Vi (pc := 107) (ci := 7) ⟨hx, hb, hml, hown, hts⟩ hP hK [] (c_X7_sum l D cI cJ mself msa mpasta mhelda mtexta mchosena mtimesa mrestsa mbeforea mtolda mpasts mruns mtyped mspot mfrom mreason mcause morders mkind ms mpast mheld mtext mchosen mtimes mrests mbefore mtold r7 hc7) [0, 1, 2, 3, 4, 5, 6, 7, 8, 9] rfl (cwV 0 hts (gzV wl227 wl228 wl229 wl5 wl230) rfl rfl rfl ⟨rfl, hdX7_sum⟩ ⟨Nat.le_of_ble_eq_true rfl, Nat.le_of_ble_eq_true rfl⟩) rfl rfl [.long x5] rfl hl.1 rfl (Nat.le_of_ble_eq_true rfl) dX7_share_107 ⟨Nat.zero_le _, Nat.zero_le _⟩ ?_
      refine lv_i2l (pc := 110) hx hb dX7_share_110 rfl ?_
      refine lv_iload (pc := 111) hx hb dX7_share_111 (lv_at hl 1 rfl) ?_
      obtain ⟨r8, hc8, h⟩ := am_bind_s h
      refine kc_Si (pc := 113) ⟨hx, hb, hml, hown, hts⟩ hP hK [.long x5, .long r7.toInt64, .int p3] (c_X7_part l D cI cJ x5 r7.toInt64 p3 r8 hc8) [] rfl (cwS 3 hts (gzS wl471 wl472 wl5 wl473) rfl rfl rfl ⟨rfl, hdX7_part⟩ ⟨Nat.le_of_ble_eq_true rfl, Nat.le_of_ble_eq_true rfl⟩) [] rfl hl.1 rfl (Nat.le_of_ble_eq_true rfl) dX7_share_113 ⟨Nat.zero_le _, Nat.zero_le _⟩ ?_
      obtain e1 := am_ret1 h
      exact hret _ _ _ dX7_share_116 rfl e1
    refine am_loop2_s (fun (x9 : Int64) (x10 : Int32) => ∀ (ls : Array Slot), lv_has ls 8 [(0, .ref mself), (1, .int p0), (2, .int p1), (3, .int p2), (4, .int p3), (5, .long x9), (7, .int x10)] → W p l e rmX7_share s m args below meth c s.heap [] 0 0 Q (F0 m 47 ls [])) (fun rec11 ihrec11 x9 x10 h ls hl => ?_) _ _ _ h ls (lv_sub hl [2, 3, 4, 5, 6, 1, 0] rfl)
    unfold F_X7_share_B47 at h
    refine lv_iload (pc := 47) hx hb dX7_share_47 (lv_at hl 6 rfl) ?_
    refine lv_aload_n (pc := 49) hx hb dX7_share_49 rfl (lv_at hl 0 rfl) ?_
    refine va_get (pc := 50) (D := D) (ci := 7) (v := .ref msa) (C := RX7) (T := TX7) (N := 18) hx hb hts hnX7 hown hK.1 hP 0 rfl rfl 0 (Nat.le_of_ble_eq_true rfl) hk121 (fun _ h9 => h9) rfl dX7_share_50 ?_
    refine lv_iconst (v := 0) (pc := 53) hx hb dX7_share_53 (by decide) ?_
    refine va_iald (pc := 54) hx hb hK.1 hP 1 0 rfl rfl (vp_in_nI (n := 0) (N := 580) (by decide) (by decide)) dX7_share_54 ?_
    refine lv_icmp_ge (pc := 55) (tgt := 104) hx hb dX7_share_55 (by decide) (fun cc => ?_) (fun cc => ?_)
    · replace h := am_t cc h
      exact hK6 _ h ls (lv_sub hl [0, 4, 5] rfl)
    replace h := am_f cc h
    refine lv_lload (pc := 58) hx hb dX7_share_58 (lv_at hl 5 rfl) ?_
    refine lv_aload_n (pc := 60) hx hb dX7_share_60 rfl (lv_at hl 0 rfl) ?_
    refine lv_iload_n (pc := 61) hx hb dX7_share_61 rfl (lv_at hl 1 rfl) ?_
    refine lv_aload_n (pc := 62) hx hb dX7_share_62 rfl (lv_at hl 0 rfl) ?_
    refine lv_iload (pc := 63) hx hb dX7_share_63 (lv_at hl 6 rfl) ?_
    refine lv_iload_n (pc := 65) hx hb dX7_share_65 rfl (lv_at hl 1 rfl) ?_
    obtain ⟨r12, hc12, h⟩ := am_bind_s h
    refine kc_Vi (pc := 66) (ci := 7) ⟨hx, hb, hml, hown, hts⟩ hP hK [.int x10, .int p0] (c_X7_up l D cI cJ mself msa mpasta mhelda mtexta mchosena mtimesa mrestsa mbeforea mtolda mpasts mruns mtyped mspot mfrom mreason mcause morders mkind ms mpast mheld mtext mchosen mtimes mrests mbefore mtold x10 p0 r12 hc12) [0, 1, 2, 3, 4, 5, 6, 7, 8, 9] rfl (cwV 2 hts (gzV wl526 wl527 wl528 wl5 wl529) rfl rfl rfl ⟨rfl, hdX7_up⟩ ⟨Nat.le_of_ble_eq_true rfl, Nat.le_of_ble_eq_true rfl⟩) rfl rfl [.int p0, .ref mself, .long x9] rfl hl.1 rfl (Nat.le_of_ble_eq_true rfl) dX7_share_66 ⟨Nat.zero_le _, Nat.zero_le _⟩ ?_
    obtain ⟨r13, hc13, h⟩ := am_bind_s h
    refine kc_Vi (pc := 69) (ci := 7) ⟨hx, hb, hml, hown, hts⟩ hP hK [.int p0, .int r12] (c_X7_placeIn l D cI cJ mself msa mpasta mhelda mtexta mchosena mtimesa mrestsa mbeforea mtolda mpasts mruns mtyped mspot mfrom mreason mcause morders mkind ms mpast mheld mtext mchosen mtimes mrests mbefore mtold p0 r12 r13 hc13) [0, 1, 2, 3, 4, 5, 6, 7, 8, 9] rfl (cwV 2 hts (gzV wl280 wl281 wl282 wl5 wl283) rfl rfl rfl ⟨rfl, hdX7_placeIn⟩ ⟨Nat.le_of_ble_eq_true rfl, Nat.le_of_ble_eq_true rfl⟩) rfl rfl [.long x9] rfl hl.1 rfl (Nat.le_of_ble_eq_true rfl) dX7_share_69 ⟨Nat.zero_le _, Nat.zero_le _⟩ ?_
    refine lv_iload_n (pc := 72) hx hb dX7_share_72 rfl (lv_at hl 2 rfl) ?_
    refine lv_iload_n (pc := 73) hx hb dX7_share_73 rfl (lv_at hl 3 rfl) ?_
    obtain ⟨r14, hc14, h⟩ := am_bind_s h
    refine kc_Si (pc := 74) ⟨hx, hb, hml, hown, hts⟩ hP hK [.int r13, .int p1, .int p2] (c_X7_in l D cI cJ r13 p1 p2 r14 hc14) [] rfl (cwS 3 hts (gzS wl176 wl177 wl5 wl178) rfl rfl rfl ⟨rfl, hdX7_in⟩ ⟨Nat.le_of_ble_eq_true rfl, Nat.le_of_ble_eq_true rfl⟩) [.long x9] rfl hl.1 rfl (Nat.le_of_ble_eq_true rfl) dX7_share_74 ⟨Nat.zero_le _, Nat.zero_le _⟩ ?_
    refine lv_if_eq (pc := 77) (tgt := 94) hx hb dX7_share_77 (by decide) (fun cc => ?_) (fun cc => ?_)
    · replace h := am_t cc h
      refine lv_lconst (v := 0) (pc := 94) hx hb dX7_share_94 rfl ?_
      refine lv_ladd (pc := 95) hx hb dX7_share_95 ?_
      refine lv_topl (fun x15 ex15 => ?_)
      replace h := am_let_s ex15 h
      refine lv_lstore (lv' := [(5, .long x15), (0, .ref mself), (1, .int p0), (2, .int p1), (3, .int p2), (4, .int p3), (7, .int x10)]) (pc := 96) hx hb dX7_share_96 hl (by decide) rfl (fun ls hl => ?_)
      obtain ⟨x16, ex16⟩ : ∃ y : Int32, y = (x10 + (1 : Int32)) := ⟨_, rfl⟩
      replace h := am_let_s ex16 h
      refine lv_iinc (pc := 98) (v := x16) (lv' := [(7, .int x16), (5, .long x15), (0, .ref mself), (1, .int p0), (2, .int p1), (3, .int p2), (4, .int p3)]) hx hb dX7_share_98 hl (k := 6) rfl (by rw [ex16]; rfl) (by decide) rfl (fun ls hl => ?_)
      refine lv_goto (pc := 101) (tgt := 47) hx hb dX7_share_101 (by decide) ?_
      exact ihrec11 _ _ h ls (lv_sub hl [2, 3, 4, 5, 6, 1, 0] rfl)
    replace h := am_f cc h
    refine lv_aload_n (pc := 80) hx hb dX7_share_80 rfl (lv_at hl 0 rfl) ?_
    refine va_get (pc := 81) (D := D) (ci := 7) (v := .ref msa) (C := RX7) (T := TX7) (N := 18) hx hb hts hnX7 hown hK.1 hP 0 rfl rfl 0 (Nat.le_of_ble_eq_true rfl) hk121 (fun _ h9 => h9) rfl dX7_share_81 ?_
    refine lv_bipush (v := 8) (pc := 84) hx hb dX7_share_84 (by decide) ?_
    refine lv_iload (pc := 86) hx hb dX7_share_86 (lv_at hl 6 rfl) ?_
    refine lv_iadd (pc := 88) hx hb dX7_share_88 ?_
    obtain ⟨hi, h⟩ := am_in_s h
    refine va_iald (pc := 89) hx hb hK.1 hP 1 0 rfl rfl hi dX7_share_89 ?_
    refine lv_i2l (pc := 90) hx hb dX7_share_90 rfl ?_
    refine lv_goto (pc := 91) (tgt := 95) hx hb dX7_share_91 (by decide) ?_
    refine lv_ladd (pc := 95) hx hb dX7_share_95 ?_
    refine lv_topl (fun x17 ex17 => ?_)
    replace h := am_let_s ex17 h
    refine lv_lstore (lv' := [(5, .long x17), (0, .ref mself), (1, .int p0), (2, .int p1), (3, .int p2), (4, .int p3), (7, .int x10)]) (pc := 96) hx hb dX7_share_96 hl (by decide) rfl (fun ls hl => ?_)
    obtain ⟨x18, ex18⟩ : ∃ y : Int32, y = (x10 + (1 : Int32)) := ⟨_, rfl⟩
    replace h := am_let_s ex18 h
    refine lv_iinc (pc := 98) (v := x18) (lv' := [(7, .int x18), (5, .long x17), (0, .ref mself), (1, .int p0), (2, .int p1), (3, .int p2), (4, .int p3)]) hx hb dX7_share_98 hl (k := 6) rfl (by rw [ex18]; rfl) (by decide) rfl (fun ls hl => ?_)
    refine lv_goto (pc := 101) (tgt := 47) hx hb dX7_share_101 (by decide) ?_
    exact ihrec11 _ _ h ls (lv_sub hl [2, 3, 4, 5, 6, 1, 0] rfl)
  replace h := am_t cc h
  refine lv_ldc (pc := 38) hx hb hown hk175 dX7_share_38 ?_
  obtain e1 := am_ret1 h
  exact hret _ _ _ dX7_share_40 rfl e1
theorem hdX7_would : yX7_would.cls ≠ "java/lang/invoke/MethodHandle" ∧ yX7_would.cls ≠ "java/lang/invoke/VarHandle" ∧ (parseMethodDescriptor yX7_would.desc).map (fun d => d.parameters.length) = some 2 := by decide +kernel
abbrev rmX7_would : Room := { frames := 3, cells := 0, slots := 0, locals := 75 }
set_option maxHeartbeats 20000000 in
set_option maxRecDepth 100000 in
theorem c_X7_would (l : Launch) (D : va_G) (cI cJ : ClassId) (mself : Nat) (msa : Nat) (mpasta : Nat) (mhelda : Nat) (mtexta : Nat) (mchosena : Nat) (mtimesa : Nat) (mrestsa : Nat) (mbeforea : Nat) (mtolda : Nat) (mpasts : Int32) (mruns : Int32) (mtyped : Int32) (mspot : Int32) (mfrom : Int32) (mreason : Int32) (mcause : Int32) (morders : Int32) (mkind : Int32) (ms : Nat → Int32) (mpast : Nat → Int32) (mheld : Nat → Int32) (mtext : Nat → Int32) (mchosen : Nat → Int32) (mtimes : Nat → Int32) (mrests : Nat → Int64) (mbefore : Nat → Int32) (mtold : Nat → Int32) (p0 : Int32) (p1 : Int32) (r0 : Int32) (zms : Nat → Int32) (zmchosen : Nat → Int32) (zmtimes : Nat → Int32) (zmrests : Nat → Int64) (hF : F_X7_would ms mchosen mtimes mrests p0 p1 = some (r0, zms, zmchosen, zmtimes, zmrests)) (sz : Nat) : Met l yX7_would (wz yX7_would cX7_would 4 (some .int)) rmX7_would (kPw D cI cJ [(mself, .inr (7, [.ref msa, .ref mpasta, .ref mhelda, .int mpasts, .int mruns, .ref mtexta, .int mtyped, .ref mchosena, .ref mtimesa, .ref mrestsa, .ref mbeforea, .int mspot, .int mfrom, .int mreason, .int mcause, .int morders, .int mkind, .ref mtolda])), (msa, .inl (cI, 580, .inl ms)), (mpasta, .inl (cI, 2320, .inl mpast)), (mhelda, .inl (cI, 580, .inl mheld)), (mtexta, .inl (cI, 60, .inl mtext)), (mchosena, .inl (cI, 12, .inl mchosen)), (mtimesa, .inl (cI, 12, .inl mtimes)), (mrestsa, .inl (cJ, 12, .inr (.inl mrests))), (mbeforea, .inl (cI, 12, .inl mbefore)), (mtolda, .inl (cI, 2, .inl mtold))] sz [.ref mself, .int p0, .int p1]) (kQi D r0 [(mself, .inr (7, [.ref msa, .ref mpasta, .ref mhelda, .int mpasts, .int mruns, .ref mtexta, .int mtyped, .ref mchosena, .ref mtimesa, .ref mrestsa, .ref mbeforea, .int mspot, .int mfrom, .int mreason, .int mcause, .int morders, .int mkind, .ref mtolda])), (msa, .inl (cI, 580, .inl zms)), (mpasta, .inl (cI, 2320, .inl mpast)), (mhelda, .inl (cI, 580, .inl mheld)), (mtexta, .inl (cI, 60, .inl mtext)), (mchosena, .inl (cI, 12, .inl zmchosen)), (mtimesa, .inl (cI, 12, .inl zmtimes)), (mrestsa, .inl (cJ, 12, .inr (.inl zmrests))), (mbeforea, .inl (cI, 12, .inl mbefore)), (mtolda, .inl (cI, 2, .inl mtold))] (va_A [(mself, .inr (7, [.ref msa, .ref mpasta, .ref mhelda, .int mpasts, .int mruns, .ref mtexta, .int mtyped, .ref mchosena, .ref mtimesa, .ref mrestsa, .ref mbeforea, .int mspot, .int mfrom, .int mreason, .int mcause, .int morders, .int mkind, .ref mtolda])), (msa, .inl (cI, 580, .inl ms)), (mpasta, .inl (cI, 2320, .inl mpast)), (mhelda, .inl (cI, 580, .inl mheld)), (mtexta, .inl (cI, 60, .inl mtext)), (mchosena, .inl (cI, 12, .inl mchosen)), (mtimesa, .inl (cI, 12, .inl mtimes)), (mrestsa, .inl (cJ, 12, .inr (.inl mrests))), (mbeforea, .inl (cI, 12, .inl mbefore)), (mtolda, .inl (cI, 2, .inl mtold))] sz)) 0 0 (va_A [(mself, .inr (7, [.ref msa, .ref mpasta, .ref mhelda, .int mpasts, .int mruns, .ref mtexta, .int mtyped, .ref mchosena, .ref mtimesa, .ref mrestsa, .ref mbeforea, .int mspot, .int mfrom, .int mreason, .int mcause, .int morders, .int mkind, .ref mtolda])), (msa, .inl (cI, 580, .inl ms)), (mpasta, .inl (cI, 2320, .inl mpast)), (mhelda, .inl (cI, 580, .inl mheld)), (mtexta, .inl (cI, 60, .inl mtext)), (mchosena, .inl (cI, 12, .inl mchosen)), (mtimesa, .inl (cI, 12, .inl mtimes)), (mrestsa, .inl (cJ, 12, .inr (.inl mrests))), (mbeforea, .inl (cI, 12, .inl mbefore)), (mtolda, .inl (cI, 2, .inl mtold))] sz) := by
  refine kM_wi cX7_would 4 .int (by decide +kernel) rfl rfl (Nat.le_of_ble_eq_true rfl) ⟨rfl, rfl⟩ ?_
  intro p e s m args below meth c Q A ls hx hb hml hown hts hP hK hD hA hS hl hret
  have hk121 := hts _ (List.mem_cons_of_mem _ wl121)
  have hk125 := hts _ (List.mem_cons_of_mem _ wl125)
  have hk175 := hts _ (List.mem_cons_of_mem _ wl175)
  have hnX7 : ∀ w ∈ u_ws RX7 TX7 18, w ∈ wz yX7_would cX7_would 4 (some .int) := fun w h => List.mem_cons_of_mem _ (inlX7 w h)
  replace hl : lv_has ls 4 [(0, .ref mself), (1, .int p0), (2, .int p1)] := hl
  have h := hF
  unfold F_X7_would at h
  refine lv_iload_n (pc := 0) hx hb dX7_would_0 rfl (lv_at hl 1 rfl) ?_
  refine lv_iconst (v := 0) (pc := 1) hx hb dX7_would_1 (by decide) ?_
  refine lv_iconst (v := 2) (pc := 2) hx hb dX7_would_2 (by decide) ?_
  obtain ⟨r1, hc1, h⟩ := am_bind_s h
  refine kc_Si (pc := 3) ⟨hx, hb, hml, hown, hts⟩ hP hK [.int p0, .int (0 : Int32), .int (2 : Int32)] (c_X7_in l D cI cJ p0 (0 : Int32) (2 : Int32) r1 hc1) [] rfl (cwS 3 hts (gzS wl176 wl177 wl5 wl178) rfl rfl rfl ⟨rfl, hdX7_in⟩ ⟨Nat.le_of_ble_eq_true rfl, Nat.le_of_ble_eq_true rfl⟩) [] rfl hl.1 rfl (Nat.le_of_ble_eq_true rfl) dX7_would_3 ⟨Nat.zero_le _, Nat.zero_le _⟩ ?_
  refine lv_if_eq (pc := 6) (tgt := 17) hx hb dX7_would_6 (by decide) (fun cc => ?_) (fun cc => ?_)
  · replace h := am_t cc h
    refine lv_ldc (pc := 17) hx hb hown hk175 dX7_would_17 ?_
    obtain ⟨e1, e2, e3, e4, e5⟩ := am_ret5 h
    exact hret _ _ _ _ _ dX7_would_19 rfl e1 (by rw [← e2, ← e3, ← e4, ← e5]; exact hP) hS
  replace h := am_f cc h
  refine lv_aload_n (pc := 9) hx hb dX7_would_9 rfl (lv_at hl 0 rfl) ?_
  refine lv_iload_n (pc := 10) hx hb dX7_would_10 rfl (lv_at hl 2 rfl) ?_
  obtain ⟨r2, hc2, h⟩ := am_bind_s h
  refine kc_Vi (pc := 11) (ci := 7) ⟨hx, hb, hml, hown, hts⟩ hP hK [.int p1] (c_X7_isParticle l D cI cJ mself msa mpasta mhelda mtexta mchosena mtimesa mrestsa mbeforea mtolda mpasts mruns mtyped mspot mfrom mreason mcause morders mkind ms mpast mheld mtext mchosen mtimes mrests mbefore mtold p1 r2 hc2) [0, 1, 2, 3, 4, 5, 6, 7, 8, 9] rfl (cwV 1 hts (gzV wl223 wl224 wl225 wl5 wl226) rfl rfl rfl ⟨rfl, hdX7_isParticle⟩ ⟨Nat.le_of_ble_eq_true rfl, Nat.le_of_ble_eq_true rfl⟩) rfl rfl [] rfl hl.1 rfl (Nat.le_of_ble_eq_true rfl) dX7_would_11 ⟨Nat.zero_le _, Nat.zero_le _⟩ ?_
  refine lv_if_ne (pc := 14) (tgt := 20) hx hb dX7_would_14 (by decide) (fun cc => ?_) (fun cc => ?_)
  · replace h := am_f cc h
    refine lv_aload_n (pc := 20) hx hb dX7_would_20 rfl (lv_at hl 0 rfl) ?_
    refine va_get (pc := 21) (D := D) (ci := 7) (v := .ref msa) (C := RX7) (T := TX7) (N := 18) hx hb hts hnX7 hown hK.1 hP 0 rfl rfl 0 (Nat.le_of_ble_eq_true rfl) hk121 (fun _ h9 => h9) rfl dX7_would_21 ?_
    refine lv_iconst (v := 2) (pc := 24) hx hb dX7_would_24 (by decide) ?_
    refine va_iald (pc := 25) hx hb hK.1 hP 1 0 rfl rfl (vp_in_nI (n := 2) (N := 580) (by decide) (by decide)) dX7_would_25 ?_
    refine lv_topi (fun x3 ex3 => ?_)
    replace h := am_let_s ex3 h
    refine lv_istore_n (lv' := [(3, .int x3), (0, .ref mself), (1, .int p0), (2, .int p1)]) (pc := 26) hx hb dX7_would_26 rfl hl (by decide) rfl (fun ls hl => ?_)
    refine lv_aload_n (pc := 27) hx hb dX7_would_27 rfl (lv_at hl 1 rfl) ?_
    refine lv_iload_n (pc := 28) hx hb dX7_would_28 rfl (lv_at hl 2 rfl) ?_
    obtain ⟨f4, f5, f6, f7, hc7, h⟩ := am_call4_s h
    refine kc_Wv (pc := 29) (ci := 7) ⟨hx, hb, hml, hown, hts⟩ hP hK hD hS hA [.int p0] (c_X7_chooses l D cI cJ mself msa mpasta mhelda mtexta mchosena mtimesa mrestsa mbeforea mtolda mpasts mruns mtyped mspot mfrom mreason mcause morders mkind ms mpast mheld mtext mchosen mtimes mrests mbefore mtold p0 f4 f5 f6 f7 hc7 _) [0, 1, 2, 3, 4, 5, 6, 7, 8, 9] rfl rfl rfl (cwV 1 hts (gzV wl391 wl392 wl393 wl5 wl394) rfl rfl rfl ⟨rfl, hdX7_chooses⟩ ⟨Nat.le_of_ble_eq_true rfl, Nat.le_of_ble_eq_true rfl⟩) rfl rfl [] rfl hl.1 rfl (Nat.le_of_ble_eq_true rfl) dX7_would_29 ⟨Nat.zero_le _, Nat.zero_le _⟩ (fun H locs hP hD hS => ?_)
    replace hP : va_P D vwCl [(mself, .inr (7, [.ref msa, .ref mpasta, .ref mhelda, .int mpasts, .int mruns, .ref mtexta, .int mtyped, .ref mchosena, .ref mtimesa, .ref mrestsa, .ref mbeforea, .int mspot, .int mfrom, .int mreason, .int mcause, .int morders, .int mkind, .ref mtolda])), (msa, .inl (cI, 580, .inl f4)), (mpasta, .inl (cI, 2320, .inl mpast)), (mhelda, .inl (cI, 580, .inl mheld)), (mtexta, .inl (cI, 60, .inl mtext)), (mchosena, .inl (cI, 12, .inl f5)), (mtimesa, .inl (cI, 12, .inl f6)), (mrestsa, .inl (cJ, 12, .inr (.inl f7))), (mbeforea, .inl (cI, 12, .inl mbefore)), (mtolda, .inl (cI, 2, .inl mtold))] H := hP
    replace hD : va_D A [(mself, .inr (7, [.ref msa, .ref mpasta, .ref mhelda, .int mpasts, .int mruns, .ref mtexta, .int mtyped, .ref mchosena, .ref mtimesa, .ref mrestsa, .ref mbeforea, .int mspot, .int mfrom, .int mreason, .int mcause, .int morders, .int mkind, .ref mtolda])), (msa, .inl (cI, 580, .inl f4)), (mpasta, .inl (cI, 2320, .inl mpast)), (mhelda, .inl (cI, 580, .inl mheld)), (mtexta, .inl (cI, 60, .inl mtext)), (mchosena, .inl (cI, 12, .inl f5)), (mtimesa, .inl (cI, 12, .inl f6)), (mrestsa, .inl (cJ, 12, .inr (.inl f7))), (mbeforea, .inl (cI, 12, .inl mbefore)), (mtolda, .inl (cI, 2, .inl mtold))] := hD
    refine lv_aload_n (pc := 32) hx hb dX7_would_32 rfl (lv_at hl 1 rfl) ?_
    refine va_get (pc := 33) (D := D) (ci := 7) (v := .ref msa) (C := RX7) (T := TX7) (N := 18) hx hb hts hnX7 hown hK.1 hP 0 rfl rfl 0 (Nat.le_of_ble_eq_true rfl) hk121 (fun _ h9 => h9) rfl dX7_would_33 ?_
    refine lv_iconst (v := 2) (pc := 36) hx hb dX7_would_36 (by decide) ?_
    refine lv_iload_n (pc := 37) hx hb dX7_would_37 rfl (lv_at hl 0 rfl) ?_
    obtain ⟨f8, ef8⟩ : ∃ y : Nat → Int32, y = (upd f4 (2 : Int32).toNatClampNeg x3) := ⟨_, rfl⟩
    replace h := am_let_s ef8 h
    refine va_iast (pc := 38) hx hb hK.1 hP hD hS 1 0 rfl rfl (vp_in_nI (n := 2) (N := 580) (by decide) (by decide)) dX7_would_38 (fun H locs hP hD hS => ?_)
    rw [← ef8] at hP hD
    replace hP : va_P D vwCl [(mself, .inr (7, [.ref msa, .ref mpasta, .ref mhelda, .int mpasts, .int mruns, .ref mtexta, .int mtyped, .ref mchosena, .ref mtimesa, .ref mrestsa, .ref mbeforea, .int mspot, .int mfrom, .int mreason, .int mcause, .int morders, .int mkind, .ref mtolda])), (msa, .inl (cI, 580, .inl f8)), (mpasta, .inl (cI, 2320, .inl mpast)), (mhelda, .inl (cI, 580, .inl mheld)), (mtexta, .inl (cI, 60, .inl mtext)), (mchosena, .inl (cI, 12, .inl f5)), (mtimesa, .inl (cI, 12, .inl f6)), (mrestsa, .inl (cJ, 12, .inr (.inl f7))), (mbeforea, .inl (cI, 12, .inl mbefore)), (mtolda, .inl (cI, 2, .inl mtold))] H := hP
    replace hD : va_D A [(mself, .inr (7, [.ref msa, .ref mpasta, .ref mhelda, .int mpasts, .int mruns, .ref mtexta, .int mtyped, .ref mchosena, .ref mtimesa, .ref mrestsa, .ref mbeforea, .int mspot, .int mfrom, .int mreason, .int mcause, .int morders, .int mkind, .ref mtolda])), (msa, .inl (cI, 580, .inl f8)), (mpasta, .inl (cI, 2320, .inl mpast)), (mhelda, .inl (cI, 580, .inl mheld)), (mtexta, .inl (cI, 60, .inl mtext)), (mchosena, .inl (cI, 12, .inl f5)), (mtimesa, .inl (cI, 12, .inl f6)), (mrestsa, .inl (cJ, 12, .inr (.inl f7))), (mbeforea, .inl (cI, 12, .inl mbefore)), (mtolda, .inl (cI, 2, .inl mtold))] := hD
    refine lv_aload_n (pc := 39) hx hb dX7_would_39 rfl (lv_at hl 1 rfl) ?_
    refine va_get (pc := 40) (D := D) (ci := 7) (v := .ref mchosena) (C := RX7) (T := TX7) (N := 18) hx hb hts hnX7 hown hK.1 hP 0 rfl rfl 7 (Nat.le_of_ble_eq_true rfl) hk125 (fun _ h9 => h9) rfl dX7_would_40 ?_
    refine lv_iload_n (pc := 43) hx hb dX7_would_43 rfl (lv_at hl 3 rfl) ?_
    obtain ⟨hi, h⟩ := am_in_s h
    refine va_iald (pc := 44) hx hb hK.1 hP 5 0 rfl rfl hi dX7_would_44 ?_
    obtain ⟨e1, e2, e3, e4, e5⟩ := am_ret5 h
    exact hret _ _ _ _ _ dX7_would_45 rfl e1 (by rw [← e2, ← e3, ← e4, ← e5]; exact hP) hS
  replace h := am_t cc h
  refine lv_ldc (pc := 17) hx hb hown hk175 dX7_would_17 ?_
  obtain ⟨e1, e2, e3, e4, e5⟩ := am_ret5 h
  exact hret _ _ _ _ _ dX7_would_19 rfl e1 (by rw [← e2, ← e3, ← e4, ← e5]; exact hP) hS
theorem hdX7_zeros : yX7_zeros.cls ≠ "java/lang/invoke/MethodHandle" ∧ yX7_zeros.cls ≠ "java/lang/invoke/VarHandle" ∧ (parseMethodDescriptor yX7_zeros.desc).map (fun d => d.parameters.length) = some 0 := by decide +kernel
abbrev rmX7_zeros : Room := { frames := 0, cells := 0, slots := 0, locals := 0 }
set_option maxHeartbeats 20000000 in
set_option maxRecDepth 100000 in
theorem c_X7_zeros (l : Launch) (D : va_G) (cI cJ : ClassId) (mself : Nat) (msa : Nat) (mpasta : Nat) (mhelda : Nat) (mtexta : Nat) (mchosena : Nat) (mtimesa : Nat) (mrestsa : Nat) (mbeforea : Nat) (mtolda : Nat) (mpasts : Int32) (mruns : Int32) (mtyped : Int32) (mspot : Int32) (mfrom : Int32) (mreason : Int32) (mcause : Int32) (morders : Int32) (mkind : Int32) (ms : Nat → Int32) (mpast : Nat → Int32) (mheld : Nat → Int32) (mtext : Nat → Int32) (mchosen : Nat → Int32) (mtimes : Nat → Int32) (mrests : Nat → Int64) (mbefore : Nat → Int32) (mtold : Nat → Int32)  (r0 : Int32) (hF : F_X7_zeros ms = some r0) : Met l yX7_zeros (wz yX7_zeros cX7_zeros 3 (some .int)) rmX7_zeros (kPc D cI cJ [(mself, .inr (7, [.ref msa, .ref mpasta, .ref mhelda, .int mpasts, .int mruns, .ref mtexta, .int mtyped, .ref mchosena, .ref mtimesa, .ref mrestsa, .ref mbeforea, .int mspot, .int mfrom, .int mreason, .int mcause, .int morders, .int mkind, .ref mtolda])), (msa, .inl (cI, 580, .inl ms)), (mpasta, .inl (cI, 2320, .inl mpast)), (mhelda, .inl (cI, 580, .inl mheld)), (mtexta, .inl (cI, 60, .inl mtext)), (mchosena, .inl (cI, 12, .inl mchosen)), (mtimesa, .inl (cI, 12, .inl mtimes)), (mrestsa, .inl (cJ, 12, .inr (.inl mrests))), (mbeforea, .inl (cI, 12, .inl mbefore)), (mtolda, .inl (cI, 2, .inl mtold))] [.ref mself]) (vp_Si (fun r => r = r0)) 0 0 (fun _ => False) := by
  refine kM_ri cX7_zeros 3 .int (by decide +kernel) rfl rfl (Nat.le_of_ble_eq_true rfl) ⟨rfl, rfl⟩ ?_
  intro p e s m args below meth c Q ls hx hb hml hown hts hP hK hl hret
  have hk121 := hts _ (List.mem_cons_of_mem _ wl121)
  have hnX7 : ∀ w ∈ u_ws RX7 TX7 18, w ∈ wz yX7_zeros cX7_zeros 3 (some .int) := fun w h => List.mem_cons_of_mem _ (inlX7 w h)
  replace hl : lv_has ls 3 [(0, .ref mself)] := hl
  have h := hF
  unfold F_X7_zeros at h
  refine lv_iconst (v := 0) (pc := 0) hx hb dX7_zeros_0 (by decide) ?_
  refine lv_istore_n (lv' := [(1, .int (0 : Int32)), (0, .ref mself)]) (pc := 1) hx hb dX7_zeros_1 rfl hl (by decide) rfl (fun ls hl => ?_)
  refine lv_iconst (v := 0) (pc := 2) hx hb dX7_zeros_2 (by decide) ?_
  refine lv_istore_n (lv' := [(2, .int (0 : Int32)), (1, .int (0 : Int32)), (0, .ref mself)]) (pc := 3) hx hb dX7_zeros_3 rfl hl (by decide) rfl (fun ls hl => ?_)
  refine am_join1_s (fun (x1 : Int32) => ∀ (ls : Array Slot), lv_has ls 3 [(1, .int x1)] → W p l e rmX7_zeros s m args below meth c s.heap [] 0 0 Q (F0 m 40 ls [])) h (fun x1 h ls hl => ?_) (fun K2 hK2 h => ?_)
  · refine lv_iload_n (pc := 40) hx hb dX7_zeros_40 rfl (lv_at hl 0 rfl) ?_
    obtain e1 := am_ret1 h
    exact hret _ _ _ dX7_zeros_41 rfl e1
  refine am_loop2_s (fun (x3 : Int32) (x4 : Int32) => ∀ (ls : Array Slot), lv_has ls 3 [(0, .ref mself), (1, .int x3), (2, .int x4)] → W p l e rmX7_zeros s m args below meth c s.heap [] 0 0 Q (F0 m 4 ls [])) (fun rec5 ihrec5 x3 x4 h ls hl => ?_) _ _ _ h ls (lv_sub hl [2, 1, 0] rfl)
  unfold F_X7_zeros_B4 at h
  refine lv_iload_n (pc := 4) hx hb dX7_zeros_4 rfl (lv_at hl 2 rfl) ?_
  refine lv_aload_n (pc := 5) hx hb dX7_zeros_5 rfl (lv_at hl 0 rfl) ?_
  refine va_get (pc := 6) (D := D) (ci := 7) (v := .ref msa) (C := RX7) (T := TX7) (N := 18) hx hb hts hnX7 hown hK.1 hP 0 rfl rfl 0 (Nat.le_of_ble_eq_true rfl) hk121 (fun _ h9 => h9) rfl dX7_zeros_6 ?_
  refine lv_iconst (v := 0) (pc := 9) hx hb dX7_zeros_9 (by decide) ?_
  refine va_iald (pc := 10) hx hb hK.1 hP 1 0 rfl rfl (vp_in_nI (n := 0) (N := 580) (by decide) (by decide)) dX7_zeros_10 ?_
  refine lv_icmp_ge (pc := 11) (tgt := 40) hx hb dX7_zeros_11 (by decide) (fun cc => ?_) (fun cc => ?_)
  · replace h := am_t cc h
    exact hK2 _ h ls (lv_sub hl [1] rfl)
  replace h := am_f cc h
  refine lv_iload_n (pc := 14) hx hb dX7_zeros_14 rfl (lv_at hl 1 rfl) ?_
  refine lv_aload_n (pc := 15) hx hb dX7_zeros_15 rfl (lv_at hl 0 rfl) ?_
  refine va_get (pc := 16) (D := D) (ci := 7) (v := .ref msa) (C := RX7) (T := TX7) (N := 18) hx hb hts hnX7 hown hK.1 hP 0 rfl rfl 0 (Nat.le_of_ble_eq_true rfl) hk121 (fun _ h9 => h9) rfl dX7_zeros_16 ?_
  refine lv_bipush (v := 8) (pc := 19) hx hb dX7_zeros_19 (by decide) ?_
  refine lv_iload_n (pc := 21) hx hb dX7_zeros_21 rfl (lv_at hl 2 rfl) ?_
  refine lv_iadd (pc := 22) hx hb dX7_zeros_22 ?_
  obtain ⟨hi, h⟩ := am_in_s h
  refine va_iald (pc := 23) hx hb hK.1 hP 1 0 rfl rfl hi dX7_zeros_23 ?_
  refine lv_if_ne (pc := 24) (tgt := 31) hx hb dX7_zeros_24 (by decide) (fun cc => ?_) (fun cc => ?_)
  · replace h := am_f cc h
    refine lv_iconst (v := 0) (pc := 31) hx hb dX7_zeros_31 (by decide) ?_
    refine lv_iadd (pc := 32) hx hb dX7_zeros_32 ?_
    refine lv_topi (fun x6 ex6 => ?_)
    replace h := am_let_s ex6 h
    refine lv_istore_n (lv' := [(1, .int x6), (0, .ref mself), (2, .int x4)]) (pc := 33) hx hb dX7_zeros_33 rfl hl (by decide) rfl (fun ls hl => ?_)
    obtain ⟨x7, ex7⟩ : ∃ y : Int32, y = (x4 + (1 : Int32)) := ⟨_, rfl⟩
    replace h := am_let_s ex7 h
    refine lv_iinc (pc := 34) (v := x7) (lv' := [(2, .int x7), (1, .int x6), (0, .ref mself)]) hx hb dX7_zeros_34 hl (k := 2) rfl (by rw [ex7]; rfl) (by decide) rfl (fun ls hl => ?_)
    refine lv_goto (pc := 37) (tgt := 4) hx hb dX7_zeros_37 (by decide) ?_
    exact ihrec5 _ _ h ls (lv_sub hl [2, 1, 0] rfl)
  replace h := am_t cc h
  refine lv_iconst (v := 1) (pc := 27) hx hb dX7_zeros_27 (by decide) ?_
  refine lv_goto (pc := 28) (tgt := 32) hx hb dX7_zeros_28 (by decide) ?_
  refine lv_iadd (pc := 32) hx hb dX7_zeros_32 ?_
  refine lv_topi (fun x8 ex8 => ?_)
  replace h := am_let_s ex8 h
  refine lv_istore_n (lv' := [(1, .int x8), (0, .ref mself), (2, .int x4)]) (pc := 33) hx hb dX7_zeros_33 rfl hl (by decide) rfl (fun ls hl => ?_)
  obtain ⟨x9, ex9⟩ : ∃ y : Int32, y = (x4 + (1 : Int32)) := ⟨_, rfl⟩
  replace h := am_let_s ex9 h
  refine lv_iinc (pc := 34) (v := x9) (lv' := [(2, .int x9), (1, .int x8), (0, .ref mself)]) hx hb dX7_zeros_34 hl (k := 2) rfl (by rw [ex9]; rfl) (by decide) rfl (fun ls hl => ?_)
  refine lv_goto (pc := 37) (tgt := 4) hx hb dX7_zeros_37 (by decide) ?_
  exact ihrec5 _ _ h ls (lv_sub hl [2, 1, 0] rfl)
theorem hdX7_count : yX7_count.cls ≠ "java/lang/invoke/MethodHandle" ∧ yX7_count.cls ≠ "java/lang/invoke/VarHandle" ∧ (parseMethodDescriptor yX7_count.desc).map (fun d => d.parameters.length) = some 1 := by decide +kernel
abbrev rmX7_count : Room := { frames := 2, cells := 0, slots := 0, locals := 47 }
set_option maxHeartbeats 20000000 in
set_option maxRecDepth 100000 in
theorem c_X7_count (l : Launch) (D : va_G) (cI cJ : ClassId) (mself : Nat) (msa : Nat) (mpasta : Nat) (mhelda : Nat) (mtexta : Nat) (mchosena : Nat) (mtimesa : Nat) (mrestsa : Nat) (mbeforea : Nat) (mtolda : Nat) (mpasts : Int32) (mruns : Int32) (mtyped : Int32) (mspot : Int32) (mfrom : Int32) (mreason : Int32) (mcause : Int32) (morders : Int32) (mkind : Int32) (ms : Nat → Int32) (mpast : Nat → Int32) (mheld : Nat → Int32) (mtext : Nat → Int32) (mchosen : Nat → Int32) (mtimes : Nat → Int32) (mrests : Nat → Int64) (mbefore : Nat → Int32) (mtold : Nat → Int32) (p0 : Int32) (r0 : Int32) (hF : F_X7_count mpasts mtyped ms p0 = some r0) : Met l yX7_count (wz yX7_count cX7_count 2 (some .int)) rmX7_count (kPc D cI cJ [(mself, .inr (7, [.ref msa, .ref mpasta, .ref mhelda, .int mpasts, .int mruns, .ref mtexta, .int mtyped, .ref mchosena, .ref mtimesa, .ref mrestsa, .ref mbeforea, .int mspot, .int mfrom, .int mreason, .int mcause, .int morders, .int mkind, .ref mtolda])), (msa, .inl (cI, 580, .inl ms)), (mpasta, .inl (cI, 2320, .inl mpast)), (mhelda, .inl (cI, 580, .inl mheld)), (mtexta, .inl (cI, 60, .inl mtext)), (mchosena, .inl (cI, 12, .inl mchosen)), (mtimesa, .inl (cI, 12, .inl mtimes)), (mrestsa, .inl (cJ, 12, .inr (.inl mrests))), (mbeforea, .inl (cI, 12, .inl mbefore)), (mtolda, .inl (cI, 2, .inl mtold))] [.ref mself, .int p0]) (vp_Si (fun r => r = r0)) 0 0 (fun _ => False) := by
  refine kM_ri cX7_count 2 .int (by decide +kernel) rfl rfl (Nat.le_of_ble_eq_true rfl) ⟨rfl, rfl⟩ ?_
  intro p e s m args below meth c Q ls hx hb hml hown hts hP hK hl hret
  have hk121 := hts _ (List.mem_cons_of_mem _ wl121)
  have hk175 := hts _ (List.mem_cons_of_mem _ wl175)
  have hk184 := hts _ (List.mem_cons_of_mem _ wl184)
  have hk635 := hts _ (List.mem_cons_of_mem _ wl635)
  have hnX7 : ∀ w ∈ u_ws RX7 TX7 18, w ∈ wz yX7_count cX7_count 2 (some .int) := fun w h => List.mem_cons_of_mem _ (inlX7 w h)
  replace hl : lv_has ls 2 [(0, .ref mself), (1, .int p0)] := hl
  have h := hF
  unfold F_X7_count at h
  refine lv_iload_n (pc := 0) hx hb dX7_count_0 rfl (lv_at hl 1 rfl) ?_
  by_cases cc : p0 = (0 : Int32)
  · replace h := am_t cc h
    refine lv_tableIn (pc := 1) (tgt := 60) hx hb dX7_count_1 (by rw [cc]; decide) (by rw [cc]; decide) (by rw [cc]; rfl) (by decide) ?_
    refine lv_aload_n (pc := 60) hx hb dX7_count_60 rfl (lv_at hl 0 rfl) ?_
    refine va_get (pc := 61) (D := D) (ci := 7) (v := .ref msa) (C := RX7) (T := TX7) (N := 18) hx hb hts hnX7 hown hK.1 hP 0 rfl rfl 0 (Nat.le_of_ble_eq_true rfl) hk121 (fun _ h9 => h9) rfl dX7_count_61 ?_
    refine lv_iload_n (pc := 64) hx hb dX7_count_64 rfl (lv_at hl 1 rfl) ?_
    obtain ⟨hi, h⟩ := am_in_s h
    refine va_iald (pc := 65) hx hb hK.1 hP 1 0 rfl rfl hi dX7_count_65 ?_
    obtain e1 := am_ret1 h
    exact hret _ _ _ dX7_count_66 rfl e1
  replace h := am_f cc h
  have n0 := cc
  by_cases cc : p0 = (1 : Int32)
  · replace h := am_t cc h
    refine lv_tableIn (pc := 1) (tgt := 60) hx hb dX7_count_1 (by rw [cc]; decide) (by rw [cc]; decide) (by rw [cc]; rfl) (by decide) ?_
    refine lv_aload_n (pc := 60) hx hb dX7_count_60 rfl (lv_at hl 0 rfl) ?_
    refine va_get (pc := 61) (D := D) (ci := 7) (v := .ref msa) (C := RX7) (T := TX7) (N := 18) hx hb hts hnX7 hown hK.1 hP 0 rfl rfl 0 (Nat.le_of_ble_eq_true rfl) hk121 (fun _ h9 => h9) rfl dX7_count_61 ?_
    refine lv_iload_n (pc := 64) hx hb dX7_count_64 rfl (lv_at hl 1 rfl) ?_
    obtain ⟨hi, h⟩ := am_in_s h
    refine va_iald (pc := 65) hx hb hK.1 hP 1 0 rfl rfl hi dX7_count_65 ?_
    obtain e1 := am_ret1 h
    exact hret _ _ _ dX7_count_66 rfl e1
  replace h := am_f cc h
  have n1 := cc
  by_cases cc : p0 = (2 : Int32)
  · replace h := am_t cc h
    refine lv_tableIn (pc := 1) (tgt := 67) hx hb dX7_count_1 (by rw [cc]; decide) (by rw [cc]; decide) (by rw [cc]; rfl) (by decide) ?_
    refine lv_aload_n (pc := 67) hx hb dX7_count_67 rfl (lv_at hl 0 rfl) ?_
    obtain ⟨r1, hc1, h⟩ := am_bind_s h
    refine kc_Vi (pc := 68) (ci := 7) ⟨hx, hb, hml, hown, hts⟩ hP hK [] (c_X7_sum l D cI cJ mself msa mpasta mhelda mtexta mchosena mtimesa mrestsa mbeforea mtolda mpasts mruns mtyped mspot mfrom mreason mcause morders mkind ms mpast mheld mtext mchosen mtimes mrests mbefore mtold r1 hc1) [0, 1, 2, 3, 4, 5, 6, 7, 8, 9] rfl (cwV 0 hts (gzV wl227 wl228 wl229 wl5 wl230) rfl rfl rfl ⟨rfl, hdX7_sum⟩ ⟨Nat.le_of_ble_eq_true rfl, Nat.le_of_ble_eq_true rfl⟩) rfl rfl [] rfl hl.1 rfl (Nat.le_of_ble_eq_true rfl) dX7_count_68 ⟨Nat.zero_le _, Nat.zero_le _⟩ ?_
    obtain e1 := am_ret1 h
    exact hret _ _ _ dX7_count_71 rfl e1
  replace h := am_f cc h
  have n2 := cc
  by_cases cc : p0 = (3 : Int32)
  · replace h := am_t cc h
    refine lv_tableIn (pc := 1) (tgt := 72) hx hb dX7_count_1 (by rw [cc]; decide) (by rw [cc]; decide) (by rw [cc]; rfl) (by decide) ?_
    refine lv_aload_n (pc := 72) hx hb dX7_count_72 rfl (lv_at hl 0 rfl) ?_
    obtain ⟨r2, hc2, h⟩ := am_bind_s h
    refine kc_Vi (pc := 73) (ci := 7) ⟨hx, hb, hml, hown, hts⟩ hP hK [] (c_X7_effective l D cI cJ mself msa mpasta mhelda mtexta mchosena mtimesa mrestsa mbeforea mtolda mpasts mruns mtyped mspot mfrom mreason mcause morders mkind ms mpast mheld mtext mchosen mtimes mrests mbefore mtold r2 hc2) [0, 1, 2, 3, 4, 5, 6, 7, 8, 9] rfl (cwV 0 hts (gzV wl383 wl384 wl385 wl5 wl386) rfl rfl rfl ⟨rfl, hdX7_effective⟩ ⟨Nat.le_of_ble_eq_true rfl, Nat.le_of_ble_eq_true rfl⟩) rfl rfl [] rfl hl.1 rfl (Nat.le_of_ble_eq_true rfl) dX7_count_73 ⟨Nat.zero_le _, Nat.zero_le _⟩ ?_
    obtain e1 := am_ret1 h
    exact hret _ _ _ dX7_count_76 rfl e1
  replace h := am_f cc h
  have n3 := cc
  by_cases cc : p0 = (4 : Int32)
  · replace h := am_t cc h
    refine lv_tableIn (pc := 1) (tgt := 77) hx hb dX7_count_1 (by rw [cc]; decide) (by rw [cc]; decide) (by rw [cc]; rfl) (by decide) ?_
    refine lv_aload_n (pc := 77) hx hb dX7_count_77 rfl (lv_at hl 0 rfl) ?_
    refine va_get (pc := 78) (D := D) (ci := 7) (v := .ref msa) (C := RX7) (T := TX7) (N := 18) hx hb hts hnX7 hown hK.1 hP 0 rfl rfl 0 (Nat.le_of_ble_eq_true rfl) hk121 (fun _ h9 => h9) rfl dX7_count_78 ?_
    refine lv_iconst (v := 2) (pc := 81) hx hb dX7_count_81 (by decide) ?_
    refine va_iald (pc := 82) hx hb hK.1 hP 1 0 rfl rfl (vp_in_nI (n := 2) (N := 580) (by decide) (by decide)) dX7_count_82 ?_
    obtain e1 := am_ret1 h
    exact hret _ _ _ dX7_count_83 rfl e1
  replace h := am_f cc h
  have n4 := cc
  by_cases cc : p0 = (5 : Int32)
  · replace h := am_t cc h
    refine lv_tableIn (pc := 1) (tgt := 84) hx hb dX7_count_1 (by rw [cc]; decide) (by rw [cc]; decide) (by rw [cc]; rfl) (by decide) ?_
    refine lv_aload_n (pc := 84) hx hb dX7_count_84 rfl (lv_at hl 0 rfl) ?_
    obtain ⟨r3, hc3, h⟩ := am_bind_s h
    refine kc_Vi (pc := 85) (ci := 7) ⟨hx, hb, hml, hown, hts⟩ hP hK [] (c_X7_zeros l D cI cJ mself msa mpasta mhelda mtexta mchosena mtimesa mrestsa mbeforea mtolda mpasts mruns mtyped mspot mfrom mreason mcause morders mkind ms mpast mheld mtext mchosen mtimes mrests mbefore mtold r3 hc3) [0, 1, 2, 3, 4, 5, 6, 7, 8, 9] rfl (cwV 0 hts (gzV wl636 wl637 wl638 wl5 wl639) rfl rfl rfl ⟨rfl, hdX7_zeros⟩ ⟨Nat.le_of_ble_eq_true rfl, Nat.le_of_ble_eq_true rfl⟩) rfl rfl [] rfl hl.1 rfl (Nat.le_of_ble_eq_true rfl) dX7_count_85 ⟨Nat.zero_le _, Nat.zero_le _⟩ ?_
    obtain e1 := am_ret1 h
    exact hret _ _ _ dX7_count_88 rfl e1
  replace h := am_f cc h
  have n5 := cc
  by_cases cc : p0 = (6 : Int32)
  · replace h := am_t cc h
    refine lv_tableIn (pc := 1) (tgt := 89) hx hb dX7_count_1 (by rw [cc]; decide) (by rw [cc]; decide) (by rw [cc]; rfl) (by decide) ?_
    refine lv_aload_n (pc := 89) hx hb dX7_count_89 rfl (lv_at hl 0 rfl) ?_
    refine lv_aload_n (pc := 90) hx hb dX7_count_90 rfl (lv_at hl 0 rfl) ?_
    obtain ⟨r4, hc4, h⟩ := am_bind_s h
    refine kc_Vi (pc := 91) (ci := 7) ⟨hx, hb, hml, hown, hts⟩ hP hK [] (c_X7_latest l D cI cJ mself msa mpasta mhelda mtexta mchosena mtimesa mrestsa mbeforea mtolda mpasts mruns mtyped mspot mfrom mreason mcause morders mkind ms mpast mheld mtext mchosen mtimes mrests mbefore mtold r4 hc4) [0, 1, 2, 3, 4, 5, 6, 7, 8, 9] rfl (cwV 0 hts (gzV wl379 wl380 wl381 wl5 wl382) rfl rfl rfl ⟨rfl, hdX7_latest⟩ ⟨Nat.le_of_ble_eq_true rfl, Nat.le_of_ble_eq_true rfl⟩) rfl rfl [.ref mself] rfl hl.1 rfl (Nat.le_of_ble_eq_true rfl) dX7_count_91 ⟨Nat.zero_le _, Nat.zero_le _⟩ ?_
    refine lv_sipush (v := 340) (pc := 94) hx hb dX7_count_94 (by decide) ?_
    obtain ⟨r5, hc5, h⟩ := am_bind_s h
    refine kc_Vi (pc := 97) (ci := 7) ⟨hx, hb, hml, hown, hts⟩ hP hK [.int r4, .int (340 : Int32)] (c_X7_unlike l D cI cJ mself msa mpasta mhelda mtexta mchosena mtimesa mrestsa mbeforea mtolda mpasts mruns mtyped mspot mfrom mreason mcause morders mkind ms mpast mheld mtext mchosen mtimes mrests mbefore mtold r4 (340 : Int32) r5 hc5) [0, 1, 2, 3, 4, 5, 6, 7, 8, 9] rfl (cwV 2 hts (gzV wl414 wl415 wl416 wl5 wl417) rfl rfl rfl ⟨rfl, hdX7_unlike⟩ ⟨Nat.le_of_ble_eq_true rfl, Nat.le_of_ble_eq_true rfl⟩) rfl rfl [] rfl hl.1 rfl (Nat.le_of_ble_eq_true rfl) dX7_count_97 ⟨Nat.zero_le _, Nat.zero_le _⟩ ?_
    obtain e1 := am_ret1 h
    exact hret _ _ _ dX7_count_100 rfl e1
  replace h := am_f cc h
  have n6 := cc
  by_cases cc : p0 = (7 : Int32)
  · replace h := am_t cc h
    refine lv_tableIn (pc := 1) (tgt := 101) hx hb dX7_count_1 (by rw [cc]; decide) (by rw [cc]; decide) (by rw [cc]; rfl) (by decide) ?_
    refine lv_aload_n (pc := 101) hx hb dX7_count_101 rfl (lv_at hl 0 rfl) ?_
    refine va_get (pc := 102) (D := D) (ci := 7) (v := .ref msa) (C := RX7) (T := TX7) (N := 18) hx hb hts hnX7 hown hK.1 hP 0 rfl rfl 0 (Nat.le_of_ble_eq_true rfl) hk121 (fun _ h9 => h9) rfl dX7_count_102 ?_
    refine lv_iconst (v := 3) (pc := 105) hx hb dX7_count_105 (by decide) ?_
    refine va_iald (pc := 106) hx hb hK.1 hP 1 0 rfl rfl (vp_in_nI (n := 3) (N := 580) (by decide) (by decide)) dX7_count_106 ?_
    obtain e1 := am_ret1 h
    exact hret _ _ _ dX7_count_107 rfl e1
  replace h := am_f cc h
  have n7 := cc
  by_cases cc : p0 = (8 : Int32)
  · replace h := am_t cc h
    refine lv_tableIn (pc := 1) (tgt := 108) hx hb dX7_count_1 (by rw [cc]; decide) (by rw [cc]; decide) (by rw [cc]; rfl) (by decide) ?_
    refine lv_aload_n (pc := 108) hx hb dX7_count_108 rfl (lv_at hl 0 rfl) ?_
    refine va_get (pc := 109) (D := D) (ci := 7) (v := .ref msa) (C := RX7) (T := TX7) (N := 18) hx hb hts hnX7 hown hK.1 hP 0 rfl rfl 0 (Nat.le_of_ble_eq_true rfl) hk121 (fun _ h9 => h9) rfl dX7_count_109 ?_
    refine lv_iconst (v := 4) (pc := 112) hx hb dX7_count_112 (by decide) ?_
    refine va_iald (pc := 113) hx hb hK.1 hP 1 0 rfl rfl (vp_in_nI (n := 4) (N := 580) (by decide) (by decide)) dX7_count_113 ?_
    obtain e1 := am_ret1 h
    exact hret _ _ _ dX7_count_114 rfl e1
  replace h := am_f cc h
  have n8 := cc
  by_cases cc : p0 = (9 : Int32)
  · replace h := am_t cc h
    refine lv_tableIn (pc := 1) (tgt := 115) hx hb dX7_count_1 (by rw [cc]; decide) (by rw [cc]; decide) (by rw [cc]; rfl) (by decide) ?_
    refine lv_aload_n (pc := 115) hx hb dX7_count_115 rfl (lv_at hl 0 rfl) ?_
    refine va_get (pc := 116) (D := D) (ci := 7) (v := .int mpasts) (C := RX7) (T := TX7) (N := 18) hx hb hts hnX7 hown hK.1 hP 0 rfl rfl 3 (Nat.le_of_ble_eq_true rfl) hk184 (fun _ h9 => h9) rfl dX7_count_116 ?_
    obtain e1 := am_ret1 h
    exact hret _ _ _ dX7_count_119 rfl e1
  replace h := am_f cc h
  have n9 := cc
  by_cases cc : p0 = (10 : Int32)
  · replace h := am_t cc h
    refine lv_tableIn (pc := 1) (tgt := 120) hx hb dX7_count_1 (by rw [cc]; decide) (by rw [cc]; decide) (by rw [cc]; rfl) (by decide) ?_
    refine lv_aload_n (pc := 120) hx hb dX7_count_120 rfl (lv_at hl 0 rfl) ?_
    refine va_get (pc := 121) (D := D) (ci := 7) (v := .int mtyped) (C := RX7) (T := TX7) (N := 18) hx hb hts hnX7 hown hK.1 hP 0 rfl rfl 6 (Nat.le_of_ble_eq_true rfl) hk635 (fun _ h9 => h9) rfl dX7_count_121 ?_
    obtain e1 := am_ret1 h
    exact hret _ _ _ dX7_count_124 rfl e1
  replace h := am_f cc h
  have n10 := cc
  refine lv_tableOut (pc := 1) (tgt := 125) hx hb dX7_count_1 (am_out_0_10 n0 n1 n2 n3 n4 n5 n6 n7 n8 n9 n10) (by decide) ?_
  refine lv_iload_n (pc := 125) hx hb dX7_count_125 rfl (lv_at hl 1 rfl) ?_
  refine lv_bipush (v := 20) (pc := 126) hx hb dX7_count_126 (by decide) ?_
  refine lv_bipush (v := 22) (pc := 128) hx hb dX7_count_128 (by decide) ?_
  obtain ⟨r6, hc6, h⟩ := am_bind_s h
  refine kc_Si (pc := 130) ⟨hx, hb, hml, hown, hts⟩ hP hK [.int p0, .int (20 : Int32), .int (22 : Int32)] (c_X7_in l D cI cJ p0 (20 : Int32) (22 : Int32) r6 hc6) [] rfl (cwS 3 hts (gzS wl176 wl177 wl5 wl178) rfl rfl rfl ⟨rfl, hdX7_in⟩ ⟨Nat.le_of_ble_eq_true rfl, Nat.le_of_ble_eq_true rfl⟩) [] rfl hl.1 rfl (Nat.le_of_ble_eq_true rfl) dX7_count_130 ⟨Nat.zero_le _, Nat.zero_le _⟩ ?_
  refine lv_if_eq (pc := 133) (tgt := 150) hx hb dX7_count_133 (by decide) (fun cc => ?_) (fun cc => ?_)
  · replace h := am_t cc h
    refine lv_ldc (pc := 150) hx hb hown hk175 dX7_count_150 ?_
    obtain e1 := am_ret1 h
    exact hret _ _ _ dX7_count_152 rfl e1
  replace h := am_f cc h
  refine lv_aload_n (pc := 136) hx hb dX7_count_136 rfl (lv_at hl 0 rfl) ?_
  refine va_get (pc := 137) (D := D) (ci := 7) (v := .ref msa) (C := RX7) (T := TX7) (N := 18) hx hb hts hnX7 hown hK.1 hP 0 rfl rfl 0 (Nat.le_of_ble_eq_true rfl) hk121 (fun _ h9 => h9) rfl dX7_count_137 ?_
  refine lv_iconst (v := 5) (pc := 140) hx hb dX7_count_140 (by decide) ?_
  refine lv_iload_n (pc := 141) hx hb dX7_count_141 rfl (lv_at hl 1 rfl) ?_
  refine lv_iadd (pc := 142) hx hb dX7_count_142 ?_
  refine lv_bipush (v := 20) (pc := 143) hx hb dX7_count_143 (by decide) ?_
  refine lv_isub (pc := 145) hx hb dX7_count_145 ?_
  obtain ⟨hi, h⟩ := am_in_s h
  refine va_iald (pc := 146) hx hb hK.1 hP 1 0 rfl rfl hi dX7_count_146 ?_
  refine lv_goto (pc := 147) (tgt := 152) hx hb dX7_count_147 (by decide) ?_
  obtain e1 := am_ret1 h
  exact hret _ _ _ dX7_count_152 rfl e1
theorem hdX7_undo : yX7_undo.cls ≠ "java/lang/invoke/MethodHandle" ∧ yX7_undo.cls ≠ "java/lang/invoke/VarHandle" ∧ (parseMethodDescriptor yX7_undo.desc).map (fun d => d.parameters.length) = some 0 := by decide +kernel
abbrev rmX7_undo : Room := { frames := 0, cells := 0, slots := 0, locals := 0 }
set_option maxHeartbeats 20000000 in
set_option maxRecDepth 100000 in
theorem c_X7_undo (l : Launch) (D : va_G) (cI cJ : ClassId) (mself : Nat) (msa : Nat) (mpasta : Nat) (mhelda : Nat) (mtexta : Nat) (mchosena : Nat) (mtimesa : Nat) (mrestsa : Nat) (mbeforea : Nat) (mtolda : Nat) (mpasts : Int32) (mruns : Int32) (mtyped : Int32) (mspot : Int32) (mfrom : Int32) (mreason : Int32) (mcause : Int32) (morders : Int32) (mkind : Int32) (ms : Nat → Int32) (mpast : Nat → Int32) (mheld : Nat → Int32) (mtext : Nat → Int32) (mchosen : Nat → Int32) (mtimes : Nat → Int32) (mrests : Nat → Int64) (mbefore : Nat → Int32) (mtold : Nat → Int32)  (r0 : Int32) (zmpasts : Int32) (zms : Nat → Int32) (hF : F_X7_undo mpasts ms mpast = some (r0, zmpasts, zms)) (sz : Nat) : Met l yX7_undo (wz yX7_undo cX7_undo 2 (some .int)) rmX7_undo (kPw D cI cJ [(mself, .inr (7, [.ref msa, .ref mpasta, .ref mhelda, .int mpasts, .int mruns, .ref mtexta, .int mtyped, .ref mchosena, .ref mtimesa, .ref mrestsa, .ref mbeforea, .int mspot, .int mfrom, .int mreason, .int mcause, .int morders, .int mkind, .ref mtolda])), (msa, .inl (cI, 580, .inl ms)), (mpasta, .inl (cI, 2320, .inl mpast)), (mhelda, .inl (cI, 580, .inl mheld)), (mtexta, .inl (cI, 60, .inl mtext)), (mchosena, .inl (cI, 12, .inl mchosen)), (mtimesa, .inl (cI, 12, .inl mtimes)), (mrestsa, .inl (cJ, 12, .inr (.inl mrests))), (mbeforea, .inl (cI, 12, .inl mbefore)), (mtolda, .inl (cI, 2, .inl mtold))] sz [.ref mself]) (kQi D r0 [(mself, .inr (7, [.ref msa, .ref mpasta, .ref mhelda, .int zmpasts, .int mruns, .ref mtexta, .int mtyped, .ref mchosena, .ref mtimesa, .ref mrestsa, .ref mbeforea, .int mspot, .int mfrom, .int mreason, .int mcause, .int morders, .int mkind, .ref mtolda])), (msa, .inl (cI, 580, .inl zms)), (mpasta, .inl (cI, 2320, .inl mpast)), (mhelda, .inl (cI, 580, .inl mheld)), (mtexta, .inl (cI, 60, .inl mtext)), (mchosena, .inl (cI, 12, .inl mchosen)), (mtimesa, .inl (cI, 12, .inl mtimes)), (mrestsa, .inl (cJ, 12, .inr (.inl mrests))), (mbeforea, .inl (cI, 12, .inl mbefore)), (mtolda, .inl (cI, 2, .inl mtold))] (va_A [(mself, .inr (7, [.ref msa, .ref mpasta, .ref mhelda, .int mpasts, .int mruns, .ref mtexta, .int mtyped, .ref mchosena, .ref mtimesa, .ref mrestsa, .ref mbeforea, .int mspot, .int mfrom, .int mreason, .int mcause, .int morders, .int mkind, .ref mtolda])), (msa, .inl (cI, 580, .inl ms)), (mpasta, .inl (cI, 2320, .inl mpast)), (mhelda, .inl (cI, 580, .inl mheld)), (mtexta, .inl (cI, 60, .inl mtext)), (mchosena, .inl (cI, 12, .inl mchosen)), (mtimesa, .inl (cI, 12, .inl mtimes)), (mrestsa, .inl (cJ, 12, .inr (.inl mrests))), (mbeforea, .inl (cI, 12, .inl mbefore)), (mtolda, .inl (cI, 2, .inl mtold))] sz)) 0 0 (va_A [(mself, .inr (7, [.ref msa, .ref mpasta, .ref mhelda, .int mpasts, .int mruns, .ref mtexta, .int mtyped, .ref mchosena, .ref mtimesa, .ref mrestsa, .ref mbeforea, .int mspot, .int mfrom, .int mreason, .int mcause, .int morders, .int mkind, .ref mtolda])), (msa, .inl (cI, 580, .inl ms)), (mpasta, .inl (cI, 2320, .inl mpast)), (mhelda, .inl (cI, 580, .inl mheld)), (mtexta, .inl (cI, 60, .inl mtext)), (mchosena, .inl (cI, 12, .inl mchosen)), (mtimesa, .inl (cI, 12, .inl mtimes)), (mrestsa, .inl (cJ, 12, .inr (.inl mrests))), (mbeforea, .inl (cI, 12, .inl mbefore)), (mtolda, .inl (cI, 2, .inl mtold))] sz) := by
  refine kM_wi cX7_undo 2 .int (by decide +kernel) rfl rfl (Nat.le_of_ble_eq_true rfl) ⟨rfl, rfl⟩ ?_
  intro p e s m args below meth c Q A ls hx hb hml hown hts hP hK hD hA hS hl hret
  have hk121 := hts _ (List.mem_cons_of_mem _ wl121)
  have hk122 := hts _ (List.mem_cons_of_mem _ wl122)
  have hk184 := hts _ (List.mem_cons_of_mem _ wl184)
  have hk222 := hts _ (List.mem_cons_of_mem _ wl222)
  have hnX7 : ∀ w ∈ u_ws RX7 TX7 18, w ∈ wz yX7_undo cX7_undo 2 (some .int) := fun w h => List.mem_cons_of_mem _ (inlX7 w h)
  replace hl : lv_has ls 2 [(0, .ref mself)] := hl
  have h := hF
  unfold F_X7_undo at h
  refine lv_aload_n (pc := 0) hx hb dX7_undo_0 rfl (lv_at hl 0 rfl) ?_
  refine va_get (pc := 1) (D := D) (ci := 7) (v := .int mpasts) (C := RX7) (T := TX7) (N := 18) hx hb hts hnX7 hown hK.1 hP 0 rfl rfl 3 (Nat.le_of_ble_eq_true rfl) hk184 (fun _ h9 => h9) rfl dX7_undo_1 ?_
  refine lv_if_ne (pc := 4) (tgt := 10) hx hb dX7_undo_4 (by decide) (fun cc => ?_) (fun cc => ?_)
  · replace h := am_f cc h
    refine lv_aload_n (pc := 10) hx hb dX7_undo_10 rfl (lv_at hl 0 rfl) ?_
    refine lv_dup (pc := 11) hx hb dX7_undo_11 rfl ?_
    refine va_get (pc := 12) (D := D) (ci := 7) (v := .int mpasts) (C := RX7) (T := TX7) (N := 18) hx hb hts hnX7 hown hK.1 hP 0 rfl rfl 3 (Nat.le_of_ble_eq_true rfl) hk184 (fun _ h9 => h9) rfl dX7_undo_12 ?_
    refine lv_iconst (v := 1) (pc := 15) hx hb dX7_undo_15 (by decide) ?_
    refine lv_isub (pc := 16) hx hb dX7_undo_16 ?_
    refine lv_topi (fun x1 ex1 => ?_)
    replace h := am_let_s ex1 h
    refine va_put (pc := 17) (D := D) (ci := 7) (v := .int x1) (ty := .int) (C := RX7) (T := TX7) (N := 18) hx hb hts hnX7 tyX7 tyX7_ok nmX7 hown hK.1 hP hD hS 0 rfl rfl 3 (Nat.le_of_ble_eq_true rfl) hk184 (fun _ h9 => h9) rfl (by decide +kernel) rfl rfl (Nat.le_of_ble_eq_true rfl) dX7_undo_17 (fun H locs hP hD hS => ?_)
    replace hP : va_P D vwCl [(mself, .inr (7, [.ref msa, .ref mpasta, .ref mhelda, .int x1, .int mruns, .ref mtexta, .int mtyped, .ref mchosena, .ref mtimesa, .ref mrestsa, .ref mbeforea, .int mspot, .int mfrom, .int mreason, .int mcause, .int morders, .int mkind, .ref mtolda])), (msa, .inl (cI, 580, .inl ms)), (mpasta, .inl (cI, 2320, .inl mpast)), (mhelda, .inl (cI, 580, .inl mheld)), (mtexta, .inl (cI, 60, .inl mtext)), (mchosena, .inl (cI, 12, .inl mchosen)), (mtimesa, .inl (cI, 12, .inl mtimes)), (mrestsa, .inl (cJ, 12, .inr (.inl mrests))), (mbeforea, .inl (cI, 12, .inl mbefore)), (mtolda, .inl (cI, 2, .inl mtold))] H := hP
    replace hD : va_D A [(mself, .inr (7, [.ref msa, .ref mpasta, .ref mhelda, .int x1, .int mruns, .ref mtexta, .int mtyped, .ref mchosena, .ref mtimesa, .ref mrestsa, .ref mbeforea, .int mspot, .int mfrom, .int mreason, .int mcause, .int morders, .int mkind, .ref mtolda])), (msa, .inl (cI, 580, .inl ms)), (mpasta, .inl (cI, 2320, .inl mpast)), (mhelda, .inl (cI, 580, .inl mheld)), (mtexta, .inl (cI, 60, .inl mtext)), (mchosena, .inl (cI, 12, .inl mchosen)), (mtimesa, .inl (cI, 12, .inl mtimes)), (mrestsa, .inl (cJ, 12, .inr (.inl mrests))), (mbeforea, .inl (cI, 12, .inl mbefore)), (mtolda, .inl (cI, 2, .inl mtold))] := hD
    refine lv_iconst (v := 0) (pc := 20) hx hb dX7_undo_20 (by decide) ?_
    refine lv_istore_n (lv' := [(1, .int (0 : Int32)), (0, .ref mself)]) (pc := 21) hx hb dX7_undo_21 rfl hl (by decide) rfl (fun ls hl => ?_)
    refine am_join1_s (fun (f2 : Nat → Int32) => ∀ (ls : Array Slot), lv_has ls 2 [(0, .ref mself)] → ∀ (H : Heap) (locs : List Loc), va_P D vwCl [(mself, .inr (7, [.ref msa, .ref mpasta, .ref mhelda, .int x1, .int mruns, .ref mtexta, .int mtyped, .ref mchosena, .ref mtimesa, .ref mrestsa, .ref mbeforea, .int mspot, .int mfrom, .int mreason, .int mcause, .int morders, .int mkind, .ref mtolda])), (msa, .inl (cI, 580, .inl f2)), (mpasta, .inl (cI, 2320, .inl mpast)), (mhelda, .inl (cI, 580, .inl mheld)), (mtexta, .inl (cI, 60, .inl mtext)), (mchosena, .inl (cI, 12, .inl mchosen)), (mtimesa, .inl (cI, 12, .inl mtimes)), (mrestsa, .inl (cJ, 12, .inr (.inl mrests))), (mbeforea, .inl (cI, 12, .inl mbefore)), (mtolda, .inl (cI, 2, .inl mtold))] H → va_D A [(mself, .inr (7, [.ref msa, .ref mpasta, .ref mhelda, .int x1, .int mruns, .ref mtexta, .int mtyped, .ref mchosena, .ref mtimesa, .ref mrestsa, .ref mbeforea, .int mspot, .int mfrom, .int mreason, .int mcause, .int morders, .int mkind, .ref mtolda])), (msa, .inl (cI, 580, .inl f2)), (mpasta, .inl (cI, 2320, .inl mpast)), (mhelda, .inl (cI, 580, .inl mheld)), (mtexta, .inl (cI, 60, .inl mtext)), (mchosena, .inl (cI, 12, .inl mchosen)), (mtimesa, .inl (cI, 12, .inl mtimes)), (mrestsa, .inl (cJ, 12, .inr (.inl mrests))), (mbeforea, .inl (cI, 12, .inl mbefore)), (mtolda, .inl (cI, 2, .inl mtold))] → va_S A s.heap H locs → W p l e rmX7_undo s m args below meth c H locs 0 0 Q (F0 m 56 ls [])) h (fun f2 h ls hl H locs hP hD hS => ?_) (fun K3 hK3 h => ?_)
    · refine lv_aload_n (pc := 56) hx hb dX7_undo_56 rfl (lv_at hl 0 rfl) ?_
      refine va_get (pc := 57) (D := D) (ci := 7) (v := .int x1) (C := RX7) (T := TX7) (N := 18) hx hb hts hnX7 hown hK.1 hP 0 rfl rfl 3 (Nat.le_of_ble_eq_true rfl) hk184 (fun _ h9 => h9) rfl dX7_undo_57 ?_
      obtain ⟨e1, e2, e3⟩ := am_ret3 h
      exact hret _ _ _ _ _ dX7_undo_60 rfl e1 (by rw [← e2, ← e3]; exact hP) hS
    refine am_loop2_s (fun (x4 : Int32) (f5 : Nat → Int32) => ∀ (ls : Array Slot), lv_has ls 2 [(0, .ref mself), (1, .int x4)] → ∀ (H : Heap) (locs : List Loc), va_P D vwCl [(mself, .inr (7, [.ref msa, .ref mpasta, .ref mhelda, .int x1, .int mruns, .ref mtexta, .int mtyped, .ref mchosena, .ref mtimesa, .ref mrestsa, .ref mbeforea, .int mspot, .int mfrom, .int mreason, .int mcause, .int morders, .int mkind, .ref mtolda])), (msa, .inl (cI, 580, .inl f5)), (mpasta, .inl (cI, 2320, .inl mpast)), (mhelda, .inl (cI, 580, .inl mheld)), (mtexta, .inl (cI, 60, .inl mtext)), (mchosena, .inl (cI, 12, .inl mchosen)), (mtimesa, .inl (cI, 12, .inl mtimes)), (mrestsa, .inl (cJ, 12, .inr (.inl mrests))), (mbeforea, .inl (cI, 12, .inl mbefore)), (mtolda, .inl (cI, 2, .inl mtold))] H → va_D A [(mself, .inr (7, [.ref msa, .ref mpasta, .ref mhelda, .int x1, .int mruns, .ref mtexta, .int mtyped, .ref mchosena, .ref mtimesa, .ref mrestsa, .ref mbeforea, .int mspot, .int mfrom, .int mreason, .int mcause, .int morders, .int mkind, .ref mtolda])), (msa, .inl (cI, 580, .inl f5)), (mpasta, .inl (cI, 2320, .inl mpast)), (mhelda, .inl (cI, 580, .inl mheld)), (mtexta, .inl (cI, 60, .inl mtext)), (mchosena, .inl (cI, 12, .inl mchosen)), (mtimesa, .inl (cI, 12, .inl mtimes)), (mrestsa, .inl (cJ, 12, .inr (.inl mrests))), (mbeforea, .inl (cI, 12, .inl mbefore)), (mtolda, .inl (cI, 2, .inl mtold))] → va_S A s.heap H locs → W p l e rmX7_undo s m args below meth c H locs 0 0 Q (F0 m 22 ls [])) (fun rec6 ihrec6 x4 f5 h ls hl H locs hP hD hS => ?_) _ _ _ h ls (lv_sub hl [1, 0] rfl) H locs hP hD hS
    unfold F_X7_undo_B22 at h
    refine lv_iload_n (pc := 22) hx hb dX7_undo_22 rfl (lv_at hl 1 rfl) ?_
    refine lv_sipush (v := 580) (pc := 23) hx hb dX7_undo_23 (by decide) ?_
    refine lv_icmp_ge (pc := 26) (tgt := 56) hx hb dX7_undo_26 (by decide) (fun cc => ?_) (fun cc => ?_)
    · replace h := am_t cc h
      exact hK3 _ h ls (lv_sub hl [0] rfl) H locs hP hD hS
    replace h := am_f cc h
    refine lv_aload_n (pc := 29) hx hb dX7_undo_29 rfl (lv_at hl 0 rfl) ?_
    refine va_get (pc := 30) (D := D) (ci := 7) (v := .ref msa) (C := RX7) (T := TX7) (N := 18) hx hb hts hnX7 hown hK.1 hP 0 rfl rfl 0 (Nat.le_of_ble_eq_true rfl) hk121 (fun _ h9 => h9) rfl dX7_undo_30 ?_
    refine lv_iload_n (pc := 33) hx hb dX7_undo_33 rfl (lv_at hl 1 rfl) ?_
    refine lv_aload_n (pc := 34) hx hb dX7_undo_34 rfl (lv_at hl 0 rfl) ?_
    refine va_get (pc := 35) (D := D) (ci := 7) (v := .ref mpasta) (C := RX7) (T := TX7) (N := 18) hx hb hts hnX7 hown hK.1 hP 0 rfl rfl 1 (Nat.le_of_ble_eq_true rfl) hk122 (fun _ h9 => h9) rfl dX7_undo_35 ?_
    refine lv_sipush (v := 580) (pc := 38) hx hb dX7_undo_38 (by decide) ?_
    refine lv_aload_n (pc := 41) hx hb dX7_undo_41 rfl (lv_at hl 0 rfl) ?_
    refine va_get (pc := 42) (D := D) (ci := 7) (v := .int x1) (C := RX7) (T := TX7) (N := 18) hx hb hts hnX7 hown hK.1 hP 0 rfl rfl 3 (Nat.le_of_ble_eq_true rfl) hk184 (fun _ h9 => h9) rfl dX7_undo_42 ?_
    refine lv_imul (pc := 45) hx hb dX7_undo_45 ?_
    refine lv_iload_n (pc := 46) hx hb dX7_undo_46 rfl (lv_at hl 1 rfl) ?_
    refine lv_iadd (pc := 47) hx hb dX7_undo_47 ?_
    obtain ⟨hi, h⟩ := am_in_s h
    refine va_iald (pc := 48) hx hb hK.1 hP 2 0 rfl rfl hi dX7_undo_48 ?_
    obtain ⟨hi, h⟩ := am_in_s h
    obtain ⟨f7, ef7⟩ : ∃ y : Nat → Int32, y = (upd f5 x4.toNatClampNeg (mpast (((580 : Int32) * x1) + x4).toNatClampNeg)) := ⟨_, rfl⟩
    replace h := am_let_s ef7 h
    refine va_iast (pc := 49) hx hb hK.1 hP hD hS 1 0 rfl rfl hi dX7_undo_49 (fun H locs hP hD hS => ?_)
    rw [← ef7] at hP hD
    replace hP : va_P D vwCl [(mself, .inr (7, [.ref msa, .ref mpasta, .ref mhelda, .int x1, .int mruns, .ref mtexta, .int mtyped, .ref mchosena, .ref mtimesa, .ref mrestsa, .ref mbeforea, .int mspot, .int mfrom, .int mreason, .int mcause, .int morders, .int mkind, .ref mtolda])), (msa, .inl (cI, 580, .inl f7)), (mpasta, .inl (cI, 2320, .inl mpast)), (mhelda, .inl (cI, 580, .inl mheld)), (mtexta, .inl (cI, 60, .inl mtext)), (mchosena, .inl (cI, 12, .inl mchosen)), (mtimesa, .inl (cI, 12, .inl mtimes)), (mrestsa, .inl (cJ, 12, .inr (.inl mrests))), (mbeforea, .inl (cI, 12, .inl mbefore)), (mtolda, .inl (cI, 2, .inl mtold))] H := hP
    replace hD : va_D A [(mself, .inr (7, [.ref msa, .ref mpasta, .ref mhelda, .int x1, .int mruns, .ref mtexta, .int mtyped, .ref mchosena, .ref mtimesa, .ref mrestsa, .ref mbeforea, .int mspot, .int mfrom, .int mreason, .int mcause, .int morders, .int mkind, .ref mtolda])), (msa, .inl (cI, 580, .inl f7)), (mpasta, .inl (cI, 2320, .inl mpast)), (mhelda, .inl (cI, 580, .inl mheld)), (mtexta, .inl (cI, 60, .inl mtext)), (mchosena, .inl (cI, 12, .inl mchosen)), (mtimesa, .inl (cI, 12, .inl mtimes)), (mrestsa, .inl (cJ, 12, .inr (.inl mrests))), (mbeforea, .inl (cI, 12, .inl mbefore)), (mtolda, .inl (cI, 2, .inl mtold))] := hD
    obtain ⟨x8, ex8⟩ : ∃ y : Int32, y = (x4 + (1 : Int32)) := ⟨_, rfl⟩
    replace h := am_let_s ex8 h
    refine lv_iinc (pc := 50) (v := x8) (lv' := [(1, .int x8), (0, .ref mself)]) hx hb dX7_undo_50 hl (k := 1) rfl (by rw [ex8]; rfl) (by decide) rfl (fun ls hl => ?_)
    refine lv_goto (pc := 53) (tgt := 22) hx hb dX7_undo_53 (by decide) ?_
    exact ihrec6 _ _ h ls (lv_sub hl [1, 0] rfl) H locs hP hD hS
  replace h := am_t cc h
  refine lv_ldc (pc := 7) hx hb hown hk222 dX7_undo_7 ?_
  obtain ⟨e1, e2, e3⟩ := am_ret3 h
  exact hret _ _ _ _ _ dX7_undo_9 rfl e1 (by rw [← e2, ← e3]; exact hP) hS
theorem hdX7_type : yX7_type.cls ≠ "java/lang/invoke/MethodHandle" ∧ yX7_type.cls ≠ "java/lang/invoke/VarHandle" ∧ (parseMethodDescriptor yX7_type.desc).map (fun d => d.parameters.length) = some 1 := by decide +kernel
abbrev rmX7_type : Room := { frames := 1, cells := 0, slots := 0, locals := 22 }
set_option maxHeartbeats 20000000 in
set_option maxRecDepth 100000 in
theorem c_X7_type (l : Launch) (D : va_G) (cI cJ : ClassId) (mself : Nat) (msa : Nat) (mpasta : Nat) (mhelda : Nat) (mtexta : Nat) (mchosena : Nat) (mtimesa : Nat) (mrestsa : Nat) (mbeforea : Nat) (mtolda : Nat) (mpasts : Int32) (mruns : Int32) (mtyped : Int32) (mspot : Int32) (mfrom : Int32) (mreason : Int32) (mcause : Int32) (morders : Int32) (mkind : Int32) (ms : Nat → Int32) (mpast : Nat → Int32) (mheld : Nat → Int32) (mtext : Nat → Int32) (mchosen : Nat → Int32) (mtimes : Nat → Int32) (mrests : Nat → Int64) (mbefore : Nat → Int32) (mtold : Nat → Int32) (p0 : Int32) (r0 : Int32) (zmtyped : Int32) (zmtext : Nat → Int32) (hF : F_X7_type mtyped mtext p0 = some (r0, zmtyped, zmtext)) (sz : Nat) : Met l yX7_type (wz yX7_type cX7_type 2 (some .int)) rmX7_type (kPw D cI cJ [(mself, .inr (7, [.ref msa, .ref mpasta, .ref mhelda, .int mpasts, .int mruns, .ref mtexta, .int mtyped, .ref mchosena, .ref mtimesa, .ref mrestsa, .ref mbeforea, .int mspot, .int mfrom, .int mreason, .int mcause, .int morders, .int mkind, .ref mtolda])), (msa, .inl (cI, 580, .inl ms)), (mpasta, .inl (cI, 2320, .inl mpast)), (mhelda, .inl (cI, 580, .inl mheld)), (mtexta, .inl (cI, 60, .inl mtext)), (mchosena, .inl (cI, 12, .inl mchosen)), (mtimesa, .inl (cI, 12, .inl mtimes)), (mrestsa, .inl (cJ, 12, .inr (.inl mrests))), (mbeforea, .inl (cI, 12, .inl mbefore)), (mtolda, .inl (cI, 2, .inl mtold))] sz [.ref mself, .int p0]) (kQi D r0 [(mself, .inr (7, [.ref msa, .ref mpasta, .ref mhelda, .int mpasts, .int mruns, .ref mtexta, .int zmtyped, .ref mchosena, .ref mtimesa, .ref mrestsa, .ref mbeforea, .int mspot, .int mfrom, .int mreason, .int mcause, .int morders, .int mkind, .ref mtolda])), (msa, .inl (cI, 580, .inl ms)), (mpasta, .inl (cI, 2320, .inl mpast)), (mhelda, .inl (cI, 580, .inl mheld)), (mtexta, .inl (cI, 60, .inl zmtext)), (mchosena, .inl (cI, 12, .inl mchosen)), (mtimesa, .inl (cI, 12, .inl mtimes)), (mrestsa, .inl (cJ, 12, .inr (.inl mrests))), (mbeforea, .inl (cI, 12, .inl mbefore)), (mtolda, .inl (cI, 2, .inl mtold))] (va_A [(mself, .inr (7, [.ref msa, .ref mpasta, .ref mhelda, .int mpasts, .int mruns, .ref mtexta, .int mtyped, .ref mchosena, .ref mtimesa, .ref mrestsa, .ref mbeforea, .int mspot, .int mfrom, .int mreason, .int mcause, .int morders, .int mkind, .ref mtolda])), (msa, .inl (cI, 580, .inl ms)), (mpasta, .inl (cI, 2320, .inl mpast)), (mhelda, .inl (cI, 580, .inl mheld)), (mtexta, .inl (cI, 60, .inl mtext)), (mchosena, .inl (cI, 12, .inl mchosen)), (mtimesa, .inl (cI, 12, .inl mtimes)), (mrestsa, .inl (cJ, 12, .inr (.inl mrests))), (mbeforea, .inl (cI, 12, .inl mbefore)), (mtolda, .inl (cI, 2, .inl mtold))] sz)) 0 0 (va_A [(mself, .inr (7, [.ref msa, .ref mpasta, .ref mhelda, .int mpasts, .int mruns, .ref mtexta, .int mtyped, .ref mchosena, .ref mtimesa, .ref mrestsa, .ref mbeforea, .int mspot, .int mfrom, .int mreason, .int mcause, .int morders, .int mkind, .ref mtolda])), (msa, .inl (cI, 580, .inl ms)), (mpasta, .inl (cI, 2320, .inl mpast)), (mhelda, .inl (cI, 580, .inl mheld)), (mtexta, .inl (cI, 60, .inl mtext)), (mchosena, .inl (cI, 12, .inl mchosen)), (mtimesa, .inl (cI, 12, .inl mtimes)), (mrestsa, .inl (cJ, 12, .inr (.inl mrests))), (mbeforea, .inl (cI, 12, .inl mbefore)), (mtolda, .inl (cI, 2, .inl mtold))] sz) := by
  refine kM_wi cX7_type 2 .int (by decide +kernel) rfl rfl (Nat.le_of_ble_eq_true rfl) ⟨rfl, rfl⟩ ?_
  intro p e s m args below meth c Q A ls hx hb hml hown hts hP hK hD hA hS hl hret
  have hk124 := hts _ (List.mem_cons_of_mem _ wl124)
  have hk175 := hts _ (List.mem_cons_of_mem _ wl175)
  have hk275 := hts _ (List.mem_cons_of_mem _ wl275)
  have hk635 := hts _ (List.mem_cons_of_mem _ wl635)
  have hnX7 : ∀ w ∈ u_ws RX7 TX7 18, w ∈ wz yX7_type cX7_type 2 (some .int) := fun w h => List.mem_cons_of_mem _ (inlX7 w h)
  replace hl : lv_has ls 2 [(0, .ref mself), (1, .int p0)] := hl
  have h := hF
  unfold F_X7_type at h
  refine lv_iload_n (pc := 0) hx hb dX7_type_0 rfl (lv_at hl 1 rfl) ?_
  refine lv_bipush (v := 32) (pc := 1) hx hb dX7_type_1 (by decide) ?_
  refine lv_bipush (v := 126) (pc := 3) hx hb dX7_type_3 (by decide) ?_
  obtain ⟨r1, hc1, h⟩ := am_bind_s h
  refine kc_Si (pc := 5) ⟨hx, hb, hml, hown, hts⟩ hP hK [.int p0, .int (32 : Int32), .int (126 : Int32)] (c_X7_in l D cI cJ p0 (32 : Int32) (126 : Int32) r1 hc1) [] rfl (cwS 3 hts (gzS wl176 wl177 wl5 wl178) rfl rfl rfl ⟨rfl, hdX7_in⟩ ⟨Nat.le_of_ble_eq_true rfl, Nat.le_of_ble_eq_true rfl⟩) [] rfl hl.1 rfl (Nat.le_of_ble_eq_true rfl) dX7_type_5 ⟨Nat.zero_le _, Nat.zero_le _⟩ ?_
  refine lv_if_ne (pc := 8) (tgt := 14) hx hb dX7_type_8 (by decide) (fun cc => ?_) (fun cc => ?_)
  · replace h := am_f cc h
    refine lv_aload_n (pc := 14) hx hb dX7_type_14 rfl (lv_at hl 0 rfl) ?_
    refine va_get (pc := 15) (D := D) (ci := 7) (v := .int mtyped) (C := RX7) (T := TX7) (N := 18) hx hb hts hnX7 hown hK.1 hP 0 rfl rfl 6 (Nat.le_of_ble_eq_true rfl) hk635 (fun _ h9 => h9) rfl dX7_type_15 ?_
    refine lv_bipush (v := 60) (pc := 18) hx hb dX7_type_18 (by decide) ?_
    refine lv_icmp_ne (pc := 20) (tgt := 26) hx hb dX7_type_20 (by decide) (fun cc => ?_) (fun cc => ?_)
    · replace h := am_f cc h
      refine lv_aload_n (pc := 26) hx hb dX7_type_26 rfl (lv_at hl 0 rfl) ?_
      refine va_get (pc := 27) (D := D) (ci := 7) (v := .ref mtexta) (C := RX7) (T := TX7) (N := 18) hx hb hts hnX7 hown hK.1 hP 0 rfl rfl 5 (Nat.le_of_ble_eq_true rfl) hk124 (fun _ h9 => h9) rfl dX7_type_27 ?_
      refine lv_aload_n (pc := 30) hx hb dX7_type_30 rfl (lv_at hl 0 rfl) ?_
      refine va_get (pc := 31) (D := D) (ci := 7) (v := .int mtyped) (C := RX7) (T := TX7) (N := 18) hx hb hts hnX7 hown hK.1 hP 0 rfl rfl 6 (Nat.le_of_ble_eq_true rfl) hk635 (fun _ h9 => h9) rfl dX7_type_31 ?_
      refine lv_iload_n (pc := 34) hx hb dX7_type_34 rfl (lv_at hl 1 rfl) ?_
      obtain ⟨hi, h⟩ := am_in_s h
      obtain ⟨f2, ef2⟩ : ∃ y : Nat → Int32, y = (upd mtext mtyped.toNatClampNeg p0) := ⟨_, rfl⟩
      replace h := am_let_s ef2 h
      refine va_iast (pc := 35) hx hb hK.1 hP hD hS 4 0 rfl rfl hi dX7_type_35 (fun H locs hP hD hS => ?_)
      rw [← ef2] at hP hD
      replace hP : va_P D vwCl [(mself, .inr (7, [.ref msa, .ref mpasta, .ref mhelda, .int mpasts, .int mruns, .ref mtexta, .int mtyped, .ref mchosena, .ref mtimesa, .ref mrestsa, .ref mbeforea, .int mspot, .int mfrom, .int mreason, .int mcause, .int morders, .int mkind, .ref mtolda])), (msa, .inl (cI, 580, .inl ms)), (mpasta, .inl (cI, 2320, .inl mpast)), (mhelda, .inl (cI, 580, .inl mheld)), (mtexta, .inl (cI, 60, .inl f2)), (mchosena, .inl (cI, 12, .inl mchosen)), (mtimesa, .inl (cI, 12, .inl mtimes)), (mrestsa, .inl (cJ, 12, .inr (.inl mrests))), (mbeforea, .inl (cI, 12, .inl mbefore)), (mtolda, .inl (cI, 2, .inl mtold))] H := hP
      replace hD : va_D A [(mself, .inr (7, [.ref msa, .ref mpasta, .ref mhelda, .int mpasts, .int mruns, .ref mtexta, .int mtyped, .ref mchosena, .ref mtimesa, .ref mrestsa, .ref mbeforea, .int mspot, .int mfrom, .int mreason, .int mcause, .int morders, .int mkind, .ref mtolda])), (msa, .inl (cI, 580, .inl ms)), (mpasta, .inl (cI, 2320, .inl mpast)), (mhelda, .inl (cI, 580, .inl mheld)), (mtexta, .inl (cI, 60, .inl f2)), (mchosena, .inl (cI, 12, .inl mchosen)), (mtimesa, .inl (cI, 12, .inl mtimes)), (mrestsa, .inl (cJ, 12, .inr (.inl mrests))), (mbeforea, .inl (cI, 12, .inl mbefore)), (mtolda, .inl (cI, 2, .inl mtold))] := hD
      refine lv_aload_n (pc := 36) hx hb dX7_type_36 rfl (lv_at hl 0 rfl) ?_
      refine lv_dup (pc := 37) hx hb dX7_type_37 rfl ?_
      refine va_get (pc := 38) (D := D) (ci := 7) (v := .int mtyped) (C := RX7) (T := TX7) (N := 18) hx hb hts hnX7 hown hK.1 hP 0 rfl rfl 6 (Nat.le_of_ble_eq_true rfl) hk635 (fun _ h9 => h9) rfl dX7_type_38 ?_
      refine lv_iconst (v := 1) (pc := 41) hx hb dX7_type_41 (by decide) ?_
      refine lv_iadd (pc := 42) hx hb dX7_type_42 ?_
      refine lv_topi (fun x3 ex3 => ?_)
      replace h := am_let_s ex3 h
      refine va_put (pc := 43) (D := D) (ci := 7) (v := .int x3) (ty := .int) (C := RX7) (T := TX7) (N := 18) hx hb hts hnX7 tyX7 tyX7_ok nmX7 hown hK.1 hP hD hS 0 rfl rfl 6 (Nat.le_of_ble_eq_true rfl) hk635 (fun _ h9 => h9) rfl (by decide +kernel) rfl rfl (Nat.le_of_ble_eq_true rfl) dX7_type_43 (fun H locs hP hD hS => ?_)
      replace hP : va_P D vwCl [(mself, .inr (7, [.ref msa, .ref mpasta, .ref mhelda, .int mpasts, .int mruns, .ref mtexta, .int x3, .ref mchosena, .ref mtimesa, .ref mrestsa, .ref mbeforea, .int mspot, .int mfrom, .int mreason, .int mcause, .int morders, .int mkind, .ref mtolda])), (msa, .inl (cI, 580, .inl ms)), (mpasta, .inl (cI, 2320, .inl mpast)), (mhelda, .inl (cI, 580, .inl mheld)), (mtexta, .inl (cI, 60, .inl f2)), (mchosena, .inl (cI, 12, .inl mchosen)), (mtimesa, .inl (cI, 12, .inl mtimes)), (mrestsa, .inl (cJ, 12, .inr (.inl mrests))), (mbeforea, .inl (cI, 12, .inl mbefore)), (mtolda, .inl (cI, 2, .inl mtold))] H := hP
      replace hD : va_D A [(mself, .inr (7, [.ref msa, .ref mpasta, .ref mhelda, .int mpasts, .int mruns, .ref mtexta, .int x3, .ref mchosena, .ref mtimesa, .ref mrestsa, .ref mbeforea, .int mspot, .int mfrom, .int mreason, .int mcause, .int morders, .int mkind, .ref mtolda])), (msa, .inl (cI, 580, .inl ms)), (mpasta, .inl (cI, 2320, .inl mpast)), (mhelda, .inl (cI, 580, .inl mheld)), (mtexta, .inl (cI, 60, .inl f2)), (mchosena, .inl (cI, 12, .inl mchosen)), (mtimesa, .inl (cI, 12, .inl mtimes)), (mrestsa, .inl (cJ, 12, .inr (.inl mrests))), (mbeforea, .inl (cI, 12, .inl mbefore)), (mtolda, .inl (cI, 2, .inl mtold))] := hD
      refine lv_aload_n (pc := 46) hx hb dX7_type_46 rfl (lv_at hl 0 rfl) ?_
      refine va_get (pc := 47) (D := D) (ci := 7) (v := .int x3) (C := RX7) (T := TX7) (N := 18) hx hb hts hnX7 hown hK.1 hP 0 rfl rfl 6 (Nat.le_of_ble_eq_true rfl) hk635 (fun _ h9 => h9) rfl dX7_type_47 ?_
      obtain ⟨e1, e2, e3⟩ := am_ret3 h
      exact hret _ _ _ _ _ dX7_type_50 rfl e1 (by rw [← e2, ← e3]; exact hP) hS
    replace h := am_t cc h
    refine lv_ldc (pc := 23) hx hb hown hk275 dX7_type_23 ?_
    obtain ⟨e1, e2, e3⟩ := am_ret3 h
    exact hret _ _ _ _ _ dX7_type_25 rfl e1 (by rw [← e2, ← e3]; exact hP) hS
  replace h := am_t cc h
  refine lv_ldc (pc := 11) hx hb hown hk175 dX7_type_11 ?_
  obtain ⟨e1, e2, e3⟩ := am_ret3 h
  exact hret _ _ _ _ _ dX7_type_13 rfl e1 (by rw [← e2, ← e3]; exact hP) hS
theorem hdX7_clearText : yX7_clearText.cls ≠ "java/lang/invoke/MethodHandle" ∧ yX7_clearText.cls ≠ "java/lang/invoke/VarHandle" ∧ (parseMethodDescriptor yX7_clearText.desc).map (fun d => d.parameters.length) = some 0 := by decide +kernel
abbrev rmX7_clearText : Room := { frames := 0, cells := 0, slots := 0, locals := 0 }
set_option maxHeartbeats 20000000 in
set_option maxRecDepth 100000 in
theorem c_X7_clearText (l : Launch) (D : va_G) (cI cJ : ClassId) (mself : Nat) (msa : Nat) (mpasta : Nat) (mhelda : Nat) (mtexta : Nat) (mchosena : Nat) (mtimesa : Nat) (mrestsa : Nat) (mbeforea : Nat) (mtolda : Nat) (mpasts : Int32) (mruns : Int32) (mtyped : Int32) (mspot : Int32) (mfrom : Int32) (mreason : Int32) (mcause : Int32) (morders : Int32) (mkind : Int32) (ms : Nat → Int32) (mpast : Nat → Int32) (mheld : Nat → Int32) (mtext : Nat → Int32) (mchosen : Nat → Int32) (mtimes : Nat → Int32) (mrests : Nat → Int64) (mbefore : Nat → Int32) (mtold : Nat → Int32)  (r0 : Int32) (zmtyped : Int32) (hF : F_X7_clearText mtyped = some (r0, zmtyped)) (sz : Nat) : Met l yX7_clearText (wz yX7_clearText cX7_clearText 2 (some .int)) rmX7_clearText (kPw D cI cJ [(mself, .inr (7, [.ref msa, .ref mpasta, .ref mhelda, .int mpasts, .int mruns, .ref mtexta, .int mtyped, .ref mchosena, .ref mtimesa, .ref mrestsa, .ref mbeforea, .int mspot, .int mfrom, .int mreason, .int mcause, .int morders, .int mkind, .ref mtolda])), (msa, .inl (cI, 580, .inl ms)), (mpasta, .inl (cI, 2320, .inl mpast)), (mhelda, .inl (cI, 580, .inl mheld)), (mtexta, .inl (cI, 60, .inl mtext)), (mchosena, .inl (cI, 12, .inl mchosen)), (mtimesa, .inl (cI, 12, .inl mtimes)), (mrestsa, .inl (cJ, 12, .inr (.inl mrests))), (mbeforea, .inl (cI, 12, .inl mbefore)), (mtolda, .inl (cI, 2, .inl mtold))] sz [.ref mself]) (kQi D r0 [(mself, .inr (7, [.ref msa, .ref mpasta, .ref mhelda, .int mpasts, .int mruns, .ref mtexta, .int zmtyped, .ref mchosena, .ref mtimesa, .ref mrestsa, .ref mbeforea, .int mspot, .int mfrom, .int mreason, .int mcause, .int morders, .int mkind, .ref mtolda])), (msa, .inl (cI, 580, .inl ms)), (mpasta, .inl (cI, 2320, .inl mpast)), (mhelda, .inl (cI, 580, .inl mheld)), (mtexta, .inl (cI, 60, .inl mtext)), (mchosena, .inl (cI, 12, .inl mchosen)), (mtimesa, .inl (cI, 12, .inl mtimes)), (mrestsa, .inl (cJ, 12, .inr (.inl mrests))), (mbeforea, .inl (cI, 12, .inl mbefore)), (mtolda, .inl (cI, 2, .inl mtold))] (va_A [(mself, .inr (7, [.ref msa, .ref mpasta, .ref mhelda, .int mpasts, .int mruns, .ref mtexta, .int mtyped, .ref mchosena, .ref mtimesa, .ref mrestsa, .ref mbeforea, .int mspot, .int mfrom, .int mreason, .int mcause, .int morders, .int mkind, .ref mtolda])), (msa, .inl (cI, 580, .inl ms)), (mpasta, .inl (cI, 2320, .inl mpast)), (mhelda, .inl (cI, 580, .inl mheld)), (mtexta, .inl (cI, 60, .inl mtext)), (mchosena, .inl (cI, 12, .inl mchosen)), (mtimesa, .inl (cI, 12, .inl mtimes)), (mrestsa, .inl (cJ, 12, .inr (.inl mrests))), (mbeforea, .inl (cI, 12, .inl mbefore)), (mtolda, .inl (cI, 2, .inl mtold))] sz)) 0 0 (va_A [(mself, .inr (7, [.ref msa, .ref mpasta, .ref mhelda, .int mpasts, .int mruns, .ref mtexta, .int mtyped, .ref mchosena, .ref mtimesa, .ref mrestsa, .ref mbeforea, .int mspot, .int mfrom, .int mreason, .int mcause, .int morders, .int mkind, .ref mtolda])), (msa, .inl (cI, 580, .inl ms)), (mpasta, .inl (cI, 2320, .inl mpast)), (mhelda, .inl (cI, 580, .inl mheld)), (mtexta, .inl (cI, 60, .inl mtext)), (mchosena, .inl (cI, 12, .inl mchosen)), (mtimesa, .inl (cI, 12, .inl mtimes)), (mrestsa, .inl (cJ, 12, .inr (.inl mrests))), (mbeforea, .inl (cI, 12, .inl mbefore)), (mtolda, .inl (cI, 2, .inl mtold))] sz) := by
  refine kM_wi cX7_clearText 2 .int (by decide +kernel) rfl rfl (Nat.le_of_ble_eq_true rfl) ⟨rfl, rfl⟩ ?_
  intro p e s m args below meth c Q A ls hx hb hml hown hts hP hK hD hA hS hl hret
  have hk635 := hts _ (List.mem_cons_of_mem _ wl635)
  have hnX7 : ∀ w ∈ u_ws RX7 TX7 18, w ∈ wz yX7_clearText cX7_clearText 2 (some .int) := fun w h => List.mem_cons_of_mem _ (inlX7 w h)
  replace hl : lv_has ls 2 [(0, .ref mself)] := hl
  have h := hF
  unfold F_X7_clearText at h
  refine lv_aload_n (pc := 0) hx hb dX7_clearText_0 rfl (lv_at hl 0 rfl) ?_
  refine va_get (pc := 1) (D := D) (ci := 7) (v := .int mtyped) (C := RX7) (T := TX7) (N := 18) hx hb hts hnX7 hown hK.1 hP 0 rfl rfl 6 (Nat.le_of_ble_eq_true rfl) hk635 (fun _ h9 => h9) rfl dX7_clearText_1 ?_
  refine lv_istore_n (lv' := [(1, .int mtyped), (0, .ref mself)]) (pc := 4) hx hb dX7_clearText_4 rfl hl (by decide) rfl (fun ls hl => ?_)
  refine lv_aload_n (pc := 5) hx hb dX7_clearText_5 rfl (lv_at hl 1 rfl) ?_
  refine lv_iconst (v := 0) (pc := 6) hx hb dX7_clearText_6 (by decide) ?_
  refine va_put (pc := 7) (D := D) (ci := 7) (v := .int (0 : Int32)) (ty := .int) (C := RX7) (T := TX7) (N := 18) hx hb hts hnX7 tyX7 tyX7_ok nmX7 hown hK.1 hP hD hS 0 rfl rfl 6 (Nat.le_of_ble_eq_true rfl) hk635 (fun _ h9 => h9) rfl (by decide +kernel) rfl rfl (Nat.le_of_ble_eq_true rfl) dX7_clearText_7 (fun H locs hP hD hS => ?_)
  replace hP : va_P D vwCl [(mself, .inr (7, [.ref msa, .ref mpasta, .ref mhelda, .int mpasts, .int mruns, .ref mtexta, .int (0 : Int32), .ref mchosena, .ref mtimesa, .ref mrestsa, .ref mbeforea, .int mspot, .int mfrom, .int mreason, .int mcause, .int morders, .int mkind, .ref mtolda])), (msa, .inl (cI, 580, .inl ms)), (mpasta, .inl (cI, 2320, .inl mpast)), (mhelda, .inl (cI, 580, .inl mheld)), (mtexta, .inl (cI, 60, .inl mtext)), (mchosena, .inl (cI, 12, .inl mchosen)), (mtimesa, .inl (cI, 12, .inl mtimes)), (mrestsa, .inl (cJ, 12, .inr (.inl mrests))), (mbeforea, .inl (cI, 12, .inl mbefore)), (mtolda, .inl (cI, 2, .inl mtold))] H := hP
  replace hD : va_D A [(mself, .inr (7, [.ref msa, .ref mpasta, .ref mhelda, .int mpasts, .int mruns, .ref mtexta, .int (0 : Int32), .ref mchosena, .ref mtimesa, .ref mrestsa, .ref mbeforea, .int mspot, .int mfrom, .int mreason, .int mcause, .int morders, .int mkind, .ref mtolda])), (msa, .inl (cI, 580, .inl ms)), (mpasta, .inl (cI, 2320, .inl mpast)), (mhelda, .inl (cI, 580, .inl mheld)), (mtexta, .inl (cI, 60, .inl mtext)), (mchosena, .inl (cI, 12, .inl mchosen)), (mtimesa, .inl (cI, 12, .inl mtimes)), (mrestsa, .inl (cJ, 12, .inr (.inl mrests))), (mbeforea, .inl (cI, 12, .inl mbefore)), (mtolda, .inl (cI, 2, .inl mtold))] := hD
  refine lv_iload_n (pc := 10) hx hb dX7_clearText_10 rfl (lv_at hl 0 rfl) ?_
  obtain ⟨e1, e2⟩ := am_ret2 h
  exact hret _ _ _ _ _ dX7_clearText_11 rfl e1 (by rw [← e2]; exact hP) hS
theorem hdX7_isAt : yX7_isAt.cls ≠ "java/lang/invoke/MethodHandle" ∧ yX7_isAt.cls ≠ "java/lang/invoke/VarHandle" ∧ (parseMethodDescriptor yX7_isAt.desc).map (fun d => d.parameters.length) = some 2 := by decide +kernel
abbrev rmX7_isAt : Room := { frames := 1, cells := 0, slots := 0, locals := 22 }
set_option maxHeartbeats 20000000 in
set_option maxRecDepth 100000 in
theorem c_X7_isAt (l : Launch) (D : va_G) (cI cJ : ClassId) (mself : Nat) (msa : Nat) (mpasta : Nat) (mhelda : Nat) (mtexta : Nat) (mchosena : Nat) (mtimesa : Nat) (mrestsa : Nat) (mbeforea : Nat) (mtolda : Nat) (mpasts : Int32) (mruns : Int32) (mtyped : Int32) (mspot : Int32) (mfrom : Int32) (mreason : Int32) (mcause : Int32) (morders : Int32) (mkind : Int32) (ms : Nat → Int32) (mpast : Nat → Int32) (mheld : Nat → Int32) (mtext : Nat → Int32) (mchosen : Nat → Int32) (mtimes : Nat → Int32) (mrests : Nat → Int64) (mbefore : Nat → Int32) (mtold : Nat → Int32) (p0 : Int32) (p1 : Int32) (r0 : Int32) (hF : F_X7_isAt mtyped mspot mtext p0 p1 = some r0) : Met l yX7_isAt (wz yX7_isAt cX7_isAt 3 (some .boolean)) rmX7_isAt (kPc D cI cJ [(mself, .inr (7, [.ref msa, .ref mpasta, .ref mhelda, .int mpasts, .int mruns, .ref mtexta, .int mtyped, .ref mchosena, .ref mtimesa, .ref mrestsa, .ref mbeforea, .int mspot, .int mfrom, .int mreason, .int mcause, .int morders, .int mkind, .ref mtolda])), (msa, .inl (cI, 580, .inl ms)), (mpasta, .inl (cI, 2320, .inl mpast)), (mhelda, .inl (cI, 580, .inl mheld)), (mtexta, .inl (cI, 60, .inl mtext)), (mchosena, .inl (cI, 12, .inl mchosen)), (mtimesa, .inl (cI, 12, .inl mtimes)), (mrestsa, .inl (cJ, 12, .inr (.inl mrests))), (mbeforea, .inl (cI, 12, .inl mbefore)), (mtolda, .inl (cI, 2, .inl mtold))] [.ref mself, .int p0, .int p1]) (vp_Si (fun r => r = r0)) 0 0 (fun _ => False) := by
  refine kM_ri cX7_isAt 3 .boolean (by decide +kernel) rfl rfl (Nat.le_of_ble_eq_true rfl) ⟨rfl, rfl⟩ ?_
  intro p e s m args below meth c Q ls hx hb hml hown hts hP hK hl hret
  have hk124 := hts _ (List.mem_cons_of_mem _ wl124)
  have hk635 := hts _ (List.mem_cons_of_mem _ wl635)
  have hk736 := hts _ (List.mem_cons_of_mem _ wl736)
  have hnX7 : ∀ w ∈ u_ws RX7 TX7 18, w ∈ wz yX7_isAt cX7_isAt 3 (some .boolean) := fun w h => List.mem_cons_of_mem _ (inlX7 w h)
  replace hl : lv_has ls 3 [(0, .ref mself), (1, .int p0), (2, .int p1)] := hl
  have h := hF
  unfold F_X7_isAt at h
  refine lv_aload_n (pc := 0) hx hb dX7_isAt_0 rfl (lv_at hl 0 rfl) ?_
  refine va_get (pc := 1) (D := D) (ci := 7) (v := .int mspot) (C := RX7) (T := TX7) (N := 18) hx hb hts hnX7 hown hK.1 hP 0 rfl rfl 11 (Nat.le_of_ble_eq_true rfl) hk736 (fun _ h9 => h9) rfl dX7_isAt_1 ?_
  refine lv_aload_n (pc := 4) hx hb dX7_isAt_4 rfl (lv_at hl 0 rfl) ?_
  refine va_get (pc := 5) (D := D) (ci := 7) (v := .int mtyped) (C := RX7) (T := TX7) (N := 18) hx hb hts hnX7 hown hK.1 hP 0 rfl rfl 6 (Nat.le_of_ble_eq_true rfl) hk635 (fun _ h9 => h9) rfl dX7_isAt_5 ?_
  refine lv_icmp_ge (pc := 8) (tgt := 32) hx hb dX7_isAt_8 (by decide) (fun cc => ?_) (fun cc => ?_)
  · replace h := am_t cc h
    refine lv_iconst (v := 0) (pc := 32) hx hb dX7_isAt_32 (by decide) ?_
    obtain e1 := am_ret1 h
    exact hret _ _ _ dX7_isAt_33 rfl e1
  replace h := am_f cc h
  refine lv_aload_n (pc := 11) hx hb dX7_isAt_11 rfl (lv_at hl 0 rfl) ?_
  refine va_get (pc := 12) (D := D) (ci := 7) (v := .ref mtexta) (C := RX7) (T := TX7) (N := 18) hx hb hts hnX7 hown hK.1 hP 0 rfl rfl 5 (Nat.le_of_ble_eq_true rfl) hk124 (fun _ h9 => h9) rfl dX7_isAt_12 ?_
  refine lv_aload_n (pc := 15) hx hb dX7_isAt_15 rfl (lv_at hl 0 rfl) ?_
  refine va_get (pc := 16) (D := D) (ci := 7) (v := .int mspot) (C := RX7) (T := TX7) (N := 18) hx hb hts hnX7 hown hK.1 hP 0 rfl rfl 11 (Nat.le_of_ble_eq_true rfl) hk736 (fun _ h9 => h9) rfl dX7_isAt_16 ?_
  obtain ⟨hi, h⟩ := am_in_s h
  refine va_iald (pc := 19) hx hb hK.1 hP 4 0 rfl rfl hi dX7_isAt_19 ?_
  refine lv_iload_n (pc := 20) hx hb dX7_isAt_20 rfl (lv_at hl 1 rfl) ?_
  refine lv_iload_n (pc := 21) hx hb dX7_isAt_21 rfl (lv_at hl 2 rfl) ?_
  obtain ⟨r1, hc1, h⟩ := am_bind_s h
  refine kc_Si (pc := 22) ⟨hx, hb, hml, hown, hts⟩ hP hK [.int (mtext mspot.toNatClampNeg), .int p0, .int p1] (c_X7_in l D cI cJ (mtext mspot.toNatClampNeg) p0 p1 r1 hc1) [] rfl (cwS 3 hts (gzS wl176 wl177 wl5 wl178) rfl rfl rfl ⟨rfl, hdX7_in⟩ ⟨Nat.le_of_ble_eq_true rfl, Nat.le_of_ble_eq_true rfl⟩) [] rfl hl.1 rfl (Nat.le_of_ble_eq_true rfl) dX7_isAt_22 ⟨Nat.zero_le _, Nat.zero_le _⟩ ?_
  refine lv_if_eq (pc := 25) (tgt := 32) hx hb dX7_isAt_25 (by decide) (fun cc => ?_) (fun cc => ?_)
  · replace h := am_t cc h
    refine lv_iconst (v := 0) (pc := 32) hx hb dX7_isAt_32 (by decide) ?_
    obtain e1 := am_ret1 h
    exact hret _ _ _ dX7_isAt_33 rfl e1
  replace h := am_f cc h
  refine lv_iconst (v := 1) (pc := 28) hx hb dX7_isAt_28 (by decide) ?_
  refine lv_goto (pc := 29) (tgt := 33) hx hb dX7_isAt_29 (by decide) ?_
  obtain e1 := am_ret1 h
  exact hret _ _ _ dX7_isAt_33 rfl e1
theorem hdX7_passes : yX7_passes.cls ≠ "java/lang/invoke/MethodHandle" ∧ yX7_passes.cls ≠ "java/lang/invoke/VarHandle" ∧ (parseMethodDescriptor yX7_passes.desc).map (fun d => d.parameters.length) = some 1 := by decide +kernel
abbrev rmX7_passes : Room := { frames := 2, cells := 0, slots := 0, locals := 44 }
set_option maxHeartbeats 20000000 in
set_option maxRecDepth 100000 in
theorem c_X7_passes (l : Launch) (D : va_G) (cI cJ : ClassId) (mself : Nat) (msa : Nat) (mpasta : Nat) (mhelda : Nat) (mtexta : Nat) (mchosena : Nat) (mtimesa : Nat) (mrestsa : Nat) (mbeforea : Nat) (mtolda : Nat) (mpasts : Int32) (mruns : Int32) (mtyped : Int32) (mspot : Int32) (mfrom : Int32) (mreason : Int32) (mcause : Int32) (morders : Int32) (mkind : Int32) (ms : Nat → Int32) (mpast : Nat → Int32) (mheld : Nat → Int32) (mtext : Nat → Int32) (mchosen : Nat → Int32) (mtimes : Nat → Int32) (mrests : Nat → Int64) (mbefore : Nat → Int32) (mtold : Nat → Int32) (p0 : Int32) (r0 : Int32) (zmspot : Int32) (hF : F_X7_passes mtyped mspot mtext p0 = some (r0, zmspot)) (sz : Nat) : Met l yX7_passes (wz yX7_passes cX7_passes 3 (some .boolean)) rmX7_passes (kPw D cI cJ [(mself, .inr (7, [.ref msa, .ref mpasta, .ref mhelda, .int mpasts, .int mruns, .ref mtexta, .int mtyped, .ref mchosena, .ref mtimesa, .ref mrestsa, .ref mbeforea, .int mspot, .int mfrom, .int mreason, .int mcause, .int morders, .int mkind, .ref mtolda])), (msa, .inl (cI, 580, .inl ms)), (mpasta, .inl (cI, 2320, .inl mpast)), (mhelda, .inl (cI, 580, .inl mheld)), (mtexta, .inl (cI, 60, .inl mtext)), (mchosena, .inl (cI, 12, .inl mchosen)), (mtimesa, .inl (cI, 12, .inl mtimes)), (mrestsa, .inl (cJ, 12, .inr (.inl mrests))), (mbeforea, .inl (cI, 12, .inl mbefore)), (mtolda, .inl (cI, 2, .inl mtold))] sz [.ref mself, .int p0]) (kQi D r0 [(mself, .inr (7, [.ref msa, .ref mpasta, .ref mhelda, .int mpasts, .int mruns, .ref mtexta, .int mtyped, .ref mchosena, .ref mtimesa, .ref mrestsa, .ref mbeforea, .int zmspot, .int mfrom, .int mreason, .int mcause, .int morders, .int mkind, .ref mtolda])), (msa, .inl (cI, 580, .inl ms)), (mpasta, .inl (cI, 2320, .inl mpast)), (mhelda, .inl (cI, 580, .inl mheld)), (mtexta, .inl (cI, 60, .inl mtext)), (mchosena, .inl (cI, 12, .inl mchosen)), (mtimesa, .inl (cI, 12, .inl mtimes)), (mrestsa, .inl (cJ, 12, .inr (.inl mrests))), (mbeforea, .inl (cI, 12, .inl mbefore)), (mtolda, .inl (cI, 2, .inl mtold))] (va_A [(mself, .inr (7, [.ref msa, .ref mpasta, .ref mhelda, .int mpasts, .int mruns, .ref mtexta, .int mtyped, .ref mchosena, .ref mtimesa, .ref mrestsa, .ref mbeforea, .int mspot, .int mfrom, .int mreason, .int mcause, .int morders, .int mkind, .ref mtolda])), (msa, .inl (cI, 580, .inl ms)), (mpasta, .inl (cI, 2320, .inl mpast)), (mhelda, .inl (cI, 580, .inl mheld)), (mtexta, .inl (cI, 60, .inl mtext)), (mchosena, .inl (cI, 12, .inl mchosen)), (mtimesa, .inl (cI, 12, .inl mtimes)), (mrestsa, .inl (cJ, 12, .inr (.inl mrests))), (mbeforea, .inl (cI, 12, .inl mbefore)), (mtolda, .inl (cI, 2, .inl mtold))] sz)) 0 0 (va_A [(mself, .inr (7, [.ref msa, .ref mpasta, .ref mhelda, .int mpasts, .int mruns, .ref mtexta, .int mtyped, .ref mchosena, .ref mtimesa, .ref mrestsa, .ref mbeforea, .int mspot, .int mfrom, .int mreason, .int mcause, .int morders, .int mkind, .ref mtolda])), (msa, .inl (cI, 580, .inl ms)), (mpasta, .inl (cI, 2320, .inl mpast)), (mhelda, .inl (cI, 580, .inl mheld)), (mtexta, .inl (cI, 60, .inl mtext)), (mchosena, .inl (cI, 12, .inl mchosen)), (mtimesa, .inl (cI, 12, .inl mtimes)), (mrestsa, .inl (cJ, 12, .inr (.inl mrests))), (mbeforea, .inl (cI, 12, .inl mbefore)), (mtolda, .inl (cI, 2, .inl mtold))] sz) := by
  refine kM_wi cX7_passes 3 .boolean (by decide +kernel) rfl rfl (Nat.le_of_ble_eq_true rfl) ⟨rfl, rfl⟩ ?_
  intro p e s m args below meth c Q A ls hx hb hml hown hts hP hK hD hA hS hl hret
  have hk736 := hts _ (List.mem_cons_of_mem _ wl736)
  have hnX7 : ∀ w ∈ u_ws RX7 TX7 18, w ∈ wz yX7_passes cX7_passes 3 (some .boolean) := fun w h => List.mem_cons_of_mem _ (inlX7 w h)
  replace hl : lv_has ls 3 [(0, .ref mself), (1, .int p0)] := hl
  have h := hF
  unfold F_X7_passes at h
  refine lv_aload_n (pc := 0) hx hb dX7_passes_0 rfl (lv_at hl 0 rfl) ?_
  refine lv_iload_n (pc := 1) hx hb dX7_passes_1 rfl (lv_at hl 1 rfl) ?_
  refine lv_iload_n (pc := 2) hx hb dX7_passes_2 rfl (lv_at hl 1 rfl) ?_
  obtain ⟨r1, hc1, h⟩ := am_bind_s h
  refine kc_Vi (pc := 3) (ci := 7) ⟨hx, hb, hml, hown, hts⟩ hP hK [.int p0, .int p0] (c_X7_isAt l D cI cJ mself msa mpasta mhelda mtexta mchosena mtimesa mrestsa mbeforea mtolda mpasts mruns mtyped mspot mfrom mreason mcause morders mkind ms mpast mheld mtext mchosen mtimes mrests mbefore mtold p0 p0 r1 hc1) [0, 1, 2, 3, 4, 5, 6, 7, 8, 9] rfl (cwV 2 hts (gzV wl743 wl744 wl745 wl5 wl746) rfl rfl rfl ⟨rfl, hdX7_isAt⟩ ⟨Nat.le_of_ble_eq_true rfl, Nat.le_of_ble_eq_true rfl⟩) rfl rfl [] rfl hl.1 rfl (Nat.le_of_ble_eq_true rfl) dX7_passes_3 ⟨Nat.zero_le _, Nat.zero_le _⟩ ?_
  refine lv_istore_n (lv' := [(2, .int r1), (0, .ref mself), (1, .int p0)]) (pc := 6) hx hb dX7_passes_6 rfl hl (by decide) rfl (fun ls hl => ?_)
  refine lv_aload_n (pc := 7) hx hb dX7_passes_7 rfl (lv_at hl 1 rfl) ?_
  refine lv_dup (pc := 8) hx hb dX7_passes_8 rfl ?_
  refine va_get (pc := 9) (D := D) (ci := 7) (v := .int mspot) (C := RX7) (T := TX7) (N := 18) hx hb hts hnX7 hown hK.1 hP 0 rfl rfl 11 (Nat.le_of_ble_eq_true rfl) hk736 (fun _ h9 => h9) rfl dX7_passes_9 ?_
  refine lv_iload_n (pc := 12) hx hb dX7_passes_12 rfl (lv_at hl 0 rfl) ?_
  refine lv_if_eq (pc := 13) (tgt := 20) hx hb dX7_passes_13 (by decide) (fun cc => ?_) (fun cc => ?_)
  · replace h := am_t cc h
    refine lv_iconst (v := 0) (pc := 20) hx hb dX7_passes_20 (by decide) ?_
    refine lv_iadd (pc := 21) hx hb dX7_passes_21 ?_
    refine lv_topi (fun x2 ex2 => ?_)
    replace h := am_let_s ex2 h
    refine va_put (pc := 22) (D := D) (ci := 7) (v := .int x2) (ty := .int) (C := RX7) (T := TX7) (N := 18) hx hb hts hnX7 tyX7 tyX7_ok nmX7 hown hK.1 hP hD hS 0 rfl rfl 11 (Nat.le_of_ble_eq_true rfl) hk736 (fun _ h9 => h9) rfl (by decide +kernel) rfl rfl (Nat.le_of_ble_eq_true rfl) dX7_passes_22 (fun H locs hP hD hS => ?_)
    replace hP : va_P D vwCl [(mself, .inr (7, [.ref msa, .ref mpasta, .ref mhelda, .int mpasts, .int mruns, .ref mtexta, .int mtyped, .ref mchosena, .ref mtimesa, .ref mrestsa, .ref mbeforea, .int x2, .int mfrom, .int mreason, .int mcause, .int morders, .int mkind, .ref mtolda])), (msa, .inl (cI, 580, .inl ms)), (mpasta, .inl (cI, 2320, .inl mpast)), (mhelda, .inl (cI, 580, .inl mheld)), (mtexta, .inl (cI, 60, .inl mtext)), (mchosena, .inl (cI, 12, .inl mchosen)), (mtimesa, .inl (cI, 12, .inl mtimes)), (mrestsa, .inl (cJ, 12, .inr (.inl mrests))), (mbeforea, .inl (cI, 12, .inl mbefore)), (mtolda, .inl (cI, 2, .inl mtold))] H := hP
    replace hD : va_D A [(mself, .inr (7, [.ref msa, .ref mpasta, .ref mhelda, .int mpasts, .int mruns, .ref mtexta, .int mtyped, .ref mchosena, .ref mtimesa, .ref mrestsa, .ref mbeforea, .int x2, .int mfrom, .int mreason, .int mcause, .int morders, .int mkind, .ref mtolda])), (msa, .inl (cI, 580, .inl ms)), (mpasta, .inl (cI, 2320, .inl mpast)), (mhelda, .inl (cI, 580, .inl mheld)), (mtexta, .inl (cI, 60, .inl mtext)), (mchosena, .inl (cI, 12, .inl mchosen)), (mtimesa, .inl (cI, 12, .inl mtimes)), (mrestsa, .inl (cJ, 12, .inr (.inl mrests))), (mbeforea, .inl (cI, 12, .inl mbefore)), (mtolda, .inl (cI, 2, .inl mtold))] := hD
    refine lv_iload_n (pc := 25) hx hb dX7_passes_25 rfl (lv_at hl 0 rfl) ?_
    obtain ⟨hbo, h⟩ := am_bool_s h
    obtain ⟨e1, e2⟩ := am_ret2 h
    exact hret _ _ _ _ _ dX7_passes_26 (am_bool_n hbo) e1 (by rw [← e2]; exact hP) hS
  replace h := am_f cc h
  refine lv_iconst (v := 1) (pc := 16) hx hb dX7_passes_16 (by decide) ?_
  refine lv_goto (pc := 17) (tgt := 21) hx hb dX7_passes_17 (by decide) ?_
  refine lv_iadd (pc := 21) hx hb dX7_passes_21 ?_
  refine lv_topi (fun x3 ex3 => ?_)
  replace h := am_let_s ex3 h
  refine va_put (pc := 22) (D := D) (ci := 7) (v := .int x3) (ty := .int) (C := RX7) (T := TX7) (N := 18) hx hb hts hnX7 tyX7 tyX7_ok nmX7 hown hK.1 hP hD hS 0 rfl rfl 11 (Nat.le_of_ble_eq_true rfl) hk736 (fun _ h9 => h9) rfl (by decide +kernel) rfl rfl (Nat.le_of_ble_eq_true rfl) dX7_passes_22 (fun H locs hP hD hS => ?_)
  replace hP : va_P D vwCl [(mself, .inr (7, [.ref msa, .ref mpasta, .ref mhelda, .int mpasts, .int mruns, .ref mtexta, .int mtyped, .ref mchosena, .ref mtimesa, .ref mrestsa, .ref mbeforea, .int x3, .int mfrom, .int mreason, .int mcause, .int morders, .int mkind, .ref mtolda])), (msa, .inl (cI, 580, .inl ms)), (mpasta, .inl (cI, 2320, .inl mpast)), (mhelda, .inl (cI, 580, .inl mheld)), (mtexta, .inl (cI, 60, .inl mtext)), (mchosena, .inl (cI, 12, .inl mchosen)), (mtimesa, .inl (cI, 12, .inl mtimes)), (mrestsa, .inl (cJ, 12, .inr (.inl mrests))), (mbeforea, .inl (cI, 12, .inl mbefore)), (mtolda, .inl (cI, 2, .inl mtold))] H := hP
  replace hD : va_D A [(mself, .inr (7, [.ref msa, .ref mpasta, .ref mhelda, .int mpasts, .int mruns, .ref mtexta, .int mtyped, .ref mchosena, .ref mtimesa, .ref mrestsa, .ref mbeforea, .int x3, .int mfrom, .int mreason, .int mcause, .int morders, .int mkind, .ref mtolda])), (msa, .inl (cI, 580, .inl ms)), (mpasta, .inl (cI, 2320, .inl mpast)), (mhelda, .inl (cI, 580, .inl mheld)), (mtexta, .inl (cI, 60, .inl mtext)), (mchosena, .inl (cI, 12, .inl mchosen)), (mtimesa, .inl (cI, 12, .inl mtimes)), (mrestsa, .inl (cJ, 12, .inr (.inl mrests))), (mbeforea, .inl (cI, 12, .inl mbefore)), (mtolda, .inl (cI, 2, .inl mtold))] := hD
  refine lv_iload_n (pc := 25) hx hb dX7_passes_25 rfl (lv_at hl 0 rfl) ?_
  obtain ⟨hbo, h⟩ := am_bool_s h
  obtain ⟨e1, e2⟩ := am_ret2 h
  exact hret _ _ _ _ _ dX7_passes_26 (am_bool_n hbo) e1 (by rw [← e2]; exact hP) hS
theorem hdX7_number : yX7_number.cls ≠ "java/lang/invoke/MethodHandle" ∧ yX7_number.cls ≠ "java/lang/invoke/VarHandle" ∧ (parseMethodDescriptor yX7_number.desc).map (fun d => d.parameters.length) = some 1 := by decide +kernel
abbrev rmX7_number : Room := { frames := 2, cells := 0, slots := 0, locals := 44 }
set_option maxHeartbeats 20000000 in
set_option maxRecDepth 100000 in
theorem c_X7_number (l : Launch) (D : va_G) (cI cJ : ClassId) (mself : Nat) (msa : Nat) (mpasta : Nat) (mhelda : Nat) (mtexta : Nat) (mchosena : Nat) (mtimesa : Nat) (mrestsa : Nat) (mbeforea : Nat) (mtolda : Nat) (mpasts : Int32) (mruns : Int32) (mtyped : Int32) (mspot : Int32) (mfrom : Int32) (mreason : Int32) (mcause : Int32) (morders : Int32) (mkind : Int32) (ms : Nat → Int32) (mpast : Nat → Int32) (mheld : Nat → Int32) (mtext : Nat → Int32) (mchosen : Nat → Int32) (mtimes : Nat → Int32) (mrests : Nat → Int64) (mbefore : Nat → Int32) (mtold : Nat → Int32) (p0 : Int32) (r0 : Int32) (zmspot : Int32) (zmtold : Nat → Int32) (hF : F_X7_number mtyped mspot mtext mtold p0 = some (r0, zmspot, zmtold)) (sz : Nat) : Met l yX7_number (wz yX7_number cX7_number 3 (some .boolean)) rmX7_number (kPw D cI cJ [(mself, .inr (7, [.ref msa, .ref mpasta, .ref mhelda, .int mpasts, .int mruns, .ref mtexta, .int mtyped, .ref mchosena, .ref mtimesa, .ref mrestsa, .ref mbeforea, .int mspot, .int mfrom, .int mreason, .int mcause, .int morders, .int mkind, .ref mtolda])), (msa, .inl (cI, 580, .inl ms)), (mpasta, .inl (cI, 2320, .inl mpast)), (mhelda, .inl (cI, 580, .inl mheld)), (mtexta, .inl (cI, 60, .inl mtext)), (mchosena, .inl (cI, 12, .inl mchosen)), (mtimesa, .inl (cI, 12, .inl mtimes)), (mrestsa, .inl (cJ, 12, .inr (.inl mrests))), (mbeforea, .inl (cI, 12, .inl mbefore)), (mtolda, .inl (cI, 2, .inl mtold))] sz [.ref mself, .int p0]) (kQi D r0 [(mself, .inr (7, [.ref msa, .ref mpasta, .ref mhelda, .int mpasts, .int mruns, .ref mtexta, .int mtyped, .ref mchosena, .ref mtimesa, .ref mrestsa, .ref mbeforea, .int zmspot, .int mfrom, .int mreason, .int mcause, .int morders, .int mkind, .ref mtolda])), (msa, .inl (cI, 580, .inl ms)), (mpasta, .inl (cI, 2320, .inl mpast)), (mhelda, .inl (cI, 580, .inl mheld)), (mtexta, .inl (cI, 60, .inl mtext)), (mchosena, .inl (cI, 12, .inl mchosen)), (mtimesa, .inl (cI, 12, .inl mtimes)), (mrestsa, .inl (cJ, 12, .inr (.inl mrests))), (mbeforea, .inl (cI, 12, .inl mbefore)), (mtolda, .inl (cI, 2, .inl zmtold))] (va_A [(mself, .inr (7, [.ref msa, .ref mpasta, .ref mhelda, .int mpasts, .int mruns, .ref mtexta, .int mtyped, .ref mchosena, .ref mtimesa, .ref mrestsa, .ref mbeforea, .int mspot, .int mfrom, .int mreason, .int mcause, .int morders, .int mkind, .ref mtolda])), (msa, .inl (cI, 580, .inl ms)), (mpasta, .inl (cI, 2320, .inl mpast)), (mhelda, .inl (cI, 580, .inl mheld)), (mtexta, .inl (cI, 60, .inl mtext)), (mchosena, .inl (cI, 12, .inl mchosen)), (mtimesa, .inl (cI, 12, .inl mtimes)), (mrestsa, .inl (cJ, 12, .inr (.inl mrests))), (mbeforea, .inl (cI, 12, .inl mbefore)), (mtolda, .inl (cI, 2, .inl mtold))] sz)) 0 0 (va_A [(mself, .inr (7, [.ref msa, .ref mpasta, .ref mhelda, .int mpasts, .int mruns, .ref mtexta, .int mtyped, .ref mchosena, .ref mtimesa, .ref mrestsa, .ref mbeforea, .int mspot, .int mfrom, .int mreason, .int mcause, .int morders, .int mkind, .ref mtolda])), (msa, .inl (cI, 580, .inl ms)), (mpasta, .inl (cI, 2320, .inl mpast)), (mhelda, .inl (cI, 580, .inl mheld)), (mtexta, .inl (cI, 60, .inl mtext)), (mchosena, .inl (cI, 12, .inl mchosen)), (mtimesa, .inl (cI, 12, .inl mtimes)), (mrestsa, .inl (cJ, 12, .inr (.inl mrests))), (mbeforea, .inl (cI, 12, .inl mbefore)), (mtolda, .inl (cI, 2, .inl mtold))] sz) := by
  refine kM_wi cX7_number 3 .boolean (by decide +kernel) rfl rfl (Nat.le_of_ble_eq_true rfl) ⟨rfl, rfl⟩ ?_
  intro p e s m args below meth c Q A ls hx hb hml hown hts hP hK hD hA hS hl hret
  have hk124 := hts _ (List.mem_cons_of_mem _ wl124)
  have hk129 := hts _ (List.mem_cons_of_mem _ wl129)
  have hk736 := hts _ (List.mem_cons_of_mem _ wl736)
  have hnX7 : ∀ w ∈ u_ws RX7 TX7 18, w ∈ wz yX7_number cX7_number 3 (some .boolean) := fun w h => List.mem_cons_of_mem _ (inlX7 w h)
  replace hl : lv_has ls 3 [(0, .ref mself), (1, .int p0)] := hl
  have h := hF
  unfold F_X7_number at h
  refine lv_aload_n (pc := 0) hx hb dX7_number_0 rfl (lv_at hl 0 rfl) ?_
  refine va_get (pc := 1) (D := D) (ci := 7) (v := .int mspot) (C := RX7) (T := TX7) (N := 18) hx hb hts hnX7 hown hK.1 hP 0 rfl rfl 11 (Nat.le_of_ble_eq_true rfl) hk736 (fun _ h9 => h9) rfl dX7_number_1 ?_
  refine lv_istore_n (lv' := [(2, .int mspot), (0, .ref mself), (1, .int p0)]) (pc := 4) hx hb dX7_number_4 rfl hl (by decide) rfl (fun ls hl => ?_)
  refine lv_aload_n (pc := 5) hx hb dX7_number_5 rfl (lv_at hl 1 rfl) ?_
  refine va_get (pc := 6) (D := D) (ci := 7) (v := .ref mtolda) (C := RX7) (T := TX7) (N := 18) hx hb hts hnX7 hown hK.1 hP 0 rfl rfl 17 (Nat.le_of_ble_eq_true rfl) hk129 (fun _ h9 => h9) rfl dX7_number_6 ?_
  refine lv_iload_n (pc := 9) hx hb dX7_number_9 rfl (lv_at hl 2 rfl) ?_
  refine lv_iconst (v := 0) (pc := 10) hx hb dX7_number_10 (by decide) ?_
  obtain ⟨hi, h⟩ := am_in_s h
  obtain ⟨f1, ef1⟩ : ∃ y : Nat → Int32, y = (upd mtold p0.toNatClampNeg (0 : Int32)) := ⟨_, rfl⟩
  replace h := am_let_s ef1 h
  refine va_iast (pc := 11) hx hb hK.1 hP hD hS 9 0 rfl rfl hi dX7_number_11 (fun H locs hP hD hS => ?_)
  rw [← ef1] at hP hD
  replace hP : va_P D vwCl [(mself, .inr (7, [.ref msa, .ref mpasta, .ref mhelda, .int mpasts, .int mruns, .ref mtexta, .int mtyped, .ref mchosena, .ref mtimesa, .ref mrestsa, .ref mbeforea, .int mspot, .int mfrom, .int mreason, .int mcause, .int morders, .int mkind, .ref mtolda])), (msa, .inl (cI, 580, .inl ms)), (mpasta, .inl (cI, 2320, .inl mpast)), (mhelda, .inl (cI, 580, .inl mheld)), (mtexta, .inl (cI, 60, .inl mtext)), (mchosena, .inl (cI, 12, .inl mchosen)), (mtimesa, .inl (cI, 12, .inl mtimes)), (mrestsa, .inl (cJ, 12, .inr (.inl mrests))), (mbeforea, .inl (cI, 12, .inl mbefore)), (mtolda, .inl (cI, 2, .inl f1))] H := hP
  replace hD : va_D A [(mself, .inr (7, [.ref msa, .ref mpasta, .ref mhelda, .int mpasts, .int mruns, .ref mtexta, .int mtyped, .ref mchosena, .ref mtimesa, .ref mrestsa, .ref mbeforea, .int mspot, .int mfrom, .int mreason, .int mcause, .int morders, .int mkind, .ref mtolda])), (msa, .inl (cI, 580, .inl ms)), (mpasta, .inl (cI, 2320, .inl mpast)), (mhelda, .inl (cI, 580, .inl mheld)), (mtexta, .inl (cI, 60, .inl mtext)), (mchosena, .inl (cI, 12, .inl mchosen)), (mtimesa, .inl (cI, 12, .inl mtimes)), (mrestsa, .inl (cJ, 12, .inr (.inl mrests))), (mbeforea, .inl (cI, 12, .inl mbefore)), (mtolda, .inl (cI, 2, .inl f1))] := hD
  refine am_join2_s (fun (u2 : Int32) (f3 : Nat → Int32) => ∀ (ls : Array Slot), lv_has ls 3 [(0, .ref mself), (2, .int mspot)] → ∀ (H : Heap) (locs : List Loc), va_P D vwCl [(mself, .inr (7, [.ref msa, .ref mpasta, .ref mhelda, .int mpasts, .int mruns, .ref mtexta, .int mtyped, .ref mchosena, .ref mtimesa, .ref mrestsa, .ref mbeforea, .int u2, .int mfrom, .int mreason, .int mcause, .int morders, .int mkind, .ref mtolda])), (msa, .inl (cI, 580, .inl ms)), (mpasta, .inl (cI, 2320, .inl mpast)), (mhelda, .inl (cI, 580, .inl mheld)), (mtexta, .inl (cI, 60, .inl mtext)), (mchosena, .inl (cI, 12, .inl mchosen)), (mtimesa, .inl (cI, 12, .inl mtimes)), (mrestsa, .inl (cJ, 12, .inr (.inl mrests))), (mbeforea, .inl (cI, 12, .inl mbefore)), (mtolda, .inl (cI, 2, .inl f3))] H → va_D A [(mself, .inr (7, [.ref msa, .ref mpasta, .ref mhelda, .int mpasts, .int mruns, .ref mtexta, .int mtyped, .ref mchosena, .ref mtimesa, .ref mrestsa, .ref mbeforea, .int u2, .int mfrom, .int mreason, .int mcause, .int morders, .int mkind, .ref mtolda])), (msa, .inl (cI, 580, .inl ms)), (mpasta, .inl (cI, 2320, .inl mpast)), (mhelda, .inl (cI, 580, .inl mheld)), (mtexta, .inl (cI, 60, .inl mtext)), (mchosena, .inl (cI, 12, .inl mchosen)), (mtimesa, .inl (cI, 12, .inl mtimes)), (mrestsa, .inl (cJ, 12, .inr (.inl mrests))), (mbeforea, .inl (cI, 12, .inl mbefore)), (mtolda, .inl (cI, 2, .inl f3))] → va_S A s.heap H locs → W p l e rmX7_number s m args below meth c H locs 0 0 Q (F0 m 74 ls [])) h (fun u2 f3 h ls hl H locs hP hD hS => ?_) (fun K4 hK4 h => ?_)
  · refine lv_aload_n (pc := 74) hx hb dX7_number_74 rfl (lv_at hl 0 rfl) ?_
    refine va_get (pc := 75) (D := D) (ci := 7) (v := .int u2) (C := RX7) (T := TX7) (N := 18) hx hb hts hnX7 hown hK.1 hP 0 rfl rfl 11 (Nat.le_of_ble_eq_true rfl) hk736 (fun _ h9 => h9) rfl dX7_number_75 ?_
    refine lv_iload_n (pc := 78) hx hb dX7_number_78 rfl (lv_at hl 1 rfl) ?_
    refine lv_icmp_le (pc := 79) (tgt := 86) hx hb dX7_number_79 (by decide) (fun cc => ?_) (fun cc => ?_)
    · replace h := am_t cc h
      refine lv_iconst (v := 0) (pc := 86) hx hb dX7_number_86 (by decide) ?_
      obtain ⟨e1, e2, e3⟩ := am_ret3 h
      exact hret _ _ _ _ _ dX7_number_87 rfl e1 (by rw [← e2, ← e3]; exact hP) hS
    replace h := am_f cc h
    refine lv_iconst (v := 1) (pc := 82) hx hb dX7_number_82 (by decide) ?_
    refine lv_goto (pc := 83) (tgt := 87) hx hb dX7_number_83 (by decide) ?_
    obtain ⟨e1, e2, e3⟩ := am_ret3 h
    exact hret _ _ _ _ _ dX7_number_87 rfl e1 (by rw [← e2, ← e3]; exact hP) hS
  refine am_loop2_s (fun (u5 : Int32) (f6 : Nat → Int32) => ∀ (ls : Array Slot), lv_has ls 3 [(0, .ref mself), (1, .int p0), (2, .int mspot)] → ∀ (H : Heap) (locs : List Loc), va_P D vwCl [(mself, .inr (7, [.ref msa, .ref mpasta, .ref mhelda, .int mpasts, .int mruns, .ref mtexta, .int mtyped, .ref mchosena, .ref mtimesa, .ref mrestsa, .ref mbeforea, .int u5, .int mfrom, .int mreason, .int mcause, .int morders, .int mkind, .ref mtolda])), (msa, .inl (cI, 580, .inl ms)), (mpasta, .inl (cI, 2320, .inl mpast)), (mhelda, .inl (cI, 580, .inl mheld)), (mtexta, .inl (cI, 60, .inl mtext)), (mchosena, .inl (cI, 12, .inl mchosen)), (mtimesa, .inl (cI, 12, .inl mtimes)), (mrestsa, .inl (cJ, 12, .inr (.inl mrests))), (mbeforea, .inl (cI, 12, .inl mbefore)), (mtolda, .inl (cI, 2, .inl f6))] H → va_D A [(mself, .inr (7, [.ref msa, .ref mpasta, .ref mhelda, .int mpasts, .int mruns, .ref mtexta, .int mtyped, .ref mchosena, .ref mtimesa, .ref mrestsa, .ref mbeforea, .int u5, .int mfrom, .int mreason, .int mcause, .int morders, .int mkind, .ref mtolda])), (msa, .inl (cI, 580, .inl ms)), (mpasta, .inl (cI, 2320, .inl mpast)), (mhelda, .inl (cI, 580, .inl mheld)), (mtexta, .inl (cI, 60, .inl mtext)), (mchosena, .inl (cI, 12, .inl mchosen)), (mtimesa, .inl (cI, 12, .inl mtimes)), (mrestsa, .inl (cJ, 12, .inr (.inl mrests))), (mbeforea, .inl (cI, 12, .inl mbefore)), (mtolda, .inl (cI, 2, .inl f6))] → va_S A s.heap H locs → W p l e rmX7_number s m args below meth c H locs 0 0 Q (F0 m 12 ls [])) (fun rec7 ihrec7 u5 f6 h ls hl H locs hP hD hS => ?_) _ _ _ h ls (lv_sub hl [1, 2, 0] rfl) H locs hP hD hS
  unfold F_X7_number_B12 at h
  refine lv_aload_n (pc := 12) hx hb dX7_number_12 rfl (lv_at hl 0 rfl) ?_
  refine lv_bipush (v := 48) (pc := 13) hx hb dX7_number_13 (by decide) ?_
  refine lv_bipush (v := 57) (pc := 15) hx hb dX7_number_15 (by decide) ?_
  obtain ⟨r8, hc8, h⟩ := am_bind_s h
  refine kc_Vi (pc := 17) (ci := 7) ⟨hx, hb, hml, hown, hts⟩ hP hK [.int (48 : Int32), .int (57 : Int32)] (c_X7_isAt l D cI cJ mself msa mpasta mhelda mtexta mchosena mtimesa mrestsa mbeforea mtolda mpasts mruns mtyped u5 mfrom mreason mcause morders mkind ms mpast mheld mtext mchosen mtimes mrests mbefore f6 (48 : Int32) (57 : Int32) r8 hc8) [0, 1, 2, 3, 4, 5, 6, 7, 8, 9] rfl (cwV 2 hts (gzV wl743 wl744 wl745 wl5 wl746) rfl rfl rfl ⟨rfl, hdX7_isAt⟩ ⟨Nat.le_of_ble_eq_true rfl, Nat.le_of_ble_eq_true rfl⟩) rfl rfl [] rfl hl.1 rfl (Nat.le_of_ble_eq_true rfl) dX7_number_17 ⟨Nat.zero_le _, Nat.zero_le _⟩ ?_
  refine lv_if_eq (pc := 20) (tgt := 74) hx hb dX7_number_20 (by decide) (fun cc => ?_) (fun cc => ?_)
  · replace h := am_t cc h
    exact hK4 _ _ h ls (lv_sub hl [0, 2] rfl) H locs hP hD hS
  replace h := am_f cc h
  refine lv_aload_n (pc := 23) hx hb dX7_number_23 rfl (lv_at hl 0 rfl) ?_
  refine va_get (pc := 24) (D := D) (ci := 7) (v := .int u5) (C := RX7) (T := TX7) (N := 18) hx hb hts hnX7 hown hK.1 hP 0 rfl rfl 11 (Nat.le_of_ble_eq_true rfl) hk736 (fun _ h9 => h9) rfl dX7_number_24 ?_
  refine lv_iload_n (pc := 27) hx hb dX7_number_27 rfl (lv_at hl 2 rfl) ?_
  refine lv_isub (pc := 28) hx hb dX7_number_28 ?_
  refine lv_iconst (v := 2) (pc := 29) hx hb dX7_number_29 (by decide) ?_
  refine lv_icmp_ge (pc := 30) (tgt := 74) hx hb dX7_number_30 (by decide) (fun cc => ?_) (fun cc => ?_)
  · replace h := am_t cc h
    exact hK4 _ _ h ls (lv_sub hl [0, 2] rfl) H locs hP hD hS
  replace h := am_f cc h
  refine lv_aload_n (pc := 33) hx hb dX7_number_33 rfl (lv_at hl 0 rfl) ?_
  refine va_get (pc := 34) (D := D) (ci := 7) (v := .ref mtolda) (C := RX7) (T := TX7) (N := 18) hx hb hts hnX7 hown hK.1 hP 0 rfl rfl 17 (Nat.le_of_ble_eq_true rfl) hk129 (fun _ h9 => h9) rfl dX7_number_34 ?_
  refine lv_iload_n (pc := 37) hx hb dX7_number_37 rfl (lv_at hl 1 rfl) ?_
  refine lv_bipush (v := 10) (pc := 38) hx hb dX7_number_38 (by decide) ?_
  refine lv_aload_n (pc := 40) hx hb dX7_number_40 rfl (lv_at hl 0 rfl) ?_
  refine va_get (pc := 41) (D := D) (ci := 7) (v := .ref mtolda) (C := RX7) (T := TX7) (N := 18) hx hb hts hnX7 hown hK.1 hP 0 rfl rfl 17 (Nat.le_of_ble_eq_true rfl) hk129 (fun _ h9 => h9) rfl dX7_number_41 ?_
  refine lv_iload_n (pc := 44) hx hb dX7_number_44 rfl (lv_at hl 1 rfl) ?_
  obtain ⟨hi, h⟩ := am_in_s h
  refine va_iald (pc := 45) hx hb hK.1 hP 9 0 rfl rfl hi dX7_number_45 ?_
  refine lv_imul (pc := 46) hx hb dX7_number_46 ?_
  refine lv_aload_n (pc := 47) hx hb dX7_number_47 rfl (lv_at hl 0 rfl) ?_
  refine va_get (pc := 48) (D := D) (ci := 7) (v := .ref mtexta) (C := RX7) (T := TX7) (N := 18) hx hb hts hnX7 hown hK.1 hP 0 rfl rfl 5 (Nat.le_of_ble_eq_true rfl) hk124 (fun _ h9 => h9) rfl dX7_number_48 ?_
  refine lv_aload_n (pc := 51) hx hb dX7_number_51 rfl (lv_at hl 0 rfl) ?_
  refine va_get (pc := 52) (D := D) (ci := 7) (v := .int u5) (C := RX7) (T := TX7) (N := 18) hx hb hts hnX7 hown hK.1 hP 0 rfl rfl 11 (Nat.le_of_ble_eq_true rfl) hk736 (fun _ h9 => h9) rfl dX7_number_52 ?_
  obtain ⟨hi, h⟩ := am_in_s h
  refine va_iald (pc := 55) hx hb hK.1 hP 4 0 rfl rfl hi dX7_number_55 ?_
  refine lv_iadd (pc := 56) hx hb dX7_number_56 ?_
  refine lv_bipush (v := 48) (pc := 57) hx hb dX7_number_57 (by decide) ?_
  refine lv_isub (pc := 59) hx hb dX7_number_59 ?_
  obtain ⟨hi, h⟩ := am_in_s h
  obtain ⟨f9, ef9⟩ : ∃ y : Nat → Int32, y = (upd f6 p0.toNatClampNeg ((((10 : Int32) * (f6 p0.toNatClampNeg)) + (mtext u5.toNatClampNeg)) - (48 : Int32))) := ⟨_, rfl⟩
  replace h := am_let_s ef9 h
  refine va_iast (pc := 60) hx hb hK.1 hP hD hS 9 0 rfl rfl hi dX7_number_60 (fun H locs hP hD hS => ?_)
  rw [← ef9] at hP hD
  replace hP : va_P D vwCl [(mself, .inr (7, [.ref msa, .ref mpasta, .ref mhelda, .int mpasts, .int mruns, .ref mtexta, .int mtyped, .ref mchosena, .ref mtimesa, .ref mrestsa, .ref mbeforea, .int u5, .int mfrom, .int mreason, .int mcause, .int morders, .int mkind, .ref mtolda])), (msa, .inl (cI, 580, .inl ms)), (mpasta, .inl (cI, 2320, .inl mpast)), (mhelda, .inl (cI, 580, .inl mheld)), (mtexta, .inl (cI, 60, .inl mtext)), (mchosena, .inl (cI, 12, .inl mchosen)), (mtimesa, .inl (cI, 12, .inl mtimes)), (mrestsa, .inl (cJ, 12, .inr (.inl mrests))), (mbeforea, .inl (cI, 12, .inl mbefore)), (mtolda, .inl (cI, 2, .inl f9))] H := hP
  replace hD : va_D A [(mself, .inr (7, [.ref msa, .ref mpasta, .ref mhelda, .int mpasts, .int mruns, .ref mtexta, .int mtyped, .ref mchosena, .ref mtimesa, .ref mrestsa, .ref mbeforea, .int u5, .int mfrom, .int mreason, .int mcause, .int morders, .int mkind, .ref mtolda])), (msa, .inl (cI, 580, .inl ms)), (mpasta, .inl (cI, 2320, .inl mpast)), (mhelda, .inl (cI, 580, .inl mheld)), (mtexta, .inl (cI, 60, .inl mtext)), (mchosena, .inl (cI, 12, .inl mchosen)), (mtimesa, .inl (cI, 12, .inl mtimes)), (mrestsa, .inl (cJ, 12, .inr (.inl mrests))), (mbeforea, .inl (cI, 12, .inl mbefore)), (mtolda, .inl (cI, 2, .inl f9))] := hD
  refine lv_aload_n (pc := 61) hx hb dX7_number_61 rfl (lv_at hl 0 rfl) ?_
  refine lv_dup (pc := 62) hx hb dX7_number_62 rfl ?_
  refine va_get (pc := 63) (D := D) (ci := 7) (v := .int u5) (C := RX7) (T := TX7) (N := 18) hx hb hts hnX7 hown hK.1 hP 0 rfl rfl 11 (Nat.le_of_ble_eq_true rfl) hk736 (fun _ h9 => h9) rfl dX7_number_63 ?_
  refine lv_iconst (v := 1) (pc := 66) hx hb dX7_number_66 (by decide) ?_
  refine lv_iadd (pc := 67) hx hb dX7_number_67 ?_
  refine lv_topi (fun x10 ex10 => ?_)
  replace h := am_let_s ex10 h
  refine va_put (pc := 68) (D := D) (ci := 7) (v := .int x10) (ty := .int) (C := RX7) (T := TX7) (N := 18) hx hb hts hnX7 tyX7 tyX7_ok nmX7 hown hK.1 hP hD hS 0 rfl rfl 11 (Nat.le_of_ble_eq_true rfl) hk736 (fun _ h9 => h9) rfl (by decide +kernel) rfl rfl (Nat.le_of_ble_eq_true rfl) dX7_number_68 (fun H locs hP hD hS => ?_)
  replace hP : va_P D vwCl [(mself, .inr (7, [.ref msa, .ref mpasta, .ref mhelda, .int mpasts, .int mruns, .ref mtexta, .int mtyped, .ref mchosena, .ref mtimesa, .ref mrestsa, .ref mbeforea, .int x10, .int mfrom, .int mreason, .int mcause, .int morders, .int mkind, .ref mtolda])), (msa, .inl (cI, 580, .inl ms)), (mpasta, .inl (cI, 2320, .inl mpast)), (mhelda, .inl (cI, 580, .inl mheld)), (mtexta, .inl (cI, 60, .inl mtext)), (mchosena, .inl (cI, 12, .inl mchosen)), (mtimesa, .inl (cI, 12, .inl mtimes)), (mrestsa, .inl (cJ, 12, .inr (.inl mrests))), (mbeforea, .inl (cI, 12, .inl mbefore)), (mtolda, .inl (cI, 2, .inl f9))] H := hP
  replace hD : va_D A [(mself, .inr (7, [.ref msa, .ref mpasta, .ref mhelda, .int mpasts, .int mruns, .ref mtexta, .int mtyped, .ref mchosena, .ref mtimesa, .ref mrestsa, .ref mbeforea, .int x10, .int mfrom, .int mreason, .int mcause, .int morders, .int mkind, .ref mtolda])), (msa, .inl (cI, 580, .inl ms)), (mpasta, .inl (cI, 2320, .inl mpast)), (mhelda, .inl (cI, 580, .inl mheld)), (mtexta, .inl (cI, 60, .inl mtext)), (mchosena, .inl (cI, 12, .inl mchosen)), (mtimesa, .inl (cI, 12, .inl mtimes)), (mrestsa, .inl (cJ, 12, .inr (.inl mrests))), (mbeforea, .inl (cI, 12, .inl mbefore)), (mtolda, .inl (cI, 2, .inl f9))] := hD
  refine lv_goto (pc := 71) (tgt := 12) hx hb dX7_number_71 (by decide) ?_
  exact ihrec7 _ _ h ls (lv_sub hl [0, 1, 2] rfl) H locs hP hD hS
theorem hdX7_reads : yX7_reads.cls ≠ "java/lang/invoke/MethodHandle" ∧ yX7_reads.cls ≠ "java/lang/invoke/VarHandle" ∧ (parseMethodDescriptor yX7_reads.desc).map (fun d => d.parameters.length) = some 0 := by decide +kernel
abbrev rmX7_reads : Room := { frames := 3, cells := 0, slots := 0, locals := 66 }
set_option maxHeartbeats 20000000 in
set_option maxRecDepth 100000 in
theorem c_X7_reads (l : Launch) (D : va_G) (cI cJ : ClassId) (mself : Nat) (msa : Nat) (mpasta : Nat) (mhelda : Nat) (mtexta : Nat) (mchosena : Nat) (mtimesa : Nat) (mrestsa : Nat) (mbeforea : Nat) (mtolda : Nat) (mpasts : Int32) (mruns : Int32) (mtyped : Int32) (mspot : Int32) (mfrom : Int32) (mreason : Int32) (mcause : Int32) (morders : Int32) (mkind : Int32) (ms : Nat → Int32) (mpast : Nat → Int32) (mheld : Nat → Int32) (mtext : Nat → Int32) (mchosen : Nat → Int32) (mtimes : Nat → Int32) (mrests : Nat → Int64) (mbefore : Nat → Int32) (mtold : Nat → Int32)  (r0 : Int32) (zmspot : Int32) (zmkind : Int32) (zmtold : Nat → Int32) (hF : F_X7_reads mtyped mspot mkind mtext mtold = some (r0, zmspot, zmkind, zmtold)) (sz : Nat) : Met l yX7_reads (wz yX7_reads cX7_reads 3 (some .boolean)) rmX7_reads (kPw D cI cJ [(mself, .inr (7, [.ref msa, .ref mpasta, .ref mhelda, .int mpasts, .int mruns, .ref mtexta, .int mtyped, .ref mchosena, .ref mtimesa, .ref mrestsa, .ref mbeforea, .int mspot, .int mfrom, .int mreason, .int mcause, .int morders, .int mkind, .ref mtolda])), (msa, .inl (cI, 580, .inl ms)), (mpasta, .inl (cI, 2320, .inl mpast)), (mhelda, .inl (cI, 580, .inl mheld)), (mtexta, .inl (cI, 60, .inl mtext)), (mchosena, .inl (cI, 12, .inl mchosen)), (mtimesa, .inl (cI, 12, .inl mtimes)), (mrestsa, .inl (cJ, 12, .inr (.inl mrests))), (mbeforea, .inl (cI, 12, .inl mbefore)), (mtolda, .inl (cI, 2, .inl mtold))] sz [.ref mself]) (kQi D r0 [(mself, .inr (7, [.ref msa, .ref mpasta, .ref mhelda, .int mpasts, .int mruns, .ref mtexta, .int mtyped, .ref mchosena, .ref mtimesa, .ref mrestsa, .ref mbeforea, .int zmspot, .int mfrom, .int mreason, .int mcause, .int morders, .int zmkind, .ref mtolda])), (msa, .inl (cI, 580, .inl ms)), (mpasta, .inl (cI, 2320, .inl mpast)), (mhelda, .inl (cI, 580, .inl mheld)), (mtexta, .inl (cI, 60, .inl mtext)), (mchosena, .inl (cI, 12, .inl mchosen)), (mtimesa, .inl (cI, 12, .inl mtimes)), (mrestsa, .inl (cJ, 12, .inr (.inl mrests))), (mbeforea, .inl (cI, 12, .inl mbefore)), (mtolda, .inl (cI, 2, .inl zmtold))] (va_A [(mself, .inr (7, [.ref msa, .ref mpasta, .ref mhelda, .int mpasts, .int mruns, .ref mtexta, .int mtyped, .ref mchosena, .ref mtimesa, .ref mrestsa, .ref mbeforea, .int mspot, .int mfrom, .int mreason, .int mcause, .int morders, .int mkind, .ref mtolda])), (msa, .inl (cI, 580, .inl ms)), (mpasta, .inl (cI, 2320, .inl mpast)), (mhelda, .inl (cI, 580, .inl mheld)), (mtexta, .inl (cI, 60, .inl mtext)), (mchosena, .inl (cI, 12, .inl mchosen)), (mtimesa, .inl (cI, 12, .inl mtimes)), (mrestsa, .inl (cJ, 12, .inr (.inl mrests))), (mbeforea, .inl (cI, 12, .inl mbefore)), (mtolda, .inl (cI, 2, .inl mtold))] sz)) 0 0 (va_A [(mself, .inr (7, [.ref msa, .ref mpasta, .ref mhelda, .int mpasts, .int mruns, .ref mtexta, .int mtyped, .ref mchosena, .ref mtimesa, .ref mrestsa, .ref mbeforea, .int mspot, .int mfrom, .int mreason, .int mcause, .int morders, .int mkind, .ref mtolda])), (msa, .inl (cI, 580, .inl ms)), (mpasta, .inl (cI, 2320, .inl mpast)), (mhelda, .inl (cI, 580, .inl mheld)), (mtexta, .inl (cI, 60, .inl mtext)), (mchosena, .inl (cI, 12, .inl mchosen)), (mtimesa, .inl (cI, 12, .inl mtimes)), (mrestsa, .inl (cJ, 12, .inr (.inl mrests))), (mbeforea, .inl (cI, 12, .inl mbefore)), (mtolda, .inl (cI, 2, .inl mtold))] sz) := by
  refine kM_wi cX7_reads 3 .boolean (by decide +kernel) rfl rfl (Nat.le_of_ble_eq_true rfl) ⟨rfl, rfl⟩ ?_
  intro p e s m args below meth c Q A ls hx hb hml hown hts hP hK hD hA hS hl hret
  have hk124 := hts _ (List.mem_cons_of_mem _ wl124)
  have hk129 := hts _ (List.mem_cons_of_mem _ wl129)
  have hk736 := hts _ (List.mem_cons_of_mem _ wl736)
  have hk742 := hts _ (List.mem_cons_of_mem _ wl742)
  have hnX7 : ∀ w ∈ u_ws RX7 TX7 18, w ∈ wz yX7_reads cX7_reads 3 (some .boolean) := fun w h => List.mem_cons_of_mem _ (inlX7 w h)
  replace hl : lv_has ls 3 [(0, .ref mself)] := hl
  have h := hF
  unfold F_X7_reads at h
  refine lv_aload_n (pc := 0) hx hb dX7_reads_0 rfl (lv_at hl 0 rfl) ?_
  refine lv_aload_n (pc := 1) hx hb dX7_reads_1 rfl (lv_at hl 0 rfl) ?_
  refine lv_bipush (v := 33) (pc := 2) hx hb dX7_reads_2 (by decide) ?_
  refine lv_bipush (v := 126) (pc := 4) hx hb dX7_reads_4 (by decide) ?_
  obtain ⟨r1, hc1, h⟩ := am_bind_s h
  refine kc_Vi (pc := 6) (ci := 7) ⟨hx, hb, hml, hown, hts⟩ hP hK [.int (33 : Int32), .int (126 : Int32)] (c_X7_isAt l D cI cJ mself msa mpasta mhelda mtexta mchosena mtimesa mrestsa mbeforea mtolda mpasts mruns mtyped mspot mfrom mreason mcause morders mkind ms mpast mheld mtext mchosen mtimes mrests mbefore mtold (33 : Int32) (126 : Int32) r1 hc1) [0, 1, 2, 3, 4, 5, 6, 7, 8, 9] rfl (cwV 2 hts (gzV wl743 wl744 wl745 wl5 wl746) rfl rfl rfl ⟨rfl, hdX7_isAt⟩ ⟨Nat.le_of_ble_eq_true rfl, Nat.le_of_ble_eq_true rfl⟩) rfl rfl [.ref mself] rfl hl.1 rfl (Nat.le_of_ble_eq_true rfl) dX7_reads_6 ⟨Nat.zero_le _, Nat.zero_le _⟩ ?_
  refine am_join1_s (fun (j2 : Int32) => ∀ (ls : Array Slot), lv_has ls 3 [(0, .ref mself)] → W p l e rmX7_reads s m args below meth c s.heap [] 0 0 Q (F0 m 25 ls [.int j2, .ref mself])) h (fun j2 h ls hl => ?_) (fun J3 hJ3 h => ?_)
  · refine va_put (pc := 25) (D := D) (ci := 7) (v := .int j2) (ty := .int) (C := RX7) (T := TX7) (N := 18) hx hb hts hnX7 tyX7 tyX7_ok nmX7 hown hK.1 hP hD hS 0 rfl rfl 16 (Nat.le_of_ble_eq_true rfl) hk742 (fun _ h9 => h9) rfl (by decide +kernel) rfl rfl (Nat.le_of_ble_eq_true rfl) dX7_reads_25 (fun H locs hP hD hS => ?_)
    replace hP : va_P D vwCl [(mself, .inr (7, [.ref msa, .ref mpasta, .ref mhelda, .int mpasts, .int mruns, .ref mtexta, .int mtyped, .ref mchosena, .ref mtimesa, .ref mrestsa, .ref mbeforea, .int mspot, .int mfrom, .int mreason, .int mcause, .int morders, .int j2, .ref mtolda])), (msa, .inl (cI, 580, .inl ms)), (mpasta, .inl (cI, 2320, .inl mpast)), (mhelda, .inl (cI, 580, .inl mheld)), (mtexta, .inl (cI, 60, .inl mtext)), (mchosena, .inl (cI, 12, .inl mchosen)), (mtimesa, .inl (cI, 12, .inl mtimes)), (mrestsa, .inl (cJ, 12, .inr (.inl mrests))), (mbeforea, .inl (cI, 12, .inl mbefore)), (mtolda, .inl (cI, 2, .inl mtold))] H := hP
    replace hD : va_D A [(mself, .inr (7, [.ref msa, .ref mpasta, .ref mhelda, .int mpasts, .int mruns, .ref mtexta, .int mtyped, .ref mchosena, .ref mtimesa, .ref mrestsa, .ref mbeforea, .int mspot, .int mfrom, .int mreason, .int mcause, .int morders, .int j2, .ref mtolda])), (msa, .inl (cI, 580, .inl ms)), (mpasta, .inl (cI, 2320, .inl mpast)), (mhelda, .inl (cI, 580, .inl mheld)), (mtexta, .inl (cI, 60, .inl mtext)), (mchosena, .inl (cI, 12, .inl mchosen)), (mtimesa, .inl (cI, 12, .inl mtimes)), (mrestsa, .inl (cJ, 12, .inr (.inl mrests))), (mbeforea, .inl (cI, 12, .inl mbefore)), (mtolda, .inl (cI, 2, .inl mtold))] := hD
    refine lv_aload_n (pc := 28) hx hb dX7_reads_28 rfl (lv_at hl 0 rfl) ?_
    refine va_get (pc := 29) (D := D) (ci := 7) (v := .int j2) (C := RX7) (T := TX7) (N := 18) hx hb hts hnX7 hown hK.1 hP 0 rfl rfl 16 (Nat.le_of_ble_eq_true rfl) hk742 (fun _ h9 => h9) rfl dX7_reads_29 ?_
    refine lv_bipush (v := 109) (pc := 32) hx hb dX7_reads_32 (by decide) ?_
    refine am_join0_s (∀ (ls : Array Slot), lv_has ls 3 [(0, .ref mself)] → W p l e rmX7_reads s m args below meth c H locs 0 0 Q (F0 m 57 ls [])) h (fun h ls hl => ?_) (fun J4 hJ4 h => ?_)
    · refine lv_aload_n (pc := 57) hx hb dX7_reads_57 rfl (lv_at hl 0 rfl) ?_
      refine lv_dup (pc := 58) hx hb dX7_reads_58 rfl ?_
      refine va_get (pc := 59) (D := D) (ci := 7) (v := .int mspot) (C := RX7) (T := TX7) (N := 18) hx hb hts hnX7 hown hK.1 hP 0 rfl rfl 11 (Nat.le_of_ble_eq_true rfl) hk736 (fun _ h9 => h9) rfl dX7_reads_59 ?_
      refine lv_iconst (v := 1) (pc := 62) hx hb dX7_reads_62 (by decide) ?_
      refine lv_iadd (pc := 63) hx hb dX7_reads_63 ?_
      refine lv_topi (fun x5 ex5 => ?_)
      replace h := am_let_s ex5 h
      refine va_put (pc := 64) (D := D) (ci := 7) (v := .int x5) (ty := .int) (C := RX7) (T := TX7) (N := 18) hx hb hts hnX7 tyX7 tyX7_ok nmX7 hown hK.1 hP hD hS 0 rfl rfl 11 (Nat.le_of_ble_eq_true rfl) hk736 (fun _ h9 => h9) rfl (by decide +kernel) rfl rfl (Nat.le_of_ble_eq_true rfl) dX7_reads_64 (fun H locs hP hD hS => ?_)
      replace hP : va_P D vwCl [(mself, .inr (7, [.ref msa, .ref mpasta, .ref mhelda, .int mpasts, .int mruns, .ref mtexta, .int mtyped, .ref mchosena, .ref mtimesa, .ref mrestsa, .ref mbeforea, .int x5, .int mfrom, .int mreason, .int mcause, .int morders, .int j2, .ref mtolda])), (msa, .inl (cI, 580, .inl ms)), (mpasta, .inl (cI, 2320, .inl mpast)), (mhelda, .inl (cI, 580, .inl mheld)), (mtexta, .inl (cI, 60, .inl mtext)), (mchosena, .inl (cI, 12, .inl mchosen)), (mtimesa, .inl (cI, 12, .inl mtimes)), (mrestsa, .inl (cJ, 12, .inr (.inl mrests))), (mbeforea, .inl (cI, 12, .inl mbefore)), (mtolda, .inl (cI, 2, .inl mtold))] H := hP
      replace hD : va_D A [(mself, .inr (7, [.ref msa, .ref mpasta, .ref mhelda, .int mpasts, .int mruns, .ref mtexta, .int mtyped, .ref mchosena, .ref mtimesa, .ref mrestsa, .ref mbeforea, .int x5, .int mfrom, .int mreason, .int mcause, .int morders, .int j2, .ref mtolda])), (msa, .inl (cI, 580, .inl ms)), (mpasta, .inl (cI, 2320, .inl mpast)), (mhelda, .inl (cI, 580, .inl mheld)), (mtexta, .inl (cI, 60, .inl mtext)), (mchosena, .inl (cI, 12, .inl mchosen)), (mtimesa, .inl (cI, 12, .inl mtimes)), (mrestsa, .inl (cJ, 12, .inr (.inl mrests))), (mbeforea, .inl (cI, 12, .inl mbefore)), (mtolda, .inl (cI, 2, .inl mtold))] := hD
      refine lv_aload_n (pc := 67) hx hb dX7_reads_67 rfl (lv_at hl 0 rfl) ?_
      refine va_get (pc := 68) (D := D) (ci := 7) (v := .int j2) (C := RX7) (T := TX7) (N := 18) hx hb hts hnX7 hown hK.1 hP 0 rfl rfl 16 (Nat.le_of_ble_eq_true rfl) hk742 (fun _ h9 => h9) rfl dX7_reads_68 ?_
      refine lv_bipush (v := 114) (pc := 71) hx hb dX7_reads_71 (by decide) ?_
      refine lv_icmp_ne (pc := 73) (tgt := 83) hx hb dX7_reads_73 (by decide) (fun cc => ?_) (fun cc => ?_)
      · replace h := am_f cc h
        refine lv_aload_n (pc := 83) hx hb dX7_reads_83 rfl (lv_at hl 0 rfl) ?_
        refine va_get (pc := 84) (D := D) (ci := 7) (v := .int j2) (C := RX7) (T := TX7) (N := 18) hx hb hts hnX7 hown hK.1 hP 0 rfl rfl 16 (Nat.le_of_ble_eq_true rfl) hk742 (fun _ h9 => h9) rfl dX7_reads_84 ?_
        refine lv_bipush (v := 109) (pc := 87) hx hb dX7_reads_87 (by decide) ?_
        refine am_join2_s (fun (j6 : Int32) (u7 : Int32) => ∀ (ls : Array Slot), lv_has ls 3 [(0, .ref mself)] → ∀ (H : Heap) (locs : List Loc), va_P D vwCl [(mself, .inr (7, [.ref msa, .ref mpasta, .ref mhelda, .int mpasts, .int mruns, .ref mtexta, .int mtyped, .ref mchosena, .ref mtimesa, .ref mrestsa, .ref mbeforea, .int u7, .int mfrom, .int mreason, .int mcause, .int morders, .int j2, .ref mtolda])), (msa, .inl (cI, 580, .inl ms)), (mpasta, .inl (cI, 2320, .inl mpast)), (mhelda, .inl (cI, 580, .inl mheld)), (mtexta, .inl (cI, 60, .inl mtext)), (mchosena, .inl (cI, 12, .inl mchosen)), (mtimesa, .inl (cI, 12, .inl mtimes)), (mrestsa, .inl (cJ, 12, .inr (.inl mrests))), (mbeforea, .inl (cI, 12, .inl mbefore)), (mtolda, .inl (cI, 2, .inl mtold))] H → va_D A [(mself, .inr (7, [.ref msa, .ref mpasta, .ref mhelda, .int mpasts, .int mruns, .ref mtexta, .int mtyped, .ref mchosena, .ref mtimesa, .ref mrestsa, .ref mbeforea, .int u7, .int mfrom, .int mreason, .int mcause, .int morders, .int j2, .ref mtolda])), (msa, .inl (cI, 580, .inl ms)), (mpasta, .inl (cI, 2320, .inl mpast)), (mhelda, .inl (cI, 580, .inl mheld)), (mtexta, .inl (cI, 60, .inl mtext)), (mchosena, .inl (cI, 12, .inl mchosen)), (mtimesa, .inl (cI, 12, .inl mtimes)), (mrestsa, .inl (cJ, 12, .inr (.inl mrests))), (mbeforea, .inl (cI, 12, .inl mbefore)), (mtolda, .inl (cI, 2, .inl mtold))] → va_S A s.heap H locs → W p l e rmX7_reads s m args below meth c H locs 0 0 Q (F0 m 106 ls [.int j6])) h (fun j6 u7 h ls hl H locs hP hD hS => ?_) (fun J8 hJ8 h => ?_)
        · refine lv_istore_n (lv' := [(1, .int j6), (0, .ref mself)]) (pc := 106) hx hb dX7_reads_106 rfl hl (by decide) rfl (fun ls hl => ?_)
          refine lv_aload_n (pc := 107) hx hb dX7_reads_107 rfl (lv_at hl 1 rfl) ?_
          refine lv_iconst (v := 0) (pc := 108) hx hb dX7_reads_108 (by decide) ?_
          obtain ⟨r9, u10, f11, hc11, h⟩ := am_call3_s h
          refine kc_Wi (pc := 109) (ci := 7) ⟨hx, hb, hml, hown, hts⟩ hP hK hD hS hA [.int (0 : Int32)] (c_X7_number l D cI cJ mself msa mpasta mhelda mtexta mchosena mtimesa mrestsa mbeforea mtolda mpasts mruns mtyped u7 mfrom mreason mcause morders j2 ms mpast mheld mtext mchosen mtimes mrests mbefore mtold (0 : Int32) r9 u10 f11 hc11 _) [0, 1, 2, 3, 4, 5, 6, 7, 8, 9] rfl rfl rfl (cwV 1 hts (gzV wl751 wl752 wl753 wl5 wl754) rfl rfl rfl ⟨rfl, hdX7_number⟩ ⟨Nat.le_of_ble_eq_true rfl, Nat.le_of_ble_eq_true rfl⟩) rfl rfl [] rfl hl.1 rfl (Nat.le_of_ble_eq_true rfl) dX7_reads_109 ⟨Nat.zero_le _, Nat.zero_le _⟩ (fun H locs hP hD hS => ?_)
          replace hP : va_P D vwCl [(mself, .inr (7, [.ref msa, .ref mpasta, .ref mhelda, .int mpasts, .int mruns, .ref mtexta, .int mtyped, .ref mchosena, .ref mtimesa, .ref mrestsa, .ref mbeforea, .int u10, .int mfrom, .int mreason, .int mcause, .int morders, .int j2, .ref mtolda])), (msa, .inl (cI, 580, .inl ms)), (mpasta, .inl (cI, 2320, .inl mpast)), (mhelda, .inl (cI, 580, .inl mheld)), (mtexta, .inl (cI, 60, .inl mtext)), (mchosena, .inl (cI, 12, .inl mchosen)), (mtimesa, .inl (cI, 12, .inl mtimes)), (mrestsa, .inl (cJ, 12, .inr (.inl mrests))), (mbeforea, .inl (cI, 12, .inl mbefore)), (mtolda, .inl (cI, 2, .inl f11))] H := hP
          replace hD : va_D A [(mself, .inr (7, [.ref msa, .ref mpasta, .ref mhelda, .int mpasts, .int mruns, .ref mtexta, .int mtyped, .ref mchosena, .ref mtimesa, .ref mrestsa, .ref mbeforea, .int u10, .int mfrom, .int mreason, .int mcause, .int morders, .int j2, .ref mtolda])), (msa, .inl (cI, 580, .inl ms)), (mpasta, .inl (cI, 2320, .inl mpast)), (mhelda, .inl (cI, 580, .inl mheld)), (mtexta, .inl (cI, 60, .inl mtext)), (mchosena, .inl (cI, 12, .inl mchosen)), (mtimesa, .inl (cI, 12, .inl mtimes)), (mrestsa, .inl (cJ, 12, .inr (.inl mrests))), (mbeforea, .inl (cI, 12, .inl mbefore)), (mtolda, .inl (cI, 2, .inl f11))] := hD
          refine am_join3_s (fun (j12 : Int32) (u13 : Int32) (f14 : Nat → Int32) => ∀ (ls : Array Slot), lv_has ls 3 [(0, .ref mself), (1, .int j6)] → ∀ (H : Heap) (locs : List Loc), va_P D vwCl [(mself, .inr (7, [.ref msa, .ref mpasta, .ref mhelda, .int mpasts, .int mruns, .ref mtexta, .int mtyped, .ref mchosena, .ref mtimesa, .ref mrestsa, .ref mbeforea, .int u13, .int mfrom, .int mreason, .int mcause, .int morders, .int j2, .ref mtolda])), (msa, .inl (cI, 580, .inl ms)), (mpasta, .inl (cI, 2320, .inl mpast)), (mhelda, .inl (cI, 580, .inl mheld)), (mtexta, .inl (cI, 60, .inl mtext)), (mchosena, .inl (cI, 12, .inl mchosen)), (mtimesa, .inl (cI, 12, .inl mtimes)), (mrestsa, .inl (cJ, 12, .inr (.inl mrests))), (mbeforea, .inl (cI, 12, .inl mbefore)), (mtolda, .inl (cI, 2, .inl f14))] H → va_D A [(mself, .inr (7, [.ref msa, .ref mpasta, .ref mhelda, .int mpasts, .int mruns, .ref mtexta, .int mtyped, .ref mchosena, .ref mtimesa, .ref mrestsa, .ref mbeforea, .int u13, .int mfrom, .int mreason, .int mcause, .int morders, .int j2, .ref mtolda])), (msa, .inl (cI, 580, .inl ms)), (mpasta, .inl (cI, 2320, .inl mpast)), (mhelda, .inl (cI, 580, .inl mheld)), (mtexta, .inl (cI, 60, .inl mtext)), (mchosena, .inl (cI, 12, .inl mchosen)), (mtimesa, .inl (cI, 12, .inl mtimes)), (mrestsa, .inl (cJ, 12, .inr (.inl mrests))), (mbeforea, .inl (cI, 12, .inl mbefore)), (mtolda, .inl (cI, 2, .inl f14))] → va_S A s.heap H locs → W p l e rmX7_reads s m args below meth c H locs 0 0 Q (F0 m 146 ls [.int j12])) h (fun j12 u13 f14 h ls hl H locs hP hD hS => ?_) (fun J15 hJ15 h => ?_)
          · refine lv_istore_n (lv' := [(2, .int j12), (0, .ref mself), (1, .int j6)]) (pc := 146) hx hb dX7_reads_146 rfl hl (by decide) rfl (fun ls hl => ?_)
            refine lv_aload_n (pc := 147) hx hb dX7_reads_147 rfl (lv_at hl 1 rfl) ?_
            refine va_get (pc := 148) (D := D) (ci := 7) (v := .ref mtolda) (C := RX7) (T := TX7) (N := 18) hx hb hts hnX7 hown hK.1 hP 0 rfl rfl 17 (Nat.le_of_ble_eq_true rfl) hk129 (fun _ h9 => h9) rfl dX7_reads_148 ?_
            refine lv_iconst (v := 0) (pc := 151) hx hb dX7_reads_151 (by decide) ?_
            refine lv_iload_n (pc := 152) hx hb dX7_reads_152 rfl (lv_at hl 2 rfl) ?_
            refine lv_if_eq (pc := 153) (tgt := 166) hx hb dX7_reads_153 (by decide) (fun cc => ?_) (fun cc => ?_)
            · replace h := am_t cc h
              refine lv_aload_n (pc := 166) hx hb dX7_reads_166 rfl (lv_at hl 1 rfl) ?_
              refine va_get (pc := 167) (D := D) (ci := 7) (v := .ref mtolda) (C := RX7) (T := TX7) (N := 18) hx hb hts hnX7 hown hK.1 hP 0 rfl rfl 17 (Nat.le_of_ble_eq_true rfl) hk129 (fun _ h9 => h9) rfl dX7_reads_167 ?_
              refine lv_iconst (v := 0) (pc := 170) hx hb dX7_reads_170 (by decide) ?_
              refine va_iald (pc := 171) hx hb hK.1 hP 9 0 rfl rfl (vp_in_nI (n := 0) (N := 2) (by decide) (by decide)) dX7_reads_171 ?_
              obtain ⟨f16, ef16⟩ : ∃ y : Nat → Int32, y = (upd f14 (0 : Int32).toNatClampNeg (f14 (0 : Int32).toNatClampNeg)) := ⟨_, rfl⟩
              replace h := am_let_s ef16 h
              refine va_iast (pc := 172) hx hb hK.1 hP hD hS 9 0 rfl rfl (vp_in_nI (n := 0) (N := 2) (by decide) (by decide)) dX7_reads_172 (fun H locs hP hD hS => ?_)
              rw [← ef16] at hP hD
              replace hP : va_P D vwCl [(mself, .inr (7, [.ref msa, .ref mpasta, .ref mhelda, .int mpasts, .int mruns, .ref mtexta, .int mtyped, .ref mchosena, .ref mtimesa, .ref mrestsa, .ref mbeforea, .int u13, .int mfrom, .int mreason, .int mcause, .int morders, .int j2, .ref mtolda])), (msa, .inl (cI, 580, .inl ms)), (mpasta, .inl (cI, 2320, .inl mpast)), (mhelda, .inl (cI, 580, .inl mheld)), (mtexta, .inl (cI, 60, .inl mtext)), (mchosena, .inl (cI, 12, .inl mchosen)), (mtimesa, .inl (cI, 12, .inl mtimes)), (mrestsa, .inl (cJ, 12, .inr (.inl mrests))), (mbeforea, .inl (cI, 12, .inl mbefore)), (mtolda, .inl (cI, 2, .inl f16))] H := hP
              replace hD : va_D A [(mself, .inr (7, [.ref msa, .ref mpasta, .ref mhelda, .int mpasts, .int mruns, .ref mtexta, .int mtyped, .ref mchosena, .ref mtimesa, .ref mrestsa, .ref mbeforea, .int u13, .int mfrom, .int mreason, .int mcause, .int morders, .int j2, .ref mtolda])), (msa, .inl (cI, 580, .inl ms)), (mpasta, .inl (cI, 2320, .inl mpast)), (mhelda, .inl (cI, 580, .inl mheld)), (mtexta, .inl (cI, 60, .inl mtext)), (mchosena, .inl (cI, 12, .inl mchosen)), (mtimesa, .inl (cI, 12, .inl mtimes)), (mrestsa, .inl (cJ, 12, .inr (.inl mrests))), (mbeforea, .inl (cI, 12, .inl mbefore)), (mtolda, .inl (cI, 2, .inl f16))] := hD
              refine lv_iload_n (pc := 173) hx hb dX7_reads_173 rfl (lv_at hl 0 rfl) ?_
              obtain ⟨hbo, h⟩ := am_bool_s h
              obtain ⟨e1, e2, e3, e4⟩ := am_ret4 h
              exact hret _ _ _ _ _ dX7_reads_174 (am_bool_n hbo) e1 (by rw [← e2, ← e3, ← e4]; exact hP) hS
            replace h := am_f cc h
            refine lv_aload_n (pc := 156) hx hb dX7_reads_156 rfl (lv_at hl 1 rfl) ?_
            refine va_get (pc := 157) (D := D) (ci := 7) (v := .ref mtolda) (C := RX7) (T := TX7) (N := 18) hx hb hts hnX7 hown hK.1 hP 0 rfl rfl 17 (Nat.le_of_ble_eq_true rfl) hk129 (fun _ h9 => h9) rfl dX7_reads_157 ?_
            refine lv_iconst (v := 0) (pc := 160) hx hb dX7_reads_160 (by decide) ?_
            refine va_iald (pc := 161) hx hb hK.1 hP 9 0 rfl rfl (vp_in_nI (n := 0) (N := 2) (by decide) (by decide)) dX7_reads_161 ?_
            refine lv_ineg (pc := 162) hx hb dX7_reads_162 ?_
            refine lv_goto (pc := 163) (tgt := 172) hx hb dX7_reads_163 (by decide) ?_
            obtain ⟨f17, ef17⟩ : ∃ y : Nat → Int32, y = (upd f14 (0 : Int32).toNatClampNeg (-(f14 (0 : Int32).toNatClampNeg))) := ⟨_, rfl⟩
            replace h := am_let_s ef17 h
            refine va_iast (pc := 172) hx hb hK.1 hP hD hS 9 0 rfl rfl (vp_in_nI (n := 0) (N := 2) (by decide) (by decide)) dX7_reads_172 (fun H locs hP hD hS => ?_)
            rw [← ef17] at hP hD
            replace hP : va_P D vwCl [(mself, .inr (7, [.ref msa, .ref mpasta, .ref mhelda, .int mpasts, .int mruns, .ref mtexta, .int mtyped, .ref mchosena, .ref mtimesa, .ref mrestsa, .ref mbeforea, .int u13, .int mfrom, .int mreason, .int mcause, .int morders, .int j2, .ref mtolda])), (msa, .inl (cI, 580, .inl ms)), (mpasta, .inl (cI, 2320, .inl mpast)), (mhelda, .inl (cI, 580, .inl mheld)), (mtexta, .inl (cI, 60, .inl mtext)), (mchosena, .inl (cI, 12, .inl mchosen)), (mtimesa, .inl (cI, 12, .inl mtimes)), (mrestsa, .inl (cJ, 12, .inr (.inl mrests))), (mbeforea, .inl (cI, 12, .inl mbefore)), (mtolda, .inl (cI, 2, .inl f17))] H := hP
            replace hD : va_D A [(mself, .inr (7, [.ref msa, .ref mpasta, .ref mhelda, .int mpasts, .int mruns, .ref mtexta, .int mtyped, .ref mchosena, .ref mtimesa, .ref mrestsa, .ref mbeforea, .int u13, .int mfrom, .int mreason, .int mcause, .int morders, .int j2, .ref mtolda])), (msa, .inl (cI, 580, .inl ms)), (mpasta, .inl (cI, 2320, .inl mpast)), (mhelda, .inl (cI, 580, .inl mheld)), (mtexta, .inl (cI, 60, .inl mtext)), (mchosena, .inl (cI, 12, .inl mchosen)), (mtimesa, .inl (cI, 12, .inl mtimes)), (mrestsa, .inl (cJ, 12, .inr (.inl mrests))), (mbeforea, .inl (cI, 12, .inl mbefore)), (mtolda, .inl (cI, 2, .inl f17))] := hD
            refine lv_iload_n (pc := 173) hx hb dX7_reads_173 rfl (lv_at hl 0 rfl) ?_
            obtain ⟨hbo, h⟩ := am_bool_s h
            obtain ⟨e1, e2, e3, e4⟩ := am_ret4 h
            exact hret _ _ _ _ _ dX7_reads_174 (am_bool_n hbo) e1 (by rw [← e2, ← e3, ← e4]; exact hP) hS
          refine am_join2_s (fun (u18 : Int32) (f19 : Nat → Int32) => ∀ (ls : Array Slot), lv_has ls 3 [(0, .ref mself), (1, .int j6)] → ∀ (H : Heap) (locs : List Loc), va_P D vwCl [(mself, .inr (7, [.ref msa, .ref mpasta, .ref mhelda, .int mpasts, .int mruns, .ref mtexta, .int mtyped, .ref mchosena, .ref mtimesa, .ref mrestsa, .ref mbeforea, .int u18, .int mfrom, .int mreason, .int mcause, .int morders, .int j2, .ref mtolda])), (msa, .inl (cI, 580, .inl ms)), (mpasta, .inl (cI, 2320, .inl mpast)), (mhelda, .inl (cI, 580, .inl mheld)), (mtexta, .inl (cI, 60, .inl mtext)), (mchosena, .inl (cI, 12, .inl mchosen)), (mtimesa, .inl (cI, 12, .inl mtimes)), (mrestsa, .inl (cJ, 12, .inr (.inl mrests))), (mbeforea, .inl (cI, 12, .inl mbefore)), (mtolda, .inl (cI, 2, .inl f19))] H → va_D A [(mself, .inr (7, [.ref msa, .ref mpasta, .ref mhelda, .int mpasts, .int mruns, .ref mtexta, .int mtyped, .ref mchosena, .ref mtimesa, .ref mrestsa, .ref mbeforea, .int u18, .int mfrom, .int mreason, .int mcause, .int morders, .int j2, .ref mtolda])), (msa, .inl (cI, 580, .inl ms)), (mpasta, .inl (cI, 2320, .inl mpast)), (mhelda, .inl (cI, 580, .inl mheld)), (mtexta, .inl (cI, 60, .inl mtext)), (mchosena, .inl (cI, 12, .inl mchosen)), (mtimesa, .inl (cI, 12, .inl mtimes)), (mrestsa, .inl (cJ, 12, .inr (.inl mrests))), (mbeforea, .inl (cI, 12, .inl mbefore)), (mtolda, .inl (cI, 2, .inl f19))] → va_S A s.heap H locs → W p l e rmX7_reads s m args below meth c H locs 0 0 Q (F0 m 145 ls [])) h (fun u18 f19 h ls hl H locs hP hD hS => ?_) (fun J20 hJ20 h => ?_)
          · refine lv_iconst (v := 0) (pc := 145) hx hb dX7_reads_145 (by decide) ?_
            exact hJ15 _ _ _ h ls (lv_sub hl [0, 1] rfl) H locs hP hD hS
          refine lv_if_eq (pc := 112) (tgt := 145) hx hb dX7_reads_112 (by decide) (fun cc => ?_) (fun cc => ?_)
          · replace h := am_t cc h
            exact hJ20 _ _ h ls (lv_sub hl [1, 0] rfl) H locs hP hD hS
          replace h := am_f cc h
          refine lv_aload_n (pc := 115) hx hb dX7_reads_115 rfl (lv_at hl 1 rfl) ?_
          refine lv_bipush (v := 44) (pc := 116) hx hb dX7_reads_116 (by decide) ?_
          obtain ⟨r21, u22, hc22, h⟩ := am_call2_s h
          refine kc_Wi (pc := 118) (ci := 7) ⟨hx, hb, hml, hown, hts⟩ hP hK hD hS hA [.int (44 : Int32)] (c_X7_passes l D cI cJ mself msa mpasta mhelda mtexta mchosena mtimesa mrestsa mbeforea mtolda mpasts mruns mtyped u10 mfrom mreason mcause morders j2 ms mpast mheld mtext mchosen mtimes mrests mbefore f11 (44 : Int32) r21 u22 hc22 _) [0, 1, 2, 3, 4, 5, 6, 7, 8, 9] rfl rfl rfl (cwV 1 hts (gzV wl747 wl748 wl749 wl5 wl750) rfl rfl rfl ⟨rfl, hdX7_passes⟩ ⟨Nat.le_of_ble_eq_true rfl, Nat.le_of_ble_eq_true rfl⟩) rfl rfl [] rfl hl.1 rfl (Nat.le_of_ble_eq_true rfl) dX7_reads_118 ⟨Nat.zero_le _, Nat.zero_le _⟩ (fun H locs hP hD hS => ?_)
          replace hP : va_P D vwCl [(mself, .inr (7, [.ref msa, .ref mpasta, .ref mhelda, .int mpasts, .int mruns, .ref mtexta, .int mtyped, .ref mchosena, .ref mtimesa, .ref mrestsa, .ref mbeforea, .int u22, .int mfrom, .int mreason, .int mcause, .int morders, .int j2, .ref mtolda])), (msa, .inl (cI, 580, .inl ms)), (mpasta, .inl (cI, 2320, .inl mpast)), (mhelda, .inl (cI, 580, .inl mheld)), (mtexta, .inl (cI, 60, .inl mtext)), (mchosena, .inl (cI, 12, .inl mchosen)), (mtimesa, .inl (cI, 12, .inl mtimes)), (mrestsa, .inl (cJ, 12, .inr (.inl mrests))), (mbeforea, .inl (cI, 12, .inl mbefore)), (mtolda, .inl (cI, 2, .inl f11))] H := hP
          replace hD : va_D A [(mself, .inr (7, [.ref msa, .ref mpasta, .ref mhelda, .int mpasts, .int mruns, .ref mtexta, .int mtyped, .ref mchosena, .ref mtimesa, .ref mrestsa, .ref mbeforea, .int u22, .int mfrom, .int mreason, .int mcause, .int morders, .int j2, .ref mtolda])), (msa, .inl (cI, 580, .inl ms)), (mpasta, .inl (cI, 2320, .inl mpast)), (mhelda, .inl (cI, 580, .inl mheld)), (mtexta, .inl (cI, 60, .inl mtext)), (mchosena, .inl (cI, 12, .inl mchosen)), (mtimesa, .inl (cI, 12, .inl mtimes)), (mrestsa, .inl (cJ, 12, .inr (.inl mrests))), (mbeforea, .inl (cI, 12, .inl mbefore)), (mtolda, .inl (cI, 2, .inl f11))] := hD
          refine lv_if_eq (pc := 121) (tgt := 145) hx hb dX7_reads_121 (by decide) (fun cc => ?_) (fun cc => ?_)
          · replace h := am_t cc h
            exact hJ20 _ _ h ls (lv_sub hl [1, 0] rfl) H locs hP hD hS
          replace h := am_f cc h
          refine lv_aload_n (pc := 124) hx hb dX7_reads_124 rfl (lv_at hl 1 rfl) ?_
          refine lv_iconst (v := 1) (pc := 125) hx hb dX7_reads_125 (by decide) ?_
          obtain ⟨r23, u24, f25, hc25, h⟩ := am_call3_s h
          refine kc_Wi (pc := 126) (ci := 7) ⟨hx, hb, hml, hown, hts⟩ hP hK hD hS hA [.int (1 : Int32)] (c_X7_number l D cI cJ mself msa mpasta mhelda mtexta mchosena mtimesa mrestsa mbeforea mtolda mpasts mruns mtyped u22 mfrom mreason mcause morders j2 ms mpast mheld mtext mchosen mtimes mrests mbefore f11 (1 : Int32) r23 u24 f25 hc25 _) [0, 1, 2, 3, 4, 5, 6, 7, 8, 9] rfl rfl rfl (cwV 1 hts (gzV wl751 wl752 wl753 wl5 wl754) rfl rfl rfl ⟨rfl, hdX7_number⟩ ⟨Nat.le_of_ble_eq_true rfl, Nat.le_of_ble_eq_true rfl⟩) rfl rfl [] rfl hl.1 rfl (Nat.le_of_ble_eq_true rfl) dX7_reads_126 ⟨Nat.zero_le _, Nat.zero_le _⟩ (fun H locs hP hD hS => ?_)
          replace hP : va_P D vwCl [(mself, .inr (7, [.ref msa, .ref mpasta, .ref mhelda, .int mpasts, .int mruns, .ref mtexta, .int mtyped, .ref mchosena, .ref mtimesa, .ref mrestsa, .ref mbeforea, .int u24, .int mfrom, .int mreason, .int mcause, .int morders, .int j2, .ref mtolda])), (msa, .inl (cI, 580, .inl ms)), (mpasta, .inl (cI, 2320, .inl mpast)), (mhelda, .inl (cI, 580, .inl mheld)), (mtexta, .inl (cI, 60, .inl mtext)), (mchosena, .inl (cI, 12, .inl mchosen)), (mtimesa, .inl (cI, 12, .inl mtimes)), (mrestsa, .inl (cJ, 12, .inr (.inl mrests))), (mbeforea, .inl (cI, 12, .inl mbefore)), (mtolda, .inl (cI, 2, .inl f25))] H := hP
          replace hD : va_D A [(mself, .inr (7, [.ref msa, .ref mpasta, .ref mhelda, .int mpasts, .int mruns, .ref mtexta, .int mtyped, .ref mchosena, .ref mtimesa, .ref mrestsa, .ref mbeforea, .int u24, .int mfrom, .int mreason, .int mcause, .int morders, .int j2, .ref mtolda])), (msa, .inl (cI, 580, .inl ms)), (mpasta, .inl (cI, 2320, .inl mpast)), (mhelda, .inl (cI, 580, .inl mheld)), (mtexta, .inl (cI, 60, .inl mtext)), (mchosena, .inl (cI, 12, .inl mchosen)), (mtimesa, .inl (cI, 12, .inl mtimes)), (mrestsa, .inl (cJ, 12, .inr (.inl mrests))), (mbeforea, .inl (cI, 12, .inl mbefore)), (mtolda, .inl (cI, 2, .inl f25))] := hD
          refine lv_if_eq (pc := 129) (tgt := 145) hx hb dX7_reads_129 (by decide) (fun cc => ?_) (fun cc => ?_)
          · replace h := am_t cc h
            exact hJ20 _ _ h ls (lv_sub hl [1, 0] rfl) H locs hP hD hS
          replace h := am_f cc h
          refine lv_aload_n (pc := 132) hx hb dX7_reads_132 rfl (lv_at hl 1 rfl) ?_
          refine lv_bipush (v := 59) (pc := 133) hx hb dX7_reads_133 (by decide) ?_
          obtain ⟨r26, u27, hc27, h⟩ := am_call2_s h
          refine kc_Wi (pc := 135) (ci := 7) ⟨hx, hb, hml, hown, hts⟩ hP hK hD hS hA [.int (59 : Int32)] (c_X7_passes l D cI cJ mself msa mpasta mhelda mtexta mchosena mtimesa mrestsa mbeforea mtolda mpasts mruns mtyped u24 mfrom mreason mcause morders j2 ms mpast mheld mtext mchosen mtimes mrests mbefore f25 (59 : Int32) r26 u27 hc27 _) [0, 1, 2, 3, 4, 5, 6, 7, 8, 9] rfl rfl rfl (cwV 1 hts (gzV wl747 wl748 wl749 wl5 wl750) rfl rfl rfl ⟨rfl, hdX7_passes⟩ ⟨Nat.le_of_ble_eq_true rfl, Nat.le_of_ble_eq_true rfl⟩) rfl rfl [] rfl hl.1 rfl (Nat.le_of_ble_eq_true rfl) dX7_reads_135 ⟨Nat.zero_le _, Nat.zero_le _⟩ (fun H locs hP hD hS => ?_)
          replace hP : va_P D vwCl [(mself, .inr (7, [.ref msa, .ref mpasta, .ref mhelda, .int mpasts, .int mruns, .ref mtexta, .int mtyped, .ref mchosena, .ref mtimesa, .ref mrestsa, .ref mbeforea, .int u27, .int mfrom, .int mreason, .int mcause, .int morders, .int j2, .ref mtolda])), (msa, .inl (cI, 580, .inl ms)), (mpasta, .inl (cI, 2320, .inl mpast)), (mhelda, .inl (cI, 580, .inl mheld)), (mtexta, .inl (cI, 60, .inl mtext)), (mchosena, .inl (cI, 12, .inl mchosen)), (mtimesa, .inl (cI, 12, .inl mtimes)), (mrestsa, .inl (cJ, 12, .inr (.inl mrests))), (mbeforea, .inl (cI, 12, .inl mbefore)), (mtolda, .inl (cI, 2, .inl f25))] H := hP
          replace hD : va_D A [(mself, .inr (7, [.ref msa, .ref mpasta, .ref mhelda, .int mpasts, .int mruns, .ref mtexta, .int mtyped, .ref mchosena, .ref mtimesa, .ref mrestsa, .ref mbeforea, .int u27, .int mfrom, .int mreason, .int mcause, .int morders, .int j2, .ref mtolda])), (msa, .inl (cI, 580, .inl ms)), (mpasta, .inl (cI, 2320, .inl mpast)), (mhelda, .inl (cI, 580, .inl mheld)), (mtexta, .inl (cI, 60, .inl mtext)), (mchosena, .inl (cI, 12, .inl mchosen)), (mtimesa, .inl (cI, 12, .inl mtimes)), (mrestsa, .inl (cJ, 12, .inr (.inl mrests))), (mbeforea, .inl (cI, 12, .inl mbefore)), (mtolda, .inl (cI, 2, .inl f25))] := hD
          refine lv_if_eq (pc := 138) (tgt := 145) hx hb dX7_reads_138 (by decide) (fun cc => ?_) (fun cc => ?_)
          · replace h := am_t cc h
            exact hJ20 _ _ h ls (lv_sub hl [1, 0] rfl) H locs hP hD hS
          replace h := am_f cc h
          refine lv_iconst (v := 1) (pc := 141) hx hb dX7_reads_141 (by decide) ?_
          refine lv_goto (pc := 142) (tgt := 146) hx hb dX7_reads_142 (by decide) ?_
          exact hJ15 _ _ _ h ls (lv_sub hl [1, 0] rfl) H locs hP hD hS
        refine am_join1_s (fun (u28 : Int32) => ∀ (ls : Array Slot), lv_has ls 3 [(0, .ref mself)] → ∀ (H : Heap) (locs : List Loc), va_P D vwCl [(mself, .inr (7, [.ref msa, .ref mpasta, .ref mhelda, .int mpasts, .int mruns, .ref mtexta, .int mtyped, .ref mchosena, .ref mtimesa, .ref mrestsa, .ref mbeforea, .int u28, .int mfrom, .int mreason, .int mcause, .int morders, .int j2, .ref mtolda])), (msa, .inl (cI, 580, .inl ms)), (mpasta, .inl (cI, 2320, .inl mpast)), (mhelda, .inl (cI, 580, .inl mheld)), (mtexta, .inl (cI, 60, .inl mtext)), (mchosena, .inl (cI, 12, .inl mchosen)), (mtimesa, .inl (cI, 12, .inl mtimes)), (mrestsa, .inl (cJ, 12, .inr (.inl mrests))), (mbeforea, .inl (cI, 12, .inl mbefore)), (mtolda, .inl (cI, 2, .inl mtold))] H → va_D A [(mself, .inr (7, [.ref msa, .ref mpasta, .ref mhelda, .int mpasts, .int mruns, .ref mtexta, .int mtyped, .ref mchosena, .ref mtimesa, .ref mrestsa, .ref mbeforea, .int u28, .int mfrom, .int mreason, .int mcause, .int morders, .int j2, .ref mtolda])), (msa, .inl (cI, 580, .inl ms)), (mpasta, .inl (cI, 2320, .inl mpast)), (mhelda, .inl (cI, 580, .inl mheld)), (mtexta, .inl (cI, 60, .inl mtext)), (mchosena, .inl (cI, 12, .inl mchosen)), (mtimesa, .inl (cI, 12, .inl mtimes)), (mrestsa, .inl (cJ, 12, .inr (.inl mrests))), (mbeforea, .inl (cI, 12, .inl mbefore)), (mtolda, .inl (cI, 2, .inl mtold))] → va_S A s.heap H locs → W p l e rmX7_reads s m args below meth c H locs 0 0 Q (F0 m 105 ls [])) h (fun u28 h ls hl H locs hP hD hS => ?_) (fun J29 hJ29 h => ?_)
        · refine lv_iconst (v := 0) (pc := 105) hx hb dX7_reads_105 (by decide) ?_
          exact hJ8 _ _ h ls (lv_sub hl [0] rfl) H locs hP hD hS
        refine lv_icmp_ne (pc := 89) (tgt := 105) hx hb dX7_reads_89 (by decide) (fun cc => ?_) (fun cc => ?_)
        · replace h := am_f cc h
          exact hJ29 _ h ls (lv_sub hl [0] rfl) H locs hP hD hS
        replace h := am_t cc h
        refine lv_aload_n (pc := 92) hx hb dX7_reads_92 rfl (lv_at hl 0 rfl) ?_
        refine lv_bipush (v := 45) (pc := 93) hx hb dX7_reads_93 (by decide) ?_
        obtain ⟨r30, u31, hc31, h⟩ := am_call2_s h
        refine kc_Wi (pc := 95) (ci := 7) ⟨hx, hb, hml, hown, hts⟩ hP hK hD hS hA [.int (45 : Int32)] (c_X7_passes l D cI cJ mself msa mpasta mhelda mtexta mchosena mtimesa mrestsa mbeforea mtolda mpasts mruns mtyped x5 mfrom mreason mcause morders j2 ms mpast mheld mtext mchosen mtimes mrests mbefore mtold (45 : Int32) r30 u31 hc31 _) [0, 1, 2, 3, 4, 5, 6, 7, 8, 9] rfl rfl rfl (cwV 1 hts (gzV wl747 wl748 wl749 wl5 wl750) rfl rfl rfl ⟨rfl, hdX7_passes⟩ ⟨Nat.le_of_ble_eq_true rfl, Nat.le_of_ble_eq_true rfl⟩) rfl rfl [] rfl hl.1 rfl (Nat.le_of_ble_eq_true rfl) dX7_reads_95 ⟨Nat.zero_le _, Nat.zero_le _⟩ (fun H locs hP hD hS => ?_)
        replace hP : va_P D vwCl [(mself, .inr (7, [.ref msa, .ref mpasta, .ref mhelda, .int mpasts, .int mruns, .ref mtexta, .int mtyped, .ref mchosena, .ref mtimesa, .ref mrestsa, .ref mbeforea, .int u31, .int mfrom, .int mreason, .int mcause, .int morders, .int j2, .ref mtolda])), (msa, .inl (cI, 580, .inl ms)), (mpasta, .inl (cI, 2320, .inl mpast)), (mhelda, .inl (cI, 580, .inl mheld)), (mtexta, .inl (cI, 60, .inl mtext)), (mchosena, .inl (cI, 12, .inl mchosen)), (mtimesa, .inl (cI, 12, .inl mtimes)), (mrestsa, .inl (cJ, 12, .inr (.inl mrests))), (mbeforea, .inl (cI, 12, .inl mbefore)), (mtolda, .inl (cI, 2, .inl mtold))] H := hP
        replace hD : va_D A [(mself, .inr (7, [.ref msa, .ref mpasta, .ref mhelda, .int mpasts, .int mruns, .ref mtexta, .int mtyped, .ref mchosena, .ref mtimesa, .ref mrestsa, .ref mbeforea, .int u31, .int mfrom, .int mreason, .int mcause, .int morders, .int j2, .ref mtolda])), (msa, .inl (cI, 580, .inl ms)), (mpasta, .inl (cI, 2320, .inl mpast)), (mhelda, .inl (cI, 580, .inl mheld)), (mtexta, .inl (cI, 60, .inl mtext)), (mchosena, .inl (cI, 12, .inl mchosen)), (mtimesa, .inl (cI, 12, .inl mtimes)), (mrestsa, .inl (cJ, 12, .inr (.inl mrests))), (mbeforea, .inl (cI, 12, .inl mbefore)), (mtolda, .inl (cI, 2, .inl mtold))] := hD
        refine lv_if_eq (pc := 98) (tgt := 105) hx hb dX7_reads_98 (by decide) (fun cc => ?_) (fun cc => ?_)
        · replace h := am_t cc h
          exact hJ29 _ h ls (lv_sub hl [0] rfl) H locs hP hD hS
        replace h := am_f cc h
        refine lv_iconst (v := 1) (pc := 101) hx hb dX7_reads_101 (by decide) ?_
        refine lv_goto (pc := 102) (tgt := 106) hx hb dX7_reads_102 (by decide) ?_
        exact hJ8 _ _ h ls (lv_sub hl [0] rfl) H locs hP hD hS
      replace h := am_t cc h
      refine lv_aload_n (pc := 76) hx hb dX7_reads_76 rfl (lv_at hl 0 rfl) ?_
      refine lv_bipush (v := 59) (pc := 77) hx hb dX7_reads_77 (by decide) ?_
      obtain ⟨r32, u33, hc33, h⟩ := am_call2_s h
      refine kc_Wi (pc := 79) (ci := 7) ⟨hx, hb, hml, hown, hts⟩ hP hK hD hS hA [.int (59 : Int32)] (c_X7_passes l D cI cJ mself msa mpasta mhelda mtexta mchosena mtimesa mrestsa mbeforea mtolda mpasts mruns mtyped x5 mfrom mreason mcause morders j2 ms mpast mheld mtext mchosen mtimes mrests mbefore mtold (59 : Int32) r32 u33 hc33 _) [0, 1, 2, 3, 4, 5, 6, 7, 8, 9] rfl rfl rfl (cwV 1 hts (gzV wl747 wl748 wl749 wl5 wl750) rfl rfl rfl ⟨rfl, hdX7_passes⟩ ⟨Nat.le_of_ble_eq_true rfl, Nat.le_of_ble_eq_true rfl⟩) rfl rfl [] rfl hl.1 rfl (Nat.le_of_ble_eq_true rfl) dX7_reads_79 ⟨Nat.zero_le _, Nat.zero_le _⟩ (fun H locs hP hD hS => ?_)
      replace hP : va_P D vwCl [(mself, .inr (7, [.ref msa, .ref mpasta, .ref mhelda, .int mpasts, .int mruns, .ref mtexta, .int mtyped, .ref mchosena, .ref mtimesa, .ref mrestsa, .ref mbeforea, .int u33, .int mfrom, .int mreason, .int mcause, .int morders, .int j2, .ref mtolda])), (msa, .inl (cI, 580, .inl ms)), (mpasta, .inl (cI, 2320, .inl mpast)), (mhelda, .inl (cI, 580, .inl mheld)), (mtexta, .inl (cI, 60, .inl mtext)), (mchosena, .inl (cI, 12, .inl mchosen)), (mtimesa, .inl (cI, 12, .inl mtimes)), (mrestsa, .inl (cJ, 12, .inr (.inl mrests))), (mbeforea, .inl (cI, 12, .inl mbefore)), (mtolda, .inl (cI, 2, .inl mtold))] H := hP
      replace hD : va_D A [(mself, .inr (7, [.ref msa, .ref mpasta, .ref mhelda, .int mpasts, .int mruns, .ref mtexta, .int mtyped, .ref mchosena, .ref mtimesa, .ref mrestsa, .ref mbeforea, .int u33, .int mfrom, .int mreason, .int mcause, .int morders, .int j2, .ref mtolda])), (msa, .inl (cI, 580, .inl ms)), (mpasta, .inl (cI, 2320, .inl mpast)), (mhelda, .inl (cI, 580, .inl mheld)), (mtexta, .inl (cI, 60, .inl mtext)), (mchosena, .inl (cI, 12, .inl mchosen)), (mtimesa, .inl (cI, 12, .inl mtimes)), (mrestsa, .inl (cJ, 12, .inr (.inl mrests))), (mbeforea, .inl (cI, 12, .inl mbefore)), (mtolda, .inl (cI, 2, .inl mtold))] := hD
      obtain ⟨hbo, h⟩ := am_bool_s h
      obtain ⟨e1, e2, e3, e4⟩ := am_ret4 h
      exact hret _ _ _ _ _ dX7_reads_82 (am_bool_n hbo) e1 (by rw [← e2, ← e3, ← e4]; exact hP) hS
    refine lv_icmp_eq (pc := 34) (tgt := 57) hx hb dX7_reads_34 (by decide) (fun cc => ?_) (fun cc => ?_)
    · replace h := am_t cc h
      exact hJ4 h ls (lv_sub hl [0] rfl)
    replace h := am_f cc h
    refine lv_aload_n (pc := 37) hx hb dX7_reads_37 rfl (lv_at hl 0 rfl) ?_
    refine va_get (pc := 38) (D := D) (ci := 7) (v := .int j2) (C := RX7) (T := TX7) (N := 18) hx hb hts hnX7 hown hK.1 hP 0 rfl rfl 16 (Nat.le_of_ble_eq_true rfl) hk742 (fun _ h9 => h9) rfl dX7_reads_38 ?_
    refine lv_bipush (v := 111) (pc := 41) hx hb dX7_reads_41 (by decide) ?_
    refine lv_icmp_eq (pc := 43) (tgt := 57) hx hb dX7_reads_43 (by decide) (fun cc => ?_) (fun cc => ?_)
    · replace h := am_t cc h
      exact hJ4 h ls (lv_sub hl [0] rfl)
    replace h := am_f cc h
    refine lv_aload_n (pc := 46) hx hb dX7_reads_46 rfl (lv_at hl 0 rfl) ?_
    refine va_get (pc := 47) (D := D) (ci := 7) (v := .int j2) (C := RX7) (T := TX7) (N := 18) hx hb hts hnX7 hown hK.1 hP 0 rfl rfl 16 (Nat.le_of_ble_eq_true rfl) hk742 (fun _ h9 => h9) rfl dX7_reads_47 ?_
    refine lv_bipush (v := 114) (pc := 50) hx hb dX7_reads_50 (by decide) ?_
    refine lv_icmp_eq (pc := 52) (tgt := 57) hx hb dX7_reads_52 (by decide) (fun cc => ?_) (fun cc => ?_)
    · replace h := am_t cc h
      exact hJ4 h ls (lv_sub hl [0] rfl)
    replace h := am_f cc h
    refine lv_iconst (v := 0) (pc := 55) hx hb dX7_reads_55 (by decide) ?_
    obtain ⟨e1, e2, e3, e4⟩ := am_ret4 h
    exact hret _ _ _ _ _ dX7_reads_56 rfl e1 (by rw [← e2, ← e3, ← e4]; exact hP) hS
  refine lv_if_eq (pc := 9) (tgt := 24) hx hb dX7_reads_9 (by decide) (fun cc => ?_) (fun cc => ?_)
  · replace h := am_t cc h
    refine lv_iconst (v := 0) (pc := 24) hx hb dX7_reads_24 (by decide) ?_
    exact hJ3 _ h ls (lv_sub hl [0] rfl)
  replace h := am_f cc h
  refine lv_aload_n (pc := 12) hx hb dX7_reads_12 rfl (lv_at hl 0 rfl) ?_
  refine va_get (pc := 13) (D := D) (ci := 7) (v := .ref mtexta) (C := RX7) (T := TX7) (N := 18) hx hb hts hnX7 hown hK.1 hP 0 rfl rfl 5 (Nat.le_of_ble_eq_true rfl) hk124 (fun _ h9 => h9) rfl dX7_reads_13 ?_
  refine lv_aload_n (pc := 16) hx hb dX7_reads_16 rfl (lv_at hl 0 rfl) ?_
  refine va_get (pc := 17) (D := D) (ci := 7) (v := .int mspot) (C := RX7) (T := TX7) (N := 18) hx hb hts hnX7 hown hK.1 hP 0 rfl rfl 11 (Nat.le_of_ble_eq_true rfl) hk736 (fun _ h9 => h9) rfl dX7_reads_17 ?_
  obtain ⟨hi, h⟩ := am_in_s h
  refine va_iald (pc := 20) hx hb hK.1 hP 4 0 rfl rfl hi dX7_reads_20 ?_
  refine lv_goto (pc := 21) (tgt := 25) hx hb dX7_reads_21 (by decide) ?_
  exact hJ3 _ h ls (lv_sub hl [0] rfl)
theorem hdX7_calls : yX7_calls.cls ≠ "java/lang/invoke/MethodHandle" ∧ yX7_calls.cls ≠ "java/lang/invoke/VarHandle" ∧ (parseMethodDescriptor yX7_calls.desc).map (fun d => d.parameters.length) = some 0 := by decide +kernel
abbrev rmX7_calls : Room := { frames := 5, cells := 0, slots := 0, locals := 122 }
set_option maxHeartbeats 20000000 in
set_option maxRecDepth 100000 in
theorem c_X7_calls (l : Launch) (D : va_G) (cI cJ : ClassId) (mself : Nat) (msa : Nat) (mpasta : Nat) (mhelda : Nat) (mtexta : Nat) (mchosena : Nat) (mtimesa : Nat) (mrestsa : Nat) (mbeforea : Nat) (mtolda : Nat) (mpasts : Int32) (mruns : Int32) (mtyped : Int32) (mspot : Int32) (mfrom : Int32) (mreason : Int32) (mcause : Int32) (morders : Int32) (mkind : Int32) (ms : Nat → Int32) (mpast : Nat → Int32) (mheld : Nat → Int32) (mtext : Nat → Int32) (mchosen : Nat → Int32) (mtimes : Nat → Int32) (mrests : Nat → Int64) (mbefore : Nat → Int32) (mtold : Nat → Int32)  (r0 : Int32) (zmpasts : Int32) (zms : Nat → Int32) (zmpast : Nat → Int32) (zmchosen : Nat → Int32) (zmtimes : Nat → Int32) (zmrests : Nat → Int64) (zmbefore : Nat → Int32) (hF : F_X7_calls mpasts mruns mkind ms mpast mchosen mtimes mrests mbefore mtold = some (r0, zmpasts, zms, zmpast, zmchosen, zmtimes, zmrests, zmbefore)) (sz : Nat) : Met l yX7_calls (wz yX7_calls cX7_calls 1 (some .int)) rmX7_calls (kPw D cI cJ [(mself, .inr (7, [.ref msa, .ref mpasta, .ref mhelda, .int mpasts, .int mruns, .ref mtexta, .int mtyped, .ref mchosena, .ref mtimesa, .ref mrestsa, .ref mbeforea, .int mspot, .int mfrom, .int mreason, .int mcause, .int morders, .int mkind, .ref mtolda])), (msa, .inl (cI, 580, .inl ms)), (mpasta, .inl (cI, 2320, .inl mpast)), (mhelda, .inl (cI, 580, .inl mheld)), (mtexta, .inl (cI, 60, .inl mtext)), (mchosena, .inl (cI, 12, .inl mchosen)), (mtimesa, .inl (cI, 12, .inl mtimes)), (mrestsa, .inl (cJ, 12, .inr (.inl mrests))), (mbeforea, .inl (cI, 12, .inl mbefore)), (mtolda, .inl (cI, 2, .inl mtold))] sz [.ref mself]) (kQi D r0 [(mself, .inr (7, [.ref msa, .ref mpasta, .ref mhelda, .int zmpasts, .int mruns, .ref mtexta, .int mtyped, .ref mchosena, .ref mtimesa, .ref mrestsa, .ref mbeforea, .int mspot, .int mfrom, .int mreason, .int mcause, .int morders, .int mkind, .ref mtolda])), (msa, .inl (cI, 580, .inl zms)), (mpasta, .inl (cI, 2320, .inl zmpast)), (mhelda, .inl (cI, 580, .inl mheld)), (mtexta, .inl (cI, 60, .inl mtext)), (mchosena, .inl (cI, 12, .inl zmchosen)), (mtimesa, .inl (cI, 12, .inl zmtimes)), (mrestsa, .inl (cJ, 12, .inr (.inl zmrests))), (mbeforea, .inl (cI, 12, .inl zmbefore)), (mtolda, .inl (cI, 2, .inl mtold))] (va_A [(mself, .inr (7, [.ref msa, .ref mpasta, .ref mhelda, .int mpasts, .int mruns, .ref mtexta, .int mtyped, .ref mchosena, .ref mtimesa, .ref mrestsa, .ref mbeforea, .int mspot, .int mfrom, .int mreason, .int mcause, .int morders, .int mkind, .ref mtolda])), (msa, .inl (cI, 580, .inl ms)), (mpasta, .inl (cI, 2320, .inl mpast)), (mhelda, .inl (cI, 580, .inl mheld)), (mtexta, .inl (cI, 60, .inl mtext)), (mchosena, .inl (cI, 12, .inl mchosen)), (mtimesa, .inl (cI, 12, .inl mtimes)), (mrestsa, .inl (cJ, 12, .inr (.inl mrests))), (mbeforea, .inl (cI, 12, .inl mbefore)), (mtolda, .inl (cI, 2, .inl mtold))] sz)) 0 0 (va_A [(mself, .inr (7, [.ref msa, .ref mpasta, .ref mhelda, .int mpasts, .int mruns, .ref mtexta, .int mtyped, .ref mchosena, .ref mtimesa, .ref mrestsa, .ref mbeforea, .int mspot, .int mfrom, .int mreason, .int mcause, .int morders, .int mkind, .ref mtolda])), (msa, .inl (cI, 580, .inl ms)), (mpasta, .inl (cI, 2320, .inl mpast)), (mhelda, .inl (cI, 580, .inl mheld)), (mtexta, .inl (cI, 60, .inl mtext)), (mchosena, .inl (cI, 12, .inl mchosen)), (mtimesa, .inl (cI, 12, .inl mtimes)), (mrestsa, .inl (cJ, 12, .inr (.inl mrests))), (mbeforea, .inl (cI, 12, .inl mbefore)), (mtolda, .inl (cI, 2, .inl mtold))] sz) := by
  refine kM_wi cX7_calls 1 .int (by decide +kernel) rfl rfl (Nat.le_of_ble_eq_true rfl) ⟨rfl, rfl⟩ ?_
  intro p e s m args below meth c Q A ls hx hb hml hown hts hP hK hD hA hS hl hret
  have hk129 := hts _ (List.mem_cons_of_mem _ wl129)
  have hk742 := hts _ (List.mem_cons_of_mem _ wl742)
  have hnX7 : ∀ w ∈ u_ws RX7 TX7 18, w ∈ wz yX7_calls cX7_calls 1 (some .int) := fun w h => List.mem_cons_of_mem _ (inlX7 w h)
  replace hl : lv_has ls 1 [(0, .ref mself)] := hl
  have h := hF
  unfold F_X7_calls at h
  refine lv_aload_n (pc := 0) hx hb dX7_calls_0 rfl (lv_at hl 0 rfl) ?_
  refine va_get (pc := 1) (D := D) (ci := 7) (v := .int mkind) (C := RX7) (T := TX7) (N := 18) hx hb hts hnX7 hown hK.1 hP 0 rfl rfl 16 (Nat.le_of_ble_eq_true rfl) hk742 (fun _ h9 => h9) rfl dX7_calls_1 ?_
  refine lv_bipush (v := 109) (pc := 4) hx hb dX7_calls_4 (by decide) ?_
  refine lv_icmp_ne (pc := 6) (tgt := 28) hx hb dX7_calls_6 (by decide) (fun cc => ?_) (fun cc => ?_)
  · replace h := am_f cc h
    refine lv_aload_n (pc := 28) hx hb dX7_calls_28 rfl (lv_at hl 0 rfl) ?_
    refine va_get (pc := 29) (D := D) (ci := 7) (v := .int mkind) (C := RX7) (T := TX7) (N := 18) hx hb hts hnX7 hown hK.1 hP 0 rfl rfl 16 (Nat.le_of_ble_eq_true rfl) hk742 (fun _ h9 => h9) rfl dX7_calls_29 ?_
    refine lv_bipush (v := 111) (pc := 32) hx hb dX7_calls_32 (by decide) ?_
    refine lv_icmp_ne (pc := 34) (tgt := 56) hx hb dX7_calls_34 (by decide) (fun cc => ?_) (fun cc => ?_)
    · replace h := am_f cc h
      refine lv_aload_n (pc := 56) hx hb dX7_calls_56 rfl (lv_at hl 0 rfl) ?_
      obtain ⟨r1, u2, f3, f4, f5, f6, f7, hc7, h⟩ := am_call7_s h
      refine kc_Wi (pc := 57) (ci := 7) ⟨hx, hb, hml, hown, hts⟩ hP hK hD hS hA [] (c_X7_resample l D cI cJ mself msa mpasta mhelda mtexta mchosena mtimesa mrestsa mbeforea mtolda mpasts mruns mtyped mspot mfrom mreason mcause morders mkind ms mpast mheld mtext mchosen mtimes mrests mbefore mtold r1 u2 f3 f4 f5 f6 f7 hc7 _) [0, 1, 2, 3, 4, 5, 6, 7, 8, 9] rfl rfl rfl (cwV 0 hts (gzV wl761 wl411 wl412 wl5 wl413) rfl rfl rfl ⟨rfl, hdX7_resample⟩ ⟨Nat.le_of_ble_eq_true rfl, Nat.le_of_ble_eq_true rfl⟩) rfl rfl [] rfl hl.1 rfl (Nat.le_of_ble_eq_true rfl) dX7_calls_57 ⟨Nat.zero_le _, Nat.zero_le _⟩ (fun H locs hP hD hS => ?_)
      replace hP : va_P D vwCl [(mself, .inr (7, [.ref msa, .ref mpasta, .ref mhelda, .int u2, .int mruns, .ref mtexta, .int mtyped, .ref mchosena, .ref mtimesa, .ref mrestsa, .ref mbeforea, .int mspot, .int mfrom, .int mreason, .int mcause, .int morders, .int mkind, .ref mtolda])), (msa, .inl (cI, 580, .inl f3)), (mpasta, .inl (cI, 2320, .inl f4)), (mhelda, .inl (cI, 580, .inl mheld)), (mtexta, .inl (cI, 60, .inl mtext)), (mchosena, .inl (cI, 12, .inl f5)), (mtimesa, .inl (cI, 12, .inl f6)), (mrestsa, .inl (cJ, 12, .inr (.inl f7))), (mbeforea, .inl (cI, 12, .inl mbefore)), (mtolda, .inl (cI, 2, .inl mtold))] H := hP
      replace hD : va_D A [(mself, .inr (7, [.ref msa, .ref mpasta, .ref mhelda, .int u2, .int mruns, .ref mtexta, .int mtyped, .ref mchosena, .ref mtimesa, .ref mrestsa, .ref mbeforea, .int mspot, .int mfrom, .int mreason, .int mcause, .int morders, .int mkind, .ref mtolda])), (msa, .inl (cI, 580, .inl f3)), (mpasta, .inl (cI, 2320, .inl f4)), (mhelda, .inl (cI, 580, .inl mheld)), (mtexta, .inl (cI, 60, .inl mtext)), (mchosena, .inl (cI, 12, .inl f5)), (mtimesa, .inl (cI, 12, .inl f6)), (mrestsa, .inl (cJ, 12, .inr (.inl f7))), (mbeforea, .inl (cI, 12, .inl mbefore)), (mtolda, .inl (cI, 2, .inl mtold))] := hD
      obtain ⟨e1, e2, e3, e4, e5, e6, e7, e8⟩ := am_ret8 h
      exact hret _ _ _ _ _ dX7_calls_60 rfl e1 (by rw [← e2, ← e3, ← e4, ← e5, ← e6, ← e7, ← e8]; exact hP) hS
    replace h := am_t cc h
    refine lv_aload_n (pc := 37) hx hb dX7_calls_37 rfl (lv_at hl 0 rfl) ?_
    refine lv_aload_n (pc := 38) hx hb dX7_calls_38 rfl (lv_at hl 0 rfl) ?_
    refine va_get (pc := 39) (D := D) (ci := 7) (v := .ref mtolda) (C := RX7) (T := TX7) (N := 18) hx hb hts hnX7 hown hK.1 hP 0 rfl rfl 17 (Nat.le_of_ble_eq_true rfl) hk129 (fun _ h9 => h9) rfl dX7_calls_39 ?_
    refine lv_iconst (v := 0) (pc := 42) hx hb dX7_calls_42 (by decide) ?_
    refine va_iald (pc := 43) hx hb hK.1 hP 9 0 rfl rfl (vp_in_nI (n := 0) (N := 2) (by decide) (by decide)) dX7_calls_43 ?_
    refine lv_aload_n (pc := 44) hx hb dX7_calls_44 rfl (lv_at hl 0 rfl) ?_
    refine va_get (pc := 45) (D := D) (ci := 7) (v := .ref mtolda) (C := RX7) (T := TX7) (N := 18) hx hb hts hnX7 hown hK.1 hP 0 rfl rfl 17 (Nat.le_of_ble_eq_true rfl) hk129 (fun _ h9 => h9) rfl dX7_calls_45 ?_
    refine lv_iconst (v := 1) (pc := 48) hx hb dX7_calls_48 (by decide) ?_
    refine va_iald (pc := 49) hx hb hK.1 hP 9 0 rfl rfl (vp_in_nI (n := 1) (N := 2) (by decide) (by decide)) dX7_calls_49 ?_
    obtain ⟨r8, u9, f10, f11, f12, f13, f14, f15, hc15, h⟩ := am_call8_s h
    refine kc_Wi (pc := 50) (ci := 7) ⟨hx, hb, hml, hown, hts⟩ hP hK hD hS hA [.int (mtold (0 : Int32).toNatClampNeg), .int (mtold (1 : Int32).toNatClampNeg)] (c_X7_observe l D cI cJ mself msa mpasta mhelda mtexta mchosena mtimesa mrestsa mbeforea mtolda mpasts mruns mtyped mspot mfrom mreason mcause morders mkind ms mpast mheld mtext mchosen mtimes mrests mbefore mtold (mtold (0 : Int32).toNatClampNeg) (mtold (1 : Int32).toNatClampNeg) r8 u9 f10 f11 f12 f13 f14 f15 hc15 _) [0, 1, 2, 3, 4, 5, 6, 7, 8, 9] rfl rfl rfl (cwV 2 hts (gzV wl760 wl372 wl373 wl5 wl374) rfl rfl rfl ⟨rfl, hdX7_observe⟩ ⟨Nat.le_of_ble_eq_true rfl, Nat.le_of_ble_eq_true rfl⟩) rfl rfl [] rfl hl.1 rfl (Nat.le_of_ble_eq_true rfl) dX7_calls_50 ⟨Nat.zero_le _, Nat.zero_le _⟩ (fun H locs hP hD hS => ?_)
    replace hP : va_P D vwCl [(mself, .inr (7, [.ref msa, .ref mpasta, .ref mhelda, .int u9, .int mruns, .ref mtexta, .int mtyped, .ref mchosena, .ref mtimesa, .ref mrestsa, .ref mbeforea, .int mspot, .int mfrom, .int mreason, .int mcause, .int morders, .int mkind, .ref mtolda])), (msa, .inl (cI, 580, .inl f10)), (mpasta, .inl (cI, 2320, .inl f11)), (mhelda, .inl (cI, 580, .inl mheld)), (mtexta, .inl (cI, 60, .inl mtext)), (mchosena, .inl (cI, 12, .inl f12)), (mtimesa, .inl (cI, 12, .inl f13)), (mrestsa, .inl (cJ, 12, .inr (.inl f14))), (mbeforea, .inl (cI, 12, .inl f15)), (mtolda, .inl (cI, 2, .inl mtold))] H := hP
    replace hD : va_D A [(mself, .inr (7, [.ref msa, .ref mpasta, .ref mhelda, .int u9, .int mruns, .ref mtexta, .int mtyped, .ref mchosena, .ref mtimesa, .ref mrestsa, .ref mbeforea, .int mspot, .int mfrom, .int mreason, .int mcause, .int morders, .int mkind, .ref mtolda])), (msa, .inl (cI, 580, .inl f10)), (mpasta, .inl (cI, 2320, .inl f11)), (mhelda, .inl (cI, 580, .inl mheld)), (mtexta, .inl (cI, 60, .inl mtext)), (mchosena, .inl (cI, 12, .inl f12)), (mtimesa, .inl (cI, 12, .inl f13)), (mrestsa, .inl (cJ, 12, .inr (.inl f14))), (mbeforea, .inl (cI, 12, .inl f15)), (mtolda, .inl (cI, 2, .inl mtold))] := hD
    refine lv_goto (pc := 53) (tgt := 60) hx hb dX7_calls_53 (by decide) ?_
    obtain ⟨e1, e2, e3, e4, e5, e6, e7, e8⟩ := am_ret8 h
    exact hret _ _ _ _ _ dX7_calls_60 rfl e1 (by rw [← e2, ← e3, ← e4, ← e5, ← e6, ← e7, ← e8]; exact hP) hS
  replace h := am_t cc h
  refine lv_aload_n (pc := 9) hx hb dX7_calls_9 rfl (lv_at hl 0 rfl) ?_
  refine lv_aload_n (pc := 10) hx hb dX7_calls_10 rfl (lv_at hl 0 rfl) ?_
  refine va_get (pc := 11) (D := D) (ci := 7) (v := .ref mtolda) (C := RX7) (T := TX7) (N := 18) hx hb hts hnX7 hown hK.1 hP 0 rfl rfl 17 (Nat.le_of_ble_eq_true rfl) hk129 (fun _ h9 => h9) rfl dX7_calls_11 ?_
  refine lv_iconst (v := 0) (pc := 14) hx hb dX7_calls_14 (by decide) ?_
  refine va_iald (pc := 15) hx hb hK.1 hP 9 0 rfl rfl (vp_in_nI (n := 0) (N := 2) (by decide) (by decide)) dX7_calls_15 ?_
  refine lv_aload_n (pc := 16) hx hb dX7_calls_16 rfl (lv_at hl 0 rfl) ?_
  refine va_get (pc := 17) (D := D) (ci := 7) (v := .ref mtolda) (C := RX7) (T := TX7) (N := 18) hx hb hts hnX7 hown hK.1 hP 0 rfl rfl 17 (Nat.le_of_ble_eq_true rfl) hk129 (fun _ h9 => h9) rfl dX7_calls_17 ?_
  refine lv_iconst (v := 1) (pc := 20) hx hb dX7_calls_20 (by decide) ?_
  refine va_iald (pc := 21) hx hb hK.1 hP 9 0 rfl rfl (vp_in_nI (n := 1) (N := 2) (by decide) (by decide)) dX7_calls_21 ?_
  obtain ⟨r16, u17, f18, f19, hc19, h⟩ := am_call4_s h
  refine kc_Wi (pc := 22) (ci := 7) ⟨hx, hb, hml, hown, hts⟩ hP hK hD hS hA [.int (mtold (0 : Int32).toNatClampNeg), .int (mtold (1 : Int32).toNatClampNeg)] (c_X7_move l D cI cJ mself msa mpasta mhelda mtexta mchosena mtimesa mrestsa mbeforea mtolda mpasts mruns mtyped mspot mfrom mreason mcause morders mkind ms mpast mheld mtext mchosen mtimes mrests mbefore mtold (mtold (0 : Int32).toNatClampNeg) (mtold (1 : Int32).toNatClampNeg) r16 u17 f18 f19 hc19 _) [0, 1, 2, 3, 4, 5, 6, 7, 8, 9] rfl rfl rfl (cwV 2 hts (gzV wl759 wl272 wl273 wl5 wl274) rfl rfl rfl ⟨rfl, hdX7_move⟩ ⟨Nat.le_of_ble_eq_true rfl, Nat.le_of_ble_eq_true rfl⟩) rfl rfl [] rfl hl.1 rfl (Nat.le_of_ble_eq_true rfl) dX7_calls_22 ⟨Nat.zero_le _, Nat.zero_le _⟩ (fun H locs hP hD hS => ?_)
  replace hP : va_P D vwCl [(mself, .inr (7, [.ref msa, .ref mpasta, .ref mhelda, .int u17, .int mruns, .ref mtexta, .int mtyped, .ref mchosena, .ref mtimesa, .ref mrestsa, .ref mbeforea, .int mspot, .int mfrom, .int mreason, .int mcause, .int morders, .int mkind, .ref mtolda])), (msa, .inl (cI, 580, .inl f18)), (mpasta, .inl (cI, 2320, .inl f19)), (mhelda, .inl (cI, 580, .inl mheld)), (mtexta, .inl (cI, 60, .inl mtext)), (mchosena, .inl (cI, 12, .inl mchosen)), (mtimesa, .inl (cI, 12, .inl mtimes)), (mrestsa, .inl (cJ, 12, .inr (.inl mrests))), (mbeforea, .inl (cI, 12, .inl mbefore)), (mtolda, .inl (cI, 2, .inl mtold))] H := hP
  replace hD : va_D A [(mself, .inr (7, [.ref msa, .ref mpasta, .ref mhelda, .int u17, .int mruns, .ref mtexta, .int mtyped, .ref mchosena, .ref mtimesa, .ref mrestsa, .ref mbeforea, .int mspot, .int mfrom, .int mreason, .int mcause, .int morders, .int mkind, .ref mtolda])), (msa, .inl (cI, 580, .inl f18)), (mpasta, .inl (cI, 2320, .inl f19)), (mhelda, .inl (cI, 580, .inl mheld)), (mtexta, .inl (cI, 60, .inl mtext)), (mchosena, .inl (cI, 12, .inl mchosen)), (mtimesa, .inl (cI, 12, .inl mtimes)), (mrestsa, .inl (cJ, 12, .inr (.inl mrests))), (mbeforea, .inl (cI, 12, .inl mbefore)), (mtolda, .inl (cI, 2, .inl mtold))] := hD
  refine lv_goto (pc := 25) (tgt := 60) hx hb dX7_calls_25 (by decide) ?_
  obtain ⟨e1, e2, e3, e4, e5, e6, e7, e8⟩ := am_ret8 h
  exact hret _ _ _ _ _ dX7_calls_60 rfl e1 (by rw [← e2, ← e3, ← e4, ← e5, ← e6, ← e7, ← e8]; exact hP) hS
theorem hdX7_plays : yX7_plays.cls ≠ "java/lang/invoke/MethodHandle" ∧ yX7_plays.cls ≠ "java/lang/invoke/VarHandle" ∧ (parseMethodDescriptor yX7_plays.desc).map (fun d => d.parameters.length) = some 0 := by decide +kernel
abbrev rmX7_plays : Room := { frames := 6, cells := 0, slots := 0, locals := 142 }
set_option maxHeartbeats 20000000 in
set_option maxRecDepth 100000 in
theorem c_X7_plays (l : Launch) (D : va_G) (cI cJ : ClassId) (mself : Nat) (msa : Nat) (mpasta : Nat) (mhelda : Nat) (mtexta : Nat) (mchosena : Nat) (mtimesa : Nat) (mrestsa : Nat) (mbeforea : Nat) (mtolda : Nat) (mpasts : Int32) (mruns : Int32) (mtyped : Int32) (mspot : Int32) (mfrom : Int32) (mreason : Int32) (mcause : Int32) (morders : Int32) (mkind : Int32) (ms : Nat → Int32) (mpast : Nat → Int32) (mheld : Nat → Int32) (mtext : Nat → Int32) (mchosen : Nat → Int32) (mtimes : Nat → Int32) (mrests : Nat → Int64) (mbefore : Nat → Int32) (mtold : Nat → Int32)  (r0 : Int32) (zmpasts : Int32) (zmruns : Int32) (zmspot : Int32) (zmfrom : Int32) (zmreason : Int32) (zmcause : Int32) (zmorders : Int32) (zmkind : Int32) (zms : Nat → Int32) (zmpast : Nat → Int32) (zmchosen : Nat → Int32) (zmtimes : Nat → Int32) (zmrests : Nat → Int64) (zmbefore : Nat → Int32) (zmtold : Nat → Int32) (hF : F_X7_plays mpasts mruns mtyped mspot mfrom mreason mcause morders mkind ms mpast mtext mchosen mtimes mrests mbefore mtold = some (r0, zmpasts, zmruns, zmspot, zmfrom, zmreason, zmcause, zmorders, zmkind, zms, zmpast, zmchosen, zmtimes, zmrests, zmbefore, zmtold)) (sz : Nat) : Met l yX7_plays (wz yX7_plays cX7_plays 4 (some .boolean)) rmX7_plays (kPw D cI cJ [(mself, .inr (7, [.ref msa, .ref mpasta, .ref mhelda, .int mpasts, .int mruns, .ref mtexta, .int mtyped, .ref mchosena, .ref mtimesa, .ref mrestsa, .ref mbeforea, .int mspot, .int mfrom, .int mreason, .int mcause, .int morders, .int mkind, .ref mtolda])), (msa, .inl (cI, 580, .inl ms)), (mpasta, .inl (cI, 2320, .inl mpast)), (mhelda, .inl (cI, 580, .inl mheld)), (mtexta, .inl (cI, 60, .inl mtext)), (mchosena, .inl (cI, 12, .inl mchosen)), (mtimesa, .inl (cI, 12, .inl mtimes)), (mrestsa, .inl (cJ, 12, .inr (.inl mrests))), (mbeforea, .inl (cI, 12, .inl mbefore)), (mtolda, .inl (cI, 2, .inl mtold))] sz [.ref mself]) (kQi D r0 [(mself, .inr (7, [.ref msa, .ref mpasta, .ref mhelda, .int zmpasts, .int zmruns, .ref mtexta, .int mtyped, .ref mchosena, .ref mtimesa, .ref mrestsa, .ref mbeforea, .int zmspot, .int zmfrom, .int zmreason, .int zmcause, .int zmorders, .int zmkind, .ref mtolda])), (msa, .inl (cI, 580, .inl zms)), (mpasta, .inl (cI, 2320, .inl zmpast)), (mhelda, .inl (cI, 580, .inl mheld)), (mtexta, .inl (cI, 60, .inl mtext)), (mchosena, .inl (cI, 12, .inl zmchosen)), (mtimesa, .inl (cI, 12, .inl zmtimes)), (mrestsa, .inl (cJ, 12, .inr (.inl zmrests))), (mbeforea, .inl (cI, 12, .inl zmbefore)), (mtolda, .inl (cI, 2, .inl zmtold))] (va_A [(mself, .inr (7, [.ref msa, .ref mpasta, .ref mhelda, .int mpasts, .int mruns, .ref mtexta, .int mtyped, .ref mchosena, .ref mtimesa, .ref mrestsa, .ref mbeforea, .int mspot, .int mfrom, .int mreason, .int mcause, .int morders, .int mkind, .ref mtolda])), (msa, .inl (cI, 580, .inl ms)), (mpasta, .inl (cI, 2320, .inl mpast)), (mhelda, .inl (cI, 580, .inl mheld)), (mtexta, .inl (cI, 60, .inl mtext)), (mchosena, .inl (cI, 12, .inl mchosen)), (mtimesa, .inl (cI, 12, .inl mtimes)), (mrestsa, .inl (cJ, 12, .inr (.inl mrests))), (mbeforea, .inl (cI, 12, .inl mbefore)), (mtolda, .inl (cI, 2, .inl mtold))] sz)) 0 0 (va_A [(mself, .inr (7, [.ref msa, .ref mpasta, .ref mhelda, .int mpasts, .int mruns, .ref mtexta, .int mtyped, .ref mchosena, .ref mtimesa, .ref mrestsa, .ref mbeforea, .int mspot, .int mfrom, .int mreason, .int mcause, .int morders, .int mkind, .ref mtolda])), (msa, .inl (cI, 580, .inl ms)), (mpasta, .inl (cI, 2320, .inl mpast)), (mhelda, .inl (cI, 580, .inl mheld)), (mtexta, .inl (cI, 60, .inl mtext)), (mchosena, .inl (cI, 12, .inl mchosen)), (mtimesa, .inl (cI, 12, .inl mtimes)), (mrestsa, .inl (cJ, 12, .inr (.inl mrests))), (mbeforea, .inl (cI, 12, .inl mbefore)), (mtolda, .inl (cI, 2, .inl mtold))] sz) := by
  refine kM_wi cX7_plays 4 .boolean (by decide +kernel) rfl rfl (Nat.le_of_ble_eq_true rfl) ⟨rfl, rfl⟩ ?_
  intro p e s m args below meth c Q A ls hx hb hml hown hts hP hK hD hA hS hl hret
  have hk183 := hts _ (List.mem_cons_of_mem _ wl183)
  have hk635 := hts _ (List.mem_cons_of_mem _ wl635)
  have hk726 := hts _ (List.mem_cons_of_mem _ wl726)
  have hk727 := hts _ (List.mem_cons_of_mem _ wl727)
  have hk728 := hts _ (List.mem_cons_of_mem _ wl728)
  have hk736 := hts _ (List.mem_cons_of_mem _ wl736)
  have hk737 := hts _ (List.mem_cons_of_mem _ wl737)
  have hnX7 : ∀ w ∈ u_ws RX7 TX7 18, w ∈ wz yX7_plays cX7_plays 4 (some .boolean) := fun w h => List.mem_cons_of_mem _ (inlX7 w h)
  replace hl : lv_has ls 4 [(0, .ref mself)] := hl
  have h := hF
  unfold F_X7_plays at h
  refine lv_aload_n (pc := 0) hx hb dX7_plays_0 rfl (lv_at hl 0 rfl) ?_
  refine lv_iconst (v := 1) (pc := 1) hx hb dX7_plays_1 (by decide) ?_
  refine va_put (pc := 2) (D := D) (ci := 7) (v := .int (1 : Int32)) (ty := .boolean) (C := RX7) (T := TX7) (N := 18) hx hb hts hnX7 tyX7 tyX7_ok nmX7 hown hK.1 hP hD hS 0 rfl rfl 4 (Nat.le_of_ble_eq_true rfl) hk183 (fun _ h9 => h9) rfl (by decide +kernel) rfl rfl (Nat.le_of_ble_eq_true rfl) dX7_plays_2 (fun H locs hP hD hS => ?_)
  replace hP : va_P D vwCl [(mself, .inr (7, [.ref msa, .ref mpasta, .ref mhelda, .int mpasts, .int (1 : Int32), .ref mtexta, .int mtyped, .ref mchosena, .ref mtimesa, .ref mrestsa, .ref mbeforea, .int mspot, .int mfrom, .int mreason, .int mcause, .int morders, .int mkind, .ref mtolda])), (msa, .inl (cI, 580, .inl ms)), (mpasta, .inl (cI, 2320, .inl mpast)), (mhelda, .inl (cI, 580, .inl mheld)), (mtexta, .inl (cI, 60, .inl mtext)), (mchosena, .inl (cI, 12, .inl mchosen)), (mtimesa, .inl (cI, 12, .inl mtimes)), (mrestsa, .inl (cJ, 12, .inr (.inl mrests))), (mbeforea, .inl (cI, 12, .inl mbefore)), (mtolda, .inl (cI, 2, .inl mtold))] H := hP
  replace hD : va_D A [(mself, .inr (7, [.ref msa, .ref mpasta, .ref mhelda, .int mpasts, .int (1 : Int32), .ref mtexta, .int mtyped, .ref mchosena, .ref mtimesa, .ref mrestsa, .ref mbeforea, .int mspot, .int mfrom, .int mreason, .int mcause, .int morders, .int mkind, .ref mtolda])), (msa, .inl (cI, 580, .inl ms)), (mpasta, .inl (cI, 2320, .inl mpast)), (mhelda, .inl (cI, 580, .inl mheld)), (mtexta, .inl (cI, 60, .inl mtext)), (mchosena, .inl (cI, 12, .inl mchosen)), (mtimesa, .inl (cI, 12, .inl mtimes)), (mrestsa, .inl (cJ, 12, .inr (.inl mrests))), (mbeforea, .inl (cI, 12, .inl mbefore)), (mtolda, .inl (cI, 2, .inl mtold))] := hD
  refine lv_aload_n (pc := 5) hx hb dX7_plays_5 rfl (lv_at hl 0 rfl) ?_
  refine lv_iconst (v := 0) (pc := 6) hx hb dX7_plays_6 (by decide) ?_
  refine va_put (pc := 7) (D := D) (ci := 7) (v := .int (0 : Int32)) (ty := .int) (C := RX7) (T := TX7) (N := 18) hx hb hts hnX7 tyX7 tyX7_ok nmX7 hown hK.1 hP hD hS 0 rfl rfl 11 (Nat.le_of_ble_eq_true rfl) hk736 (fun _ h9 => h9) rfl (by decide +kernel) rfl rfl (Nat.le_of_ble_eq_true rfl) dX7_plays_7 (fun H locs hP hD hS => ?_)
  replace hP : va_P D vwCl [(mself, .inr (7, [.ref msa, .ref mpasta, .ref mhelda, .int mpasts, .int (1 : Int32), .ref mtexta, .int mtyped, .ref mchosena, .ref mtimesa, .ref mrestsa, .ref mbeforea, .int (0 : Int32), .int mfrom, .int mreason, .int mcause, .int morders, .int mkind, .ref mtolda])), (msa, .inl (cI, 580, .inl ms)), (mpasta, .inl (cI, 2320, .inl mpast)), (mhelda, .inl (cI, 580, .inl mheld)), (mtexta, .inl (cI, 60, .inl mtext)), (mchosena, .inl (cI, 12, .inl mchosen)), (mtimesa, .inl (cI, 12, .inl mtimes)), (mrestsa, .inl (cJ, 12, .inr (.inl mrests))), (mbeforea, .inl (cI, 12, .inl mbefore)), (mtolda, .inl (cI, 2, .inl mtold))] H := hP
  replace hD : va_D A [(mself, .inr (7, [.ref msa, .ref mpasta, .ref mhelda, .int mpasts, .int (1 : Int32), .ref mtexta, .int mtyped, .ref mchosena, .ref mtimesa, .ref mrestsa, .ref mbeforea, .int (0 : Int32), .int mfrom, .int mreason, .int mcause, .int morders, .int mkind, .ref mtolda])), (msa, .inl (cI, 580, .inl ms)), (mpasta, .inl (cI, 2320, .inl mpast)), (mhelda, .inl (cI, 580, .inl mheld)), (mtexta, .inl (cI, 60, .inl mtext)), (mchosena, .inl (cI, 12, .inl mchosen)), (mtimesa, .inl (cI, 12, .inl mtimes)), (mrestsa, .inl (cJ, 12, .inr (.inl mrests))), (mbeforea, .inl (cI, 12, .inl mbefore)), (mtolda, .inl (cI, 2, .inl mtold))] := hD
  refine lv_aload_n (pc := 10) hx hb dX7_plays_10 rfl (lv_at hl 0 rfl) ?_
  refine lv_iconst (v := 0) (pc := 11) hx hb dX7_plays_11 (by decide) ?_
  refine va_put (pc := 12) (D := D) (ci := 7) (v := .int (0 : Int32)) (ty := .int) (C := RX7) (T := TX7) (N := 18) hx hb hts hnX7 tyX7 tyX7_ok nmX7 hown hK.1 hP hD hS 0 rfl rfl 12 (Nat.le_of_ble_eq_true rfl) hk726 (fun _ h9 => h9) rfl (by decide +kernel) rfl rfl (Nat.le_of_ble_eq_true rfl) dX7_plays_12 (fun H locs hP hD hS => ?_)
  replace hP : va_P D vwCl [(mself, .inr (7, [.ref msa, .ref mpasta, .ref mhelda, .int mpasts, .int (1 : Int32), .ref mtexta, .int mtyped, .ref mchosena, .ref mtimesa, .ref mrestsa, .ref mbeforea, .int (0 : Int32), .int (0 : Int32), .int mreason, .int mcause, .int morders, .int mkind, .ref mtolda])), (msa, .inl (cI, 580, .inl ms)), (mpasta, .inl (cI, 2320, .inl mpast)), (mhelda, .inl (cI, 580, .inl mheld)), (mtexta, .inl (cI, 60, .inl mtext)), (mchosena, .inl (cI, 12, .inl mchosen)), (mtimesa, .inl (cI, 12, .inl mtimes)), (mrestsa, .inl (cJ, 12, .inr (.inl mrests))), (mbeforea, .inl (cI, 12, .inl mbefore)), (mtolda, .inl (cI, 2, .inl mtold))] H := hP
  replace hD : va_D A [(mself, .inr (7, [.ref msa, .ref mpasta, .ref mhelda, .int mpasts, .int (1 : Int32), .ref mtexta, .int mtyped, .ref mchosena, .ref mtimesa, .ref mrestsa, .ref mbeforea, .int (0 : Int32), .int (0 : Int32), .int mreason, .int mcause, .int morders, .int mkind, .ref mtolda])), (msa, .inl (cI, 580, .inl ms)), (mpasta, .inl (cI, 2320, .inl mpast)), (mhelda, .inl (cI, 580, .inl mheld)), (mtexta, .inl (cI, 60, .inl mtext)), (mchosena, .inl (cI, 12, .inl mchosen)), (mtimesa, .inl (cI, 12, .inl mtimes)), (mrestsa, .inl (cJ, 12, .inr (.inl mrests))), (mbeforea, .inl (cI, 12, .inl mbefore)), (mtolda, .inl (cI, 2, .inl mtold))] := hD
  refine lv_aload_n (pc := 15) hx hb dX7_plays_15 rfl (lv_at hl 0 rfl) ?_
  refine lv_iconst (v := 0) (pc := 16) hx hb dX7_plays_16 (by decide) ?_
  refine va_put (pc := 17) (D := D) (ci := 7) (v := .int (0 : Int32)) (ty := .int) (C := RX7) (T := TX7) (N := 18) hx hb hts hnX7 tyX7 tyX7_ok nmX7 hown hK.1 hP hD hS 0 rfl rfl 15 (Nat.le_of_ble_eq_true rfl) hk737 (fun _ h9 => h9) rfl (by decide +kernel) rfl rfl (Nat.le_of_ble_eq_true rfl) dX7_plays_17 (fun H locs hP hD hS => ?_)
  replace hP : va_P D vwCl [(mself, .inr (7, [.ref msa, .ref mpasta, .ref mhelda, .int mpasts, .int (1 : Int32), .ref mtexta, .int mtyped, .ref mchosena, .ref mtimesa, .ref mrestsa, .ref mbeforea, .int (0 : Int32), .int (0 : Int32), .int mreason, .int mcause, .int (0 : Int32), .int mkind, .ref mtolda])), (msa, .inl (cI, 580, .inl ms)), (mpasta, .inl (cI, 2320, .inl mpast)), (mhelda, .inl (cI, 580, .inl mheld)), (mtexta, .inl (cI, 60, .inl mtext)), (mchosena, .inl (cI, 12, .inl mchosen)), (mtimesa, .inl (cI, 12, .inl mtimes)), (mrestsa, .inl (cJ, 12, .inr (.inl mrests))), (mbeforea, .inl (cI, 12, .inl mbefore)), (mtolda, .inl (cI, 2, .inl mtold))] H := hP
  replace hD : va_D A [(mself, .inr (7, [.ref msa, .ref mpasta, .ref mhelda, .int mpasts, .int (1 : Int32), .ref mtexta, .int mtyped, .ref mchosena, .ref mtimesa, .ref mrestsa, .ref mbeforea, .int (0 : Int32), .int (0 : Int32), .int mreason, .int mcause, .int (0 : Int32), .int mkind, .ref mtolda])), (msa, .inl (cI, 580, .inl ms)), (mpasta, .inl (cI, 2320, .inl mpast)), (mhelda, .inl (cI, 580, .inl mheld)), (mtexta, .inl (cI, 60, .inl mtext)), (mchosena, .inl (cI, 12, .inl mchosen)), (mtimesa, .inl (cI, 12, .inl mtimes)), (mrestsa, .inl (cJ, 12, .inr (.inl mrests))), (mbeforea, .inl (cI, 12, .inl mbefore)), (mtolda, .inl (cI, 2, .inl mtold))] := hD
  refine lv_iconst (v := 1) (pc := 20) hx hb dX7_plays_20 (by decide) ?_
  refine lv_istore_n (lv' := [(1, .int (1 : Int32)), (0, .ref mself)]) (pc := 21) hx hb dX7_plays_21 rfl hl (by decide) rfl (fun ls hl => ?_)
  refine am_join15_s (fun (x1 : Int32) (u2 : Int32) (u3 : Int32) (u4 : Int32) (u5 : Int32) (u6 : Int32) (u7 : Int32) (u8 : Int32) (f9 : Nat → Int32) (f10 : Nat → Int32) (f11 : Nat → Int32) (f12 : Nat → Int32) (f13 : Nat → Int64) (f14 : Nat → Int32) (f15 : Nat → Int32) => ∀ (ls : Array Slot), lv_has ls 4 [(0, .ref mself), (1, .int x1)] → ∀ (H : Heap) (locs : List Loc), va_P D vwCl [(mself, .inr (7, [.ref msa, .ref mpasta, .ref mhelda, .int u2, .int (1 : Int32), .ref mtexta, .int mtyped, .ref mchosena, .ref mtimesa, .ref mrestsa, .ref mbeforea, .int u3, .int u4, .int u5, .int u6, .int u7, .int u8, .ref mtolda])), (msa, .inl (cI, 580, .inl f9)), (mpasta, .inl (cI, 2320, .inl f10)), (mhelda, .inl (cI, 580, .inl mheld)), (mtexta, .inl (cI, 60, .inl mtext)), (mchosena, .inl (cI, 12, .inl f11)), (mtimesa, .inl (cI, 12, .inl f12)), (mrestsa, .inl (cJ, 12, .inr (.inl f13))), (mbeforea, .inl (cI, 12, .inl f14)), (mtolda, .inl (cI, 2, .inl f15))] H → va_D A [(mself, .inr (7, [.ref msa, .ref mpasta, .ref mhelda, .int u2, .int (1 : Int32), .ref mtexta, .int mtyped, .ref mchosena, .ref mtimesa, .ref mrestsa, .ref mbeforea, .int u3, .int u4, .int u5, .int u6, .int u7, .int u8, .ref mtolda])), (msa, .inl (cI, 580, .inl f9)), (mpasta, .inl (cI, 2320, .inl f10)), (mhelda, .inl (cI, 580, .inl mheld)), (mtexta, .inl (cI, 60, .inl mtext)), (mchosena, .inl (cI, 12, .inl f11)), (mtimesa, .inl (cI, 12, .inl f12)), (mrestsa, .inl (cJ, 12, .inr (.inl f13))), (mbeforea, .inl (cI, 12, .inl f14)), (mtolda, .inl (cI, 2, .inl f15))] → va_S A s.heap H locs → W p l e rmX7_plays s m args below meth c H locs 0 0 Q (F0 m 124 ls [])) h (fun x1 u2 u3 u4 u5 u6 u7 u8 f9 f10 f11 f12 f13 f14 f15 h ls hl H locs hP hD hS => ?_) (fun K16 hK16 h => ?_)
  · refine lv_aload_n (pc := 124) hx hb dX7_plays_124 rfl (lv_at hl 0 rfl) ?_
    refine lv_iconst (v := 0) (pc := 125) hx hb dX7_plays_125 (by decide) ?_
    refine va_put (pc := 126) (D := D) (ci := 7) (v := .int (0 : Int32)) (ty := .boolean) (C := RX7) (T := TX7) (N := 18) hx hb hts hnX7 tyX7 tyX7_ok nmX7 hown hK.1 hP hD hS 0 rfl rfl 4 (Nat.le_of_ble_eq_true rfl) hk183 (fun _ h9 => h9) rfl (by decide +kernel) rfl rfl (Nat.le_of_ble_eq_true rfl) dX7_plays_126 (fun H locs hP hD hS => ?_)
    replace hP : va_P D vwCl [(mself, .inr (7, [.ref msa, .ref mpasta, .ref mhelda, .int u2, .int (0 : Int32), .ref mtexta, .int mtyped, .ref mchosena, .ref mtimesa, .ref mrestsa, .ref mbeforea, .int u3, .int u4, .int u5, .int u6, .int u7, .int u8, .ref mtolda])), (msa, .inl (cI, 580, .inl f9)), (mpasta, .inl (cI, 2320, .inl f10)), (mhelda, .inl (cI, 580, .inl mheld)), (mtexta, .inl (cI, 60, .inl mtext)), (mchosena, .inl (cI, 12, .inl f11)), (mtimesa, .inl (cI, 12, .inl f12)), (mrestsa, .inl (cJ, 12, .inr (.inl f13))), (mbeforea, .inl (cI, 12, .inl f14)), (mtolda, .inl (cI, 2, .inl f15))] H := hP
    replace hD : va_D A [(mself, .inr (7, [.ref msa, .ref mpasta, .ref mhelda, .int u2, .int (0 : Int32), .ref mtexta, .int mtyped, .ref mchosena, .ref mtimesa, .ref mrestsa, .ref mbeforea, .int u3, .int u4, .int u5, .int u6, .int u7, .int u8, .ref mtolda])), (msa, .inl (cI, 580, .inl f9)), (mpasta, .inl (cI, 2320, .inl f10)), (mhelda, .inl (cI, 580, .inl mheld)), (mtexta, .inl (cI, 60, .inl mtext)), (mchosena, .inl (cI, 12, .inl f11)), (mtimesa, .inl (cI, 12, .inl f12)), (mrestsa, .inl (cJ, 12, .inr (.inl f13))), (mbeforea, .inl (cI, 12, .inl f14)), (mtolda, .inl (cI, 2, .inl f15))] := hD
    refine lv_iload_n (pc := 129) hx hb dX7_plays_129 rfl (lv_at hl 1 rfl) ?_
    obtain ⟨hbo, h⟩ := am_bool_s h
    obtain ⟨e1, e2, e3, e4, e5, e6, e7, e8, e9, e10, e11, e12, e13, e14, e15, e16⟩ := am_ret16 h
    exact hret _ _ _ _ _ dX7_plays_130 (am_bool_n hbo) e1 (by rw [← e2, ← e3, ← e4, ← e5, ← e6, ← e7, ← e8, ← e9, ← e10, ← e11, ← e12, ← e13, ← e14, ← e15, ← e16]; exact hP) hS
  refine am_loop15_s (fun (x17 : Int32) (u18 : Int32) (u19 : Int32) (u20 : Int32) (u21 : Int32) (u22 : Int32) (u23 : Int32) (u24 : Int32) (f25 : Nat → Int32) (f26 : Nat → Int32) (f27 : Nat → Int32) (f28 : Nat → Int32) (f29 : Nat → Int64) (f30 : Nat → Int32) (f31 : Nat → Int32) => ∀ (ls : Array Slot), lv_has ls 4 [(0, .ref mself), (1, .int x17)] → ∀ (H : Heap) (locs : List Loc), va_P D vwCl [(mself, .inr (7, [.ref msa, .ref mpasta, .ref mhelda, .int u18, .int (1 : Int32), .ref mtexta, .int mtyped, .ref mchosena, .ref mtimesa, .ref mrestsa, .ref mbeforea, .int u19, .int u20, .int u21, .int u22, .int u23, .int u24, .ref mtolda])), (msa, .inl (cI, 580, .inl f25)), (mpasta, .inl (cI, 2320, .inl f26)), (mhelda, .inl (cI, 580, .inl mheld)), (mtexta, .inl (cI, 60, .inl mtext)), (mchosena, .inl (cI, 12, .inl f27)), (mtimesa, .inl (cI, 12, .inl f28)), (mrestsa, .inl (cJ, 12, .inr (.inl f29))), (mbeforea, .inl (cI, 12, .inl f30)), (mtolda, .inl (cI, 2, .inl f31))] H → va_D A [(mself, .inr (7, [.ref msa, .ref mpasta, .ref mhelda, .int u18, .int (1 : Int32), .ref mtexta, .int mtyped, .ref mchosena, .ref mtimesa, .ref mrestsa, .ref mbeforea, .int u19, .int u20, .int u21, .int u22, .int u23, .int u24, .ref mtolda])), (msa, .inl (cI, 580, .inl f25)), (mpasta, .inl (cI, 2320, .inl f26)), (mhelda, .inl (cI, 580, .inl mheld)), (mtexta, .inl (cI, 60, .inl mtext)), (mchosena, .inl (cI, 12, .inl f27)), (mtimesa, .inl (cI, 12, .inl f28)), (mrestsa, .inl (cJ, 12, .inr (.inl f29))), (mbeforea, .inl (cI, 12, .inl f30)), (mtolda, .inl (cI, 2, .inl f31))] → va_S A s.heap H locs → W p l e rmX7_plays s m args below meth c H locs 0 0 Q (F0 m 22 ls [])) (fun rec32 ihrec32 x17 u18 u19 u20 u21 u22 u23 u24 f25 f26 f27 f28 f29 f30 f31 h ls hl H locs hP hD hS => ?_) _ _ _ _ _ _ _ _ _ _ _ _ _ _ _ _ h ls (lv_sub hl [1, 0] rfl) H locs hP hD hS
  unfold F_X7_plays_B22 at h
  refine lv_aload_n (pc := 22) hx hb dX7_plays_22 rfl (lv_at hl 0 rfl) ?_
  refine va_get (pc := 23) (D := D) (ci := 7) (v := .int u19) (C := RX7) (T := TX7) (N := 18) hx hb hts hnX7 hown hK.1 hP 0 rfl rfl 11 (Nat.le_of_ble_eq_true rfl) hk736 (fun _ h9 => h9) rfl dX7_plays_23 ?_
  refine lv_aload_n (pc := 26) hx hb dX7_plays_26 rfl (lv_at hl 0 rfl) ?_
  refine va_get (pc := 27) (D := D) (ci := 7) (v := .int mtyped) (C := RX7) (T := TX7) (N := 18) hx hb hts hnX7 hown hK.1 hP 0 rfl rfl 6 (Nat.le_of_ble_eq_true rfl) hk635 (fun _ h9 => h9) rfl dX7_plays_27 ?_
  refine lv_icmp_ge (pc := 30) (tgt := 124) hx hb dX7_plays_30 (by decide) (fun cc => ?_) (fun cc => ?_)
  · replace h := am_t cc h
    exact hK16 _ _ _ _ _ _ _ _ _ _ _ _ _ _ _ h ls (lv_sub hl [0, 1] rfl) H locs hP hD hS
  replace h := am_f cc h
  refine lv_iload_n (pc := 33) hx hb dX7_plays_33 rfl (lv_at hl 1 rfl) ?_
  refine lv_if_eq (pc := 34) (tgt := 124) hx hb dX7_plays_34 (by decide) (fun cc => ?_) (fun cc => ?_)
  · replace h := am_t cc h
    exact hK16 _ _ _ _ _ _ _ _ _ _ _ _ _ _ _ h ls (lv_sub hl [0, 1] rfl) H locs hP hD hS
  replace h := am_f cc h
  refine lv_aload_n (pc := 37) hx hb dX7_plays_37 rfl (lv_at hl 0 rfl) ?_
  refine lv_aload_n (pc := 38) hx hb dX7_plays_38 rfl (lv_at hl 0 rfl) ?_
  refine va_get (pc := 39) (D := D) (ci := 7) (v := .int u19) (C := RX7) (T := TX7) (N := 18) hx hb hts hnX7 hown hK.1 hP 0 rfl rfl 11 (Nat.le_of_ble_eq_true rfl) hk736 (fun _ h9 => h9) rfl dX7_plays_39 ?_
  refine va_put (pc := 42) (D := D) (ci := 7) (v := .int u19) (ty := .int) (C := RX7) (T := TX7) (N := 18) hx hb hts hnX7 tyX7 tyX7_ok nmX7 hown hK.1 hP hD hS 0 rfl rfl 12 (Nat.le_of_ble_eq_true rfl) hk726 (fun _ h9 => h9) rfl (by decide +kernel) rfl rfl (Nat.le_of_ble_eq_true rfl) dX7_plays_42 (fun H locs hP hD hS => ?_)
  replace hP : va_P D vwCl [(mself, .inr (7, [.ref msa, .ref mpasta, .ref mhelda, .int u18, .int (1 : Int32), .ref mtexta, .int mtyped, .ref mchosena, .ref mtimesa, .ref mrestsa, .ref mbeforea, .int u19, .int u19, .int u21, .int u22, .int u23, .int u24, .ref mtolda])), (msa, .inl (cI, 580, .inl f25)), (mpasta, .inl (cI, 2320, .inl f26)), (mhelda, .inl (cI, 580, .inl mheld)), (mtexta, .inl (cI, 60, .inl mtext)), (mchosena, .inl (cI, 12, .inl f27)), (mtimesa, .inl (cI, 12, .inl f28)), (mrestsa, .inl (cJ, 12, .inr (.inl f29))), (mbeforea, .inl (cI, 12, .inl f30)), (mtolda, .inl (cI, 2, .inl f31))] H := hP
  replace hD : va_D A [(mself, .inr (7, [.ref msa, .ref mpasta, .ref mhelda, .int u18, .int (1 : Int32), .ref mtexta, .int mtyped, .ref mchosena, .ref mtimesa, .ref mrestsa, .ref mbeforea, .int u19, .int u19, .int u21, .int u22, .int u23, .int u24, .ref mtolda])), (msa, .inl (cI, 580, .inl f25)), (mpasta, .inl (cI, 2320, .inl f26)), (mhelda, .inl (cI, 580, .inl mheld)), (mtexta, .inl (cI, 60, .inl mtext)), (mchosena, .inl (cI, 12, .inl f27)), (mtimesa, .inl (cI, 12, .inl f28)), (mrestsa, .inl (cJ, 12, .inr (.inl f29))), (mbeforea, .inl (cI, 12, .inl f30)), (mtolda, .inl (cI, 2, .inl f31))] := hD
  refine lv_aload_n (pc := 45) hx hb dX7_plays_45 rfl (lv_at hl 0 rfl) ?_
  obtain ⟨r33, u34, u35, f36, hc36, h⟩ := am_call4_s h
  refine kc_Wi (pc := 46) (ci := 7) ⟨hx, hb, hml, hown, hts⟩ hP hK hD hS hA [] (c_X7_reads l D cI cJ mself msa mpasta mhelda mtexta mchosena mtimesa mrestsa mbeforea mtolda u18 (1 : Int32) mtyped u19 u19 u21 u22 u23 u24 f25 f26 mheld mtext f27 f28 f29 f30 f31 r33 u34 u35 f36 hc36 _) [0, 1, 2, 3, 4, 5, 6, 7, 8, 9] rfl rfl rfl (cwV 0 hts (gzV wl738 wl739 wl740 wl5 wl741) rfl rfl rfl ⟨rfl, hdX7_reads⟩ ⟨Nat.le_of_ble_eq_true rfl, Nat.le_of_ble_eq_true rfl⟩) rfl rfl [] rfl hl.1 rfl (Nat.le_of_ble_eq_true rfl) dX7_plays_46 ⟨Nat.zero_le _, Nat.zero_le _⟩ (fun H locs hP hD hS => ?_)
  replace hP : va_P D vwCl [(mself, .inr (7, [.ref msa, .ref mpasta, .ref mhelda, .int u18, .int (1 : Int32), .ref mtexta, .int mtyped, .ref mchosena, .ref mtimesa, .ref mrestsa, .ref mbeforea, .int u34, .int u19, .int u21, .int u22, .int u23, .int u35, .ref mtolda])), (msa, .inl (cI, 580, .inl f25)), (mpasta, .inl (cI, 2320, .inl f26)), (mhelda, .inl (cI, 580, .inl mheld)), (mtexta, .inl (cI, 60, .inl mtext)), (mchosena, .inl (cI, 12, .inl f27)), (mtimesa, .inl (cI, 12, .inl f28)), (mrestsa, .inl (cJ, 12, .inr (.inl f29))), (mbeforea, .inl (cI, 12, .inl f30)), (mtolda, .inl (cI, 2, .inl f36))] H := hP
  replace hD : va_D A [(mself, .inr (7, [.ref msa, .ref mpasta, .ref mhelda, .int u18, .int (1 : Int32), .ref mtexta, .int mtyped, .ref mchosena, .ref mtimesa, .ref mrestsa, .ref mbeforea, .int u34, .int u19, .int u21, .int u22, .int u23, .int u35, .ref mtolda])), (msa, .inl (cI, 580, .inl f25)), (mpasta, .inl (cI, 2320, .inl f26)), (mhelda, .inl (cI, 580, .inl mheld)), (mtexta, .inl (cI, 60, .inl mtext)), (mchosena, .inl (cI, 12, .inl f27)), (mtimesa, .inl (cI, 12, .inl f28)), (mrestsa, .inl (cJ, 12, .inr (.inl f29))), (mbeforea, .inl (cI, 12, .inl f30)), (mtolda, .inl (cI, 2, .inl f36))] := hD
  refine lv_istore_n (lv' := [(2, .int r33), (0, .ref mself), (1, .int x17)]) (pc := 49) hx hb dX7_plays_49 rfl hl (by decide) rfl (fun ls hl => ?_)
  refine lv_iload_n (pc := 50) hx hb dX7_plays_50 rfl (lv_at hl 0 rfl) ?_
  refine am_join8_s (fun (j37 : Int32) (u38 : Int32) (f39 : Nat → Int32) (f40 : Nat → Int32) (f41 : Nat → Int32) (f42 : Nat → Int32) (f43 : Nat → Int64) (f44 : Nat → Int32) => ∀ (ls : Array Slot), lv_has ls 4 [(0, .ref mself), (2, .int r33)] → ∀ (H : Heap) (locs : List Loc), va_P D vwCl [(mself, .inr (7, [.ref msa, .ref mpasta, .ref mhelda, .int u38, .int (1 : Int32), .ref mtexta, .int mtyped, .ref mchosena, .ref mtimesa, .ref mrestsa, .ref mbeforea, .int u34, .int u19, .int u21, .int u22, .int u23, .int u35, .ref mtolda])), (msa, .inl (cI, 580, .inl f39)), (mpasta, .inl (cI, 2320, .inl f40)), (mhelda, .inl (cI, 580, .inl mheld)), (mtexta, .inl (cI, 60, .inl mtext)), (mchosena, .inl (cI, 12, .inl f41)), (mtimesa, .inl (cI, 12, .inl f42)), (mrestsa, .inl (cJ, 12, .inr (.inl f43))), (mbeforea, .inl (cI, 12, .inl f44)), (mtolda, .inl (cI, 2, .inl f36))] H → va_D A [(mself, .inr (7, [.ref msa, .ref mpasta, .ref mhelda, .int u38, .int (1 : Int32), .ref mtexta, .int mtyped, .ref mchosena, .ref mtimesa, .ref mrestsa, .ref mbeforea, .int u34, .int u19, .int u21, .int u22, .int u23, .int u35, .ref mtolda])), (msa, .inl (cI, 580, .inl f39)), (mpasta, .inl (cI, 2320, .inl f40)), (mhelda, .inl (cI, 580, .inl mheld)), (mtexta, .inl (cI, 60, .inl mtext)), (mchosena, .inl (cI, 12, .inl f41)), (mtimesa, .inl (cI, 12, .inl f42)), (mrestsa, .inl (cJ, 12, .inr (.inl f43))), (mbeforea, .inl (cI, 12, .inl f44)), (mtolda, .inl (cI, 2, .inl f36))] → va_S A s.heap H locs → W p l e rmX7_plays s m args below meth c H locs 0 0 Q (F0 m 62 ls [.int j37])) h (fun j37 u38 f39 f40 f41 f42 f43 f44 h ls hl H locs hP hD hS => ?_) (fun J45 hJ45 h => ?_)
  · refine lv_istore_n (lv' := [(3, .int j37), (0, .ref mself), (2, .int r33)]) (pc := 62) hx hb dX7_plays_62 rfl hl (by decide) rfl (fun ls hl => ?_)
    refine lv_iload_n (pc := 63) hx hb dX7_plays_63 rfl (lv_at hl 2 rfl) ?_
    refine am_join1_s (fun (j46 : Int32) => ∀ (ls : Array Slot), lv_has ls 4 [(0, .ref mself), (2, .int r33), (3, .int j37)] → W p l e rmX7_plays s m args below meth c H locs 0 0 Q (F0 m 76 ls [.int j46])) h (fun j46 h ls hl => ?_) (fun J47 hJ47 h => ?_)
    · refine lv_istore_n (lv' := [(1, .int j46), (0, .ref mself), (2, .int r33), (3, .int j37)]) (pc := 76) hx hb dX7_plays_76 rfl hl (by decide) rfl (fun ls hl => ?_)
      refine lv_aload_n (pc := 77) hx hb dX7_plays_77 rfl (lv_at hl 1 rfl) ?_
      refine lv_iload_n (pc := 78) hx hb dX7_plays_78 rfl (lv_at hl 2 rfl) ?_
      refine am_join1_s (fun (j48 : Int32) => ∀ (ls : Array Slot), lv_has ls 4 [(0, .ref mself), (1, .int j46), (2, .int r33), (3, .int j37)] → W p l e rmX7_plays s m args below meth c H locs 0 0 Q (F0 m 87 ls [.int j48, .ref mself])) h (fun j48 h ls hl => ?_) (fun J49 hJ49 h => ?_)
      · refine va_put (pc := 87) (D := D) (ci := 7) (v := .int j48) (ty := .int) (C := RX7) (T := TX7) (N := 18) hx hb hts hnX7 tyX7 tyX7_ok nmX7 hown hK.1 hP hD hS 0 rfl rfl 13 (Nat.le_of_ble_eq_true rfl) hk727 (fun _ h9 => h9) rfl (by decide +kernel) rfl rfl (Nat.le_of_ble_eq_true rfl) dX7_plays_87 (fun H locs hP hD hS => ?_)
        replace hP : va_P D vwCl [(mself, .inr (7, [.ref msa, .ref mpasta, .ref mhelda, .int u38, .int (1 : Int32), .ref mtexta, .int mtyped, .ref mchosena, .ref mtimesa, .ref mrestsa, .ref mbeforea, .int u34, .int u19, .int j48, .int u22, .int u23, .int u35, .ref mtolda])), (msa, .inl (cI, 580, .inl f39)), (mpasta, .inl (cI, 2320, .inl f40)), (mhelda, .inl (cI, 580, .inl mheld)), (mtexta, .inl (cI, 60, .inl mtext)), (mchosena, .inl (cI, 12, .inl f41)), (mtimesa, .inl (cI, 12, .inl f42)), (mrestsa, .inl (cJ, 12, .inr (.inl f43))), (mbeforea, .inl (cI, 12, .inl f44)), (mtolda, .inl (cI, 2, .inl f36))] H := hP
        replace hD : va_D A [(mself, .inr (7, [.ref msa, .ref mpasta, .ref mhelda, .int u38, .int (1 : Int32), .ref mtexta, .int mtyped, .ref mchosena, .ref mtimesa, .ref mrestsa, .ref mbeforea, .int u34, .int u19, .int j48, .int u22, .int u23, .int u35, .ref mtolda])), (msa, .inl (cI, 580, .inl f39)), (mpasta, .inl (cI, 2320, .inl f40)), (mhelda, .inl (cI, 580, .inl mheld)), (mtexta, .inl (cI, 60, .inl mtext)), (mchosena, .inl (cI, 12, .inl f41)), (mtimesa, .inl (cI, 12, .inl f42)), (mrestsa, .inl (cJ, 12, .inr (.inl f43))), (mbeforea, .inl (cI, 12, .inl f44)), (mtolda, .inl (cI, 2, .inl f36))] := hD
        refine lv_aload_n (pc := 90) hx hb dX7_plays_90 rfl (lv_at hl 0 rfl) ?_
        refine lv_iload_n (pc := 91) hx hb dX7_plays_91 rfl (lv_at hl 2 rfl) ?_
        refine am_join1_s (fun (j50 : Int32) => ∀ (ls : Array Slot), lv_has ls 4 [(0, .ref mself), (1, .int j46)] → W p l e rmX7_plays s m args below meth c H locs 0 0 Q (F0 m 108 ls [.int j50, .ref mself])) h (fun j50 h ls hl => ?_) (fun J51 hJ51 h => ?_)
        · refine va_put (pc := 108) (D := D) (ci := 7) (v := .int j50) (ty := .int) (C := RX7) (T := TX7) (N := 18) hx hb hts hnX7 tyX7 tyX7_ok nmX7 hown hK.1 hP hD hS 0 rfl rfl 14 (Nat.le_of_ble_eq_true rfl) hk728 (fun _ h9 => h9) rfl (by decide +kernel) rfl rfl (Nat.le_of_ble_eq_true rfl) dX7_plays_108 (fun H locs hP hD hS => ?_)
          replace hP : va_P D vwCl [(mself, .inr (7, [.ref msa, .ref mpasta, .ref mhelda, .int u38, .int (1 : Int32), .ref mtexta, .int mtyped, .ref mchosena, .ref mtimesa, .ref mrestsa, .ref mbeforea, .int u34, .int u19, .int j48, .int j50, .int u23, .int u35, .ref mtolda])), (msa, .inl (cI, 580, .inl f39)), (mpasta, .inl (cI, 2320, .inl f40)), (mhelda, .inl (cI, 580, .inl mheld)), (mtexta, .inl (cI, 60, .inl mtext)), (mchosena, .inl (cI, 12, .inl f41)), (mtimesa, .inl (cI, 12, .inl f42)), (mrestsa, .inl (cJ, 12, .inr (.inl f43))), (mbeforea, .inl (cI, 12, .inl f44)), (mtolda, .inl (cI, 2, .inl f36))] H := hP
          replace hD : va_D A [(mself, .inr (7, [.ref msa, .ref mpasta, .ref mhelda, .int u38, .int (1 : Int32), .ref mtexta, .int mtyped, .ref mchosena, .ref mtimesa, .ref mrestsa, .ref mbeforea, .int u34, .int u19, .int j48, .int j50, .int u23, .int u35, .ref mtolda])), (msa, .inl (cI, 580, .inl f39)), (mpasta, .inl (cI, 2320, .inl f40)), (mhelda, .inl (cI, 580, .inl mheld)), (mtexta, .inl (cI, 60, .inl mtext)), (mchosena, .inl (cI, 12, .inl f41)), (mtimesa, .inl (cI, 12, .inl f42)), (mrestsa, .inl (cJ, 12, .inr (.inl f43))), (mbeforea, .inl (cI, 12, .inl f44)), (mtolda, .inl (cI, 2, .inl f36))] := hD
          refine lv_aload_n (pc := 111) hx hb dX7_plays_111 rfl (lv_at hl 0 rfl) ?_
          refine lv_dup (pc := 112) hx hb dX7_plays_112 rfl ?_
          refine va_get (pc := 113) (D := D) (ci := 7) (v := .int u23) (C := RX7) (T := TX7) (N := 18) hx hb hts hnX7 hown hK.1 hP 0 rfl rfl 15 (Nat.le_of_ble_eq_true rfl) hk737 (fun _ h9 => h9) rfl dX7_plays_113 ?_
          refine lv_iconst (v := 1) (pc := 116) hx hb dX7_plays_116 (by decide) ?_
          refine lv_iadd (pc := 117) hx hb dX7_plays_117 ?_
          refine lv_topi (fun x52 ex52 => ?_)
          replace h := am_let_s ex52 h
          refine va_put (pc := 118) (D := D) (ci := 7) (v := .int x52) (ty := .int) (C := RX7) (T := TX7) (N := 18) hx hb hts hnX7 tyX7 tyX7_ok nmX7 hown hK.1 hP hD hS 0 rfl rfl 15 (Nat.le_of_ble_eq_true rfl) hk737 (fun _ h9 => h9) rfl (by decide +kernel) rfl rfl (Nat.le_of_ble_eq_true rfl) dX7_plays_118 (fun H locs hP hD hS => ?_)
          replace hP : va_P D vwCl [(mself, .inr (7, [.ref msa, .ref mpasta, .ref mhelda, .int u38, .int (1 : Int32), .ref mtexta, .int mtyped, .ref mchosena, .ref mtimesa, .ref mrestsa, .ref mbeforea, .int u34, .int u19, .int j48, .int j50, .int x52, .int u35, .ref mtolda])), (msa, .inl (cI, 580, .inl f39)), (mpasta, .inl (cI, 2320, .inl f40)), (mhelda, .inl (cI, 580, .inl mheld)), (mtexta, .inl (cI, 60, .inl mtext)), (mchosena, .inl (cI, 12, .inl f41)), (mtimesa, .inl (cI, 12, .inl f42)), (mrestsa, .inl (cJ, 12, .inr (.inl f43))), (mbeforea, .inl (cI, 12, .inl f44)), (mtolda, .inl (cI, 2, .inl f36))] H := hP
          replace hD : va_D A [(mself, .inr (7, [.ref msa, .ref mpasta, .ref mhelda, .int u38, .int (1 : Int32), .ref mtexta, .int mtyped, .ref mchosena, .ref mtimesa, .ref mrestsa, .ref mbeforea, .int u34, .int u19, .int j48, .int j50, .int x52, .int u35, .ref mtolda])), (msa, .inl (cI, 580, .inl f39)), (mpasta, .inl (cI, 2320, .inl f40)), (mhelda, .inl (cI, 580, .inl mheld)), (mtexta, .inl (cI, 60, .inl mtext)), (mchosena, .inl (cI, 12, .inl f41)), (mtimesa, .inl (cI, 12, .inl f42)), (mrestsa, .inl (cJ, 12, .inr (.inl f43))), (mbeforea, .inl (cI, 12, .inl f44)), (mtolda, .inl (cI, 2, .inl f36))] := hD
          refine lv_goto (pc := 121) (tgt := 22) hx hb dX7_plays_121 (by decide) ?_
          exact ihrec32 _ _ _ _ _ _ _ _ _ _ _ _ _ _ _ h ls (lv_sub hl [0, 1] rfl) H locs hP hD hS
        refine lv_if_eq (pc := 92) (tgt := 99) hx hb dX7_plays_92 (by decide) (fun cc => ?_) (fun cc => ?_)
        · replace h := am_t cc h
          refine lv_aload_n (pc := 99) hx hb dX7_plays_99 rfl (lv_at hl 0 rfl) ?_
          refine va_get (pc := 100) (D := D) (ci := 7) (v := .int u34) (C := RX7) (T := TX7) (N := 18) hx hb hts hnX7 hown hK.1 hP 0 rfl rfl 11 (Nat.le_of_ble_eq_true rfl) hk736 (fun _ h9 => h9) rfl dX7_plays_100 ?_
          refine lv_aload_n (pc := 103) hx hb dX7_plays_103 rfl (lv_at hl 0 rfl) ?_
          refine va_get (pc := 104) (D := D) (ci := 7) (v := .int u19) (C := RX7) (T := TX7) (N := 18) hx hb hts hnX7 hown hK.1 hP 0 rfl rfl 12 (Nat.le_of_ble_eq_true rfl) hk726 (fun _ h9 => h9) rfl dX7_plays_104 ?_
          refine lv_isub (pc := 107) hx hb dX7_plays_107 ?_
          exact hJ51 _ h ls (lv_sub hl [0, 1] rfl)
        replace h := am_f cc h
        refine lv_iload_n (pc := 95) hx hb dX7_plays_95 rfl (lv_at hl 3 rfl) ?_
        refine lv_goto (pc := 96) (tgt := 108) hx hb dX7_plays_96 (by decide) ?_
        exact hJ51 _ h ls (lv_sub hl [0, 1] rfl)
      refine lv_if_eq (pc := 79) (tgt := 86) hx hb dX7_plays_79 (by decide) (fun cc => ?_) (fun cc => ?_)
      · replace h := am_t cc h
        refine lv_iconst (v := 1) (pc := 86) hx hb dX7_plays_86 (by decide) ?_
        exact hJ49 _ h ls (lv_sub hl [1, 0, 2, 3] rfl)
      replace h := am_f cc h
      refine lv_iconst (v := 2) (pc := 82) hx hb dX7_plays_82 (by decide) ?_
      refine lv_goto (pc := 83) (tgt := 87) hx hb dX7_plays_83 (by decide) ?_
      exact hJ49 _ h ls (lv_sub hl [1, 0, 2, 3] rfl)
    refine am_join0_s (∀ (ls : Array Slot), lv_has ls 4 [(0, .ref mself), (2, .int r33), (3, .int j37)] → W p l e rmX7_plays s m args below meth c H locs 0 0 Q (F0 m 75 ls [])) h (fun h ls hl => ?_) (fun J53 hJ53 h => ?_)
    · refine lv_iconst (v := 0) (pc := 75) hx hb dX7_plays_75 (by decide) ?_
      exact hJ47 _ h ls (lv_sub hl [0, 1, 2] rfl)
    refine lv_if_eq (pc := 64) (tgt := 75) hx hb dX7_plays_64 (by decide) (fun cc => ?_) (fun cc => ?_)
    · replace h := am_t cc h
      exact hJ53 h ls (lv_sub hl [1, 2, 0] rfl)
    replace h := am_f cc h
    refine lv_iload_n (pc := 67) hx hb dX7_plays_67 rfl (lv_at hl 0 rfl) ?_
    refine lv_if_lt (pc := 68) (tgt := 75) hx hb dX7_plays_68 (by decide) (fun cc => ?_) (fun cc => ?_)
    · replace h := am_t cc h
      exact hJ53 h ls (lv_sub hl [1, 2, 0] rfl)
    replace h := am_f cc h
    refine lv_iconst (v := 1) (pc := 71) hx hb dX7_plays_71 (by decide) ?_
    refine lv_goto (pc := 72) (tgt := 76) hx hb dX7_plays_72 (by decide) ?_
    exact hJ47 _ h ls (lv_sub hl [1, 2, 0] rfl)
  refine lv_if_eq (pc := 51) (tgt := 61) hx hb dX7_plays_51 (by decide) (fun cc => ?_) (fun cc => ?_)
  · replace h := am_t cc h
    refine lv_iconst (v := 0) (pc := 61) hx hb dX7_plays_61 (by decide) ?_
    exact hJ45 _ _ _ _ _ _ _ _ h ls (lv_sub hl [1, 0] rfl) H locs hP hD hS
  replace h := am_f cc h
  refine lv_aload_n (pc := 54) hx hb dX7_plays_54 rfl (lv_at hl 1 rfl) ?_
  obtain ⟨r54, u55, f56, f57, f58, f59, f60, f61, hc61, h⟩ := am_call8_s h
  refine kc_Wi (pc := 55) (ci := 7) ⟨hx, hb, hml, hown, hts⟩ hP hK hD hS hA [] (c_X7_calls l D cI cJ mself msa mpasta mhelda mtexta mchosena mtimesa mrestsa mbeforea mtolda u18 (1 : Int32) mtyped u34 u19 u21 u22 u23 u35 f25 f26 mheld mtext f27 f28 f29 f30 f36 r54 u55 f56 f57 f58 f59 f60 f61 hc61 _) [0, 1, 2, 3, 4, 5, 6, 7, 8, 9] rfl rfl rfl (cwV 0 hts (gzV wl755 wl756 wl757 wl5 wl758) rfl rfl rfl ⟨rfl, hdX7_calls⟩ ⟨Nat.le_of_ble_eq_true rfl, Nat.le_of_ble_eq_true rfl⟩) rfl rfl [] rfl hl.1 rfl (Nat.le_of_ble_eq_true rfl) dX7_plays_55 ⟨Nat.zero_le _, Nat.zero_le _⟩ (fun H locs hP hD hS => ?_)
  replace hP : va_P D vwCl [(mself, .inr (7, [.ref msa, .ref mpasta, .ref mhelda, .int u55, .int (1 : Int32), .ref mtexta, .int mtyped, .ref mchosena, .ref mtimesa, .ref mrestsa, .ref mbeforea, .int u34, .int u19, .int u21, .int u22, .int u23, .int u35, .ref mtolda])), (msa, .inl (cI, 580, .inl f56)), (mpasta, .inl (cI, 2320, .inl f57)), (mhelda, .inl (cI, 580, .inl mheld)), (mtexta, .inl (cI, 60, .inl mtext)), (mchosena, .inl (cI, 12, .inl f58)), (mtimesa, .inl (cI, 12, .inl f59)), (mrestsa, .inl (cJ, 12, .inr (.inl f60))), (mbeforea, .inl (cI, 12, .inl f61)), (mtolda, .inl (cI, 2, .inl f36))] H := hP
  replace hD : va_D A [(mself, .inr (7, [.ref msa, .ref mpasta, .ref mhelda, .int u55, .int (1 : Int32), .ref mtexta, .int mtyped, .ref mchosena, .ref mtimesa, .ref mrestsa, .ref mbeforea, .int u34, .int u19, .int u21, .int u22, .int u23, .int u35, .ref mtolda])), (msa, .inl (cI, 580, .inl f56)), (mpasta, .inl (cI, 2320, .inl f57)), (mhelda, .inl (cI, 580, .inl mheld)), (mtexta, .inl (cI, 60, .inl mtext)), (mchosena, .inl (cI, 12, .inl f58)), (mtimesa, .inl (cI, 12, .inl f59)), (mrestsa, .inl (cJ, 12, .inr (.inl f60))), (mbeforea, .inl (cI, 12, .inl f61)), (mtolda, .inl (cI, 2, .inl f36))] := hD
  refine lv_goto (pc := 58) (tgt := 62) hx hb dX7_plays_58 (by decide) ?_
  exact hJ45 _ _ _ _ _ _ _ _ h ls (lv_sub hl [1, 0] rfl) H locs hP hD hS
theorem hdX7_fault : yX7_fault.cls ≠ "java/lang/invoke/MethodHandle" ∧ yX7_fault.cls ≠ "java/lang/invoke/VarHandle" ∧ (parseMethodDescriptor yX7_fault.desc).map (fun d => d.parameters.length) = some 1 := by decide +kernel
abbrev rmX7_fault : Room := { frames := 7, cells := 0, slots := 0, locals := 165 }
set_option maxHeartbeats 20000000 in
set_option maxRecDepth 100000 in
theorem c_X7_fault (l : Launch) (D : va_G) (cI cJ : ClassId) (mself : Nat) (msa : Nat) (mpasta : Nat) (mhelda : Nat) (mtexta : Nat) (mchosena : Nat) (mtimesa : Nat) (mrestsa : Nat) (mbeforea : Nat) (mtolda : Nat) (mpasts : Int32) (mruns : Int32) (mtyped : Int32) (mspot : Int32) (mfrom : Int32) (mreason : Int32) (mcause : Int32) (morders : Int32) (mkind : Int32) (ms : Nat → Int32) (mpast : Nat → Int32) (mheld : Nat → Int32) (mtext : Nat → Int32) (mchosen : Nat → Int32) (mtimes : Nat → Int32) (mrests : Nat → Int64) (mbefore : Nat → Int32) (mtold : Nat → Int32) (p0 : Int32) (r0 : Int32) (zmpasts : Int32) (zmruns : Int32) (zmspot : Int32) (zmfrom : Int32) (zmreason : Int32) (zmcause : Int32) (zmorders : Int32) (zmkind : Int32) (zms : Nat → Int32) (zmpast : Nat → Int32) (zmheld : Nat → Int32) (zmchosen : Nat → Int32) (zmtimes : Nat → Int32) (zmrests : Nat → Int64) (zmbefore : Nat → Int32) (zmtold : Nat → Int32) (hF : F_X7_fault mpasts mruns mtyped mspot mfrom mreason mcause morders mkind ms mpast mheld mtext mchosen mtimes mrests mbefore mtold p0 = some (r0, zmpasts, zmruns, zmspot, zmfrom, zmreason, zmcause, zmorders, zmkind, zms, zmpast, zmheld, zmchosen, zmtimes, zmrests, zmbefore, zmtold)) (sz : Nat) : Met l yX7_fault (wz yX7_fault cX7_fault 3 (some .int)) rmX7_fault (kPw D cI cJ [(mself, .inr (7, [.ref msa, .ref mpasta, .ref mhelda, .int mpasts, .int mruns, .ref mtexta, .int mtyped, .ref mchosena, .ref mtimesa, .ref mrestsa, .ref mbeforea, .int mspot, .int mfrom, .int mreason, .int mcause, .int morders, .int mkind, .ref mtolda])), (msa, .inl (cI, 580, .inl ms)), (mpasta, .inl (cI, 2320, .inl mpast)), (mhelda, .inl (cI, 580, .inl mheld)), (mtexta, .inl (cI, 60, .inl mtext)), (mchosena, .inl (cI, 12, .inl mchosen)), (mtimesa, .inl (cI, 12, .inl mtimes)), (mrestsa, .inl (cJ, 12, .inr (.inl mrests))), (mbeforea, .inl (cI, 12, .inl mbefore)), (mtolda, .inl (cI, 2, .inl mtold))] sz [.ref mself, .int p0]) (kQi D r0 [(mself, .inr (7, [.ref msa, .ref mpasta, .ref mhelda, .int zmpasts, .int zmruns, .ref mtexta, .int mtyped, .ref mchosena, .ref mtimesa, .ref mrestsa, .ref mbeforea, .int zmspot, .int zmfrom, .int zmreason, .int zmcause, .int zmorders, .int zmkind, .ref mtolda])), (msa, .inl (cI, 580, .inl zms)), (mpasta, .inl (cI, 2320, .inl zmpast)), (mhelda, .inl (cI, 580, .inl zmheld)), (mtexta, .inl (cI, 60, .inl mtext)), (mchosena, .inl (cI, 12, .inl zmchosen)), (mtimesa, .inl (cI, 12, .inl zmtimes)), (mrestsa, .inl (cJ, 12, .inr (.inl zmrests))), (mbeforea, .inl (cI, 12, .inl zmbefore)), (mtolda, .inl (cI, 2, .inl zmtold))] (va_A [(mself, .inr (7, [.ref msa, .ref mpasta, .ref mhelda, .int mpasts, .int mruns, .ref mtexta, .int mtyped, .ref mchosena, .ref mtimesa, .ref mrestsa, .ref mbeforea, .int mspot, .int mfrom, .int mreason, .int mcause, .int morders, .int mkind, .ref mtolda])), (msa, .inl (cI, 580, .inl ms)), (mpasta, .inl (cI, 2320, .inl mpast)), (mhelda, .inl (cI, 580, .inl mheld)), (mtexta, .inl (cI, 60, .inl mtext)), (mchosena, .inl (cI, 12, .inl mchosen)), (mtimesa, .inl (cI, 12, .inl mtimes)), (mrestsa, .inl (cJ, 12, .inr (.inl mrests))), (mbeforea, .inl (cI, 12, .inl mbefore)), (mtolda, .inl (cI, 2, .inl mtold))] sz)) 0 0 (va_A [(mself, .inr (7, [.ref msa, .ref mpasta, .ref mhelda, .int mpasts, .int mruns, .ref mtexta, .int mtyped, .ref mchosena, .ref mtimesa, .ref mrestsa, .ref mbeforea, .int mspot, .int mfrom, .int mreason, .int mcause, .int morders, .int mkind, .ref mtolda])), (msa, .inl (cI, 580, .inl ms)), (mpasta, .inl (cI, 2320, .inl mpast)), (mhelda, .inl (cI, 580, .inl mheld)), (mtexta, .inl (cI, 60, .inl mtext)), (mchosena, .inl (cI, 12, .inl mchosen)), (mtimesa, .inl (cI, 12, .inl mtimes)), (mrestsa, .inl (cJ, 12, .inr (.inl mrests))), (mbeforea, .inl (cI, 12, .inl mbefore)), (mtolda, .inl (cI, 2, .inl mtold))] sz) := by
  refine kM_wi cX7_fault 3 .int (by decide +kernel) rfl rfl (Nat.le_of_ble_eq_true rfl) ⟨rfl, rfl⟩ ?_
  intro p e s m args below meth c Q A ls hx hb hml hown hts hP hK hD hA hS hl hret
  have hk121 := hts _ (List.mem_cons_of_mem _ wl121)
  have hk123 := hts _ (List.mem_cons_of_mem _ wl123)
  have hk134 := hts _ (List.mem_cons_of_mem _ wl134)
  have hk175 := hts _ (List.mem_cons_of_mem _ wl175)
  have hk726 := hts _ (List.mem_cons_of_mem _ wl726)
  have hk727 := hts _ (List.mem_cons_of_mem _ wl727)
  have hk728 := hts _ (List.mem_cons_of_mem _ wl728)
  have hnX7 : ∀ w ∈ u_ws RX7 TX7 18, w ∈ wz yX7_fault cX7_fault 3 (some .int) := fun w h => List.mem_cons_of_mem _ (inlX7 w h)
  replace hl : lv_has ls 3 [(0, .ref mself), (1, .int p0)] := hl
  have h := hF
  unfold F_X7_fault at h
  refine lv_iload_n (pc := 0) hx hb dX7_fault_0 rfl (lv_at hl 1 rfl) ?_
  refine lv_iconst (v := 0) (pc := 1) hx hb dX7_fault_1 (by decide) ?_
  refine lv_iconst (v := 2) (pc := 2) hx hb dX7_fault_2 (by decide) ?_
  obtain ⟨r1, hc1, h⟩ := am_bind_s h
  refine kc_Si (pc := 3) ⟨hx, hb, hml, hown, hts⟩ hP hK [.int p0, .int (0 : Int32), .int (2 : Int32)] (c_X7_in l D cI cJ p0 (0 : Int32) (2 : Int32) r1 hc1) [] rfl (cwS 3 hts (gzS wl176 wl177 wl5 wl178) rfl rfl rfl ⟨rfl, hdX7_in⟩ ⟨Nat.le_of_ble_eq_true rfl, Nat.le_of_ble_eq_true rfl⟩) [] rfl hl.1 rfl (Nat.le_of_ble_eq_true rfl) dX7_fault_3 ⟨Nat.zero_le _, Nat.zero_le _⟩ ?_
  refine lv_if_ne (pc := 6) (tgt := 12) hx hb dX7_fault_6 (by decide) (fun cc => ?_) (fun cc => ?_)
  · replace h := am_f cc h
    refine lv_aload_n (pc := 12) hx hb dX7_fault_12 rfl (lv_at hl 0 rfl) ?_
    refine va_get (pc := 13) (D := D) (ci := 7) (v := .ref msa) (C := RX7) (T := TX7) (N := 18) hx hb hts hnX7 hown hK.1 hP 0 rfl rfl 0 (Nat.le_of_ble_eq_true rfl) hk121 (fun _ h9 => h9) rfl dX7_fault_13 ?_
    refine lv_aload_n (pc := 16) hx hb dX7_fault_16 rfl (lv_at hl 0 rfl) ?_
    refine va_get (pc := 17) (D := D) (ci := 7) (v := .ref mhelda) (C := RX7) (T := TX7) (N := 18) hx hb hts hnX7 hown hK.1 hP 0 rfl rfl 2 (Nat.le_of_ble_eq_true rfl) hk123 (fun _ h9 => h9) rfl dX7_fault_17 ?_
    obtain ⟨f2, hc2, h⟩ := am_bind_s h
    refine kc_SWv (pc := 20) ⟨hx, hb, hml, hown, hts⟩ hP hK hD hS hA [.ref msa, .ref mhelda] (c_X7_copies l D cI cJ msa mhelda ms mheld f2 hc2 _) [1, 3] rfl rfl rfl (cwS 2 hts (gzS wl729 wl730 wl5 wl731) rfl rfl rfl ⟨rfl, hdX7_copies⟩ ⟨Nat.le_of_ble_eq_true rfl, Nat.le_of_ble_eq_true rfl⟩) [] rfl hl.1 rfl (Nat.le_of_ble_eq_true rfl) dX7_fault_20 ⟨Nat.zero_le _, Nat.zero_le _⟩ (fun H locs hP hD hS => ?_)
    replace hP : va_P D vwCl [(mself, .inr (7, [.ref msa, .ref mpasta, .ref mhelda, .int mpasts, .int mruns, .ref mtexta, .int mtyped, .ref mchosena, .ref mtimesa, .ref mrestsa, .ref mbeforea, .int mspot, .int mfrom, .int mreason, .int mcause, .int morders, .int mkind, .ref mtolda])), (msa, .inl (cI, 580, .inl ms)), (mpasta, .inl (cI, 2320, .inl mpast)), (mhelda, .inl (cI, 580, .inl f2)), (mtexta, .inl (cI, 60, .inl mtext)), (mchosena, .inl (cI, 12, .inl mchosen)), (mtimesa, .inl (cI, 12, .inl mtimes)), (mrestsa, .inl (cJ, 12, .inr (.inl mrests))), (mbeforea, .inl (cI, 12, .inl mbefore)), (mtolda, .inl (cI, 2, .inl mtold))] H := hP
    replace hD : va_D A [(mself, .inr (7, [.ref msa, .ref mpasta, .ref mhelda, .int mpasts, .int mruns, .ref mtexta, .int mtyped, .ref mchosena, .ref mtimesa, .ref mrestsa, .ref mbeforea, .int mspot, .int mfrom, .int mreason, .int mcause, .int morders, .int mkind, .ref mtolda])), (msa, .inl (cI, 580, .inl ms)), (mpasta, .inl (cI, 2320, .inl mpast)), (mhelda, .inl (cI, 580, .inl f2)), (mtexta, .inl (cI, 60, .inl mtext)), (mchosena, .inl (cI, 12, .inl mchosen)), (mtimesa, .inl (cI, 12, .inl mtimes)), (mrestsa, .inl (cJ, 12, .inr (.inl mrests))), (mbeforea, .inl (cI, 12, .inl mbefore)), (mtolda, .inl (cI, 2, .inl mtold))] := hD
    refine lv_aload_n (pc := 23) hx hb dX7_fault_23 rfl (lv_at hl 0 rfl) ?_
    obtain ⟨r3, u4, u5, u6, u7, u8, u9, u10, u11, f12, f13, f14, f15, f16, f17, f18, hc18, h⟩ := am_call16_s h
    refine kc_Wi (pc := 24) (ci := 7) ⟨hx, hb, hml, hown, hts⟩ hP hK hD hS hA [] (c_X7_plays l D cI cJ mself msa mpasta mhelda mtexta mchosena mtimesa mrestsa mbeforea mtolda mpasts mruns mtyped mspot mfrom mreason mcause morders mkind ms mpast f2 mtext mchosen mtimes mrests mbefore mtold r3 u4 u5 u6 u7 u8 u9 u10 u11 f12 f13 f14 f15 f16 f17 f18 hc18 _) [0, 1, 2, 3, 4, 5, 6, 7, 8, 9] rfl rfl rfl (cwV 0 hts (gzV wl732 wl733 wl734 wl5 wl735) rfl rfl rfl ⟨rfl, hdX7_plays⟩ ⟨Nat.le_of_ble_eq_true rfl, Nat.le_of_ble_eq_true rfl⟩) rfl rfl [] rfl hl.1 rfl (Nat.le_of_ble_eq_true rfl) dX7_fault_24 ⟨Nat.zero_le _, Nat.zero_le _⟩ (fun H locs hP hD hS => ?_)
    replace hP : va_P D vwCl [(mself, .inr (7, [.ref msa, .ref mpasta, .ref mhelda, .int u4, .int u5, .ref mtexta, .int mtyped, .ref mchosena, .ref mtimesa, .ref mrestsa, .ref mbeforea, .int u6, .int u7, .int u8, .int u9, .int u10, .int u11, .ref mtolda])), (msa, .inl (cI, 580, .inl f12)), (mpasta, .inl (cI, 2320, .inl f13)), (mhelda, .inl (cI, 580, .inl f2)), (mtexta, .inl (cI, 60, .inl mtext)), (mchosena, .inl (cI, 12, .inl f14)), (mtimesa, .inl (cI, 12, .inl f15)), (mrestsa, .inl (cJ, 12, .inr (.inl f16))), (mbeforea, .inl (cI, 12, .inl f17)), (mtolda, .inl (cI, 2, .inl f18))] H := hP
    replace hD : va_D A [(mself, .inr (7, [.ref msa, .ref mpasta, .ref mhelda, .int u4, .int u5, .ref mtexta, .int mtyped, .ref mchosena, .ref mtimesa, .ref mrestsa, .ref mbeforea, .int u6, .int u7, .int u8, .int u9, .int u10, .int u11, .ref mtolda])), (msa, .inl (cI, 580, .inl f12)), (mpasta, .inl (cI, 2320, .inl f13)), (mhelda, .inl (cI, 580, .inl f2)), (mtexta, .inl (cI, 60, .inl mtext)), (mchosena, .inl (cI, 12, .inl f14)), (mtimesa, .inl (cI, 12, .inl f15)), (mrestsa, .inl (cJ, 12, .inr (.inl f16))), (mbeforea, .inl (cI, 12, .inl f17)), (mtolda, .inl (cI, 2, .inl f18))] := hD
    refine lv_istore_n (lv' := [(2, .int r3), (0, .ref mself), (1, .int p0)]) (pc := 27) hx hb dX7_fault_27 rfl hl (by decide) rfl (fun ls hl => ?_)
    refine lv_aload_n (pc := 28) hx hb dX7_fault_28 rfl (lv_at hl 1 rfl) ?_
    refine va_get (pc := 29) (D := D) (ci := 7) (v := .ref mhelda) (C := RX7) (T := TX7) (N := 18) hx hb hts hnX7 hown hK.1 hP 0 rfl rfl 2 (Nat.le_of_ble_eq_true rfl) hk123 (fun _ h9 => h9) rfl dX7_fault_29 ?_
    refine lv_aload_n (pc := 32) hx hb dX7_fault_32 rfl (lv_at hl 1 rfl) ?_
    refine va_get (pc := 33) (D := D) (ci := 7) (v := .ref msa) (C := RX7) (T := TX7) (N := 18) hx hb hts hnX7 hown hK.1 hP 0 rfl rfl 0 (Nat.le_of_ble_eq_true rfl) hk121 (fun _ h9 => h9) rfl dX7_fault_33 ?_
    obtain ⟨f19, hc19, h⟩ := am_bind_s h
    refine kc_SWv (pc := 36) ⟨hx, hb, hml, hown, hts⟩ hP hK hD hS hA [.ref mhelda, .ref msa] (c_X7_copies l D cI cJ mhelda msa f2 f12 f19 hc19 _) [3, 1] rfl rfl rfl (cwS 2 hts (gzS wl729 wl730 wl5 wl731) rfl rfl rfl ⟨rfl, hdX7_copies⟩ ⟨Nat.le_of_ble_eq_true rfl, Nat.le_of_ble_eq_true rfl⟩) [] rfl hl.1 rfl (Nat.le_of_ble_eq_true rfl) dX7_fault_36 ⟨Nat.zero_le _, Nat.zero_le _⟩ (fun H locs hP hD hS => ?_)
    replace hP : va_P D vwCl [(mself, .inr (7, [.ref msa, .ref mpasta, .ref mhelda, .int u4, .int u5, .ref mtexta, .int mtyped, .ref mchosena, .ref mtimesa, .ref mrestsa, .ref mbeforea, .int u6, .int u7, .int u8, .int u9, .int u10, .int u11, .ref mtolda])), (msa, .inl (cI, 580, .inl f19)), (mpasta, .inl (cI, 2320, .inl f13)), (mhelda, .inl (cI, 580, .inl f2)), (mtexta, .inl (cI, 60, .inl mtext)), (mchosena, .inl (cI, 12, .inl f14)), (mtimesa, .inl (cI, 12, .inl f15)), (mrestsa, .inl (cJ, 12, .inr (.inl f16))), (mbeforea, .inl (cI, 12, .inl f17)), (mtolda, .inl (cI, 2, .inl f18))] H := hP
    replace hD : va_D A [(mself, .inr (7, [.ref msa, .ref mpasta, .ref mhelda, .int u4, .int u5, .ref mtexta, .int mtyped, .ref mchosena, .ref mtimesa, .ref mrestsa, .ref mbeforea, .int u6, .int u7, .int u8, .int u9, .int u10, .int u11, .ref mtolda])), (msa, .inl (cI, 580, .inl f19)), (mpasta, .inl (cI, 2320, .inl f13)), (mhelda, .inl (cI, 580, .inl f2)), (mtexta, .inl (cI, 60, .inl mtext)), (mchosena, .inl (cI, 12, .inl f14)), (mtimesa, .inl (cI, 12, .inl f15)), (mrestsa, .inl (cJ, 12, .inr (.inl f16))), (mbeforea, .inl (cI, 12, .inl f17)), (mtolda, .inl (cI, 2, .inl f18))] := hD
    refine lv_iload_n (pc := 39) hx hb dX7_fault_39 rfl (lv_at hl 0 rfl) ?_
    refine lv_if_eq (pc := 40) (tgt := 48) hx hb dX7_fault_40 (by decide) (fun cc => ?_) (fun cc => ?_)
    · replace h := am_t cc h
      refine lv_iload_n (pc := 48) hx hb dX7_fault_48 rfl (lv_at hl 2 rfl) ?_
      refine lv_if_ne (pc := 49) (tgt := 59) hx hb dX7_fault_49 (by decide) (fun cc => ?_) (fun cc => ?_)
      · replace h := am_f cc h
        refine lv_iload_n (pc := 59) hx hb dX7_fault_59 rfl (lv_at hl 2 rfl) ?_
        refine lv_iconst (v := 1) (pc := 60) hx hb dX7_fault_60 (by decide) ?_
        refine lv_icmp_ne (pc := 61) (tgt := 71) hx hb dX7_fault_61 (by decide) (fun cc => ?_) (fun cc => ?_)
        · replace h := am_f cc h
          refine lv_aload_n (pc := 71) hx hb dX7_fault_71 rfl (lv_at hl 1 rfl) ?_
          refine va_get (pc := 72) (D := D) (ci := 7) (v := .int u9) (C := RX7) (T := TX7) (N := 18) hx hb hts hnX7 hown hK.1 hP 0 rfl rfl 14 (Nat.le_of_ble_eq_true rfl) hk728 (fun _ h9 => h9) rfl dX7_fault_72 ?_
          obtain ⟨e1, e2, e3, e4, e5, e6, e7, e8, e9, e10, e11, e12, e13, e14, e15, e16, e17⟩ := am_ret17 h
          exact hret _ _ _ _ _ dX7_fault_75 rfl e1 (by rw [← e2, ← e3, ← e4, ← e5, ← e6, ← e7, ← e8, ← e9, ← e10, ← e11, ← e12, ← e13, ← e14, ← e15, ← e16, ← e17]; exact hP) hS
        replace h := am_t cc h
        refine lv_aload_n (pc := 64) hx hb dX7_fault_64 rfl (lv_at hl 1 rfl) ?_
        refine va_get (pc := 65) (D := D) (ci := 7) (v := .int u8) (C := RX7) (T := TX7) (N := 18) hx hb hts hnX7 hown hK.1 hP 0 rfl rfl 13 (Nat.le_of_ble_eq_true rfl) hk727 (fun _ h9 => h9) rfl dX7_fault_65 ?_
        refine lv_goto (pc := 68) (tgt := 75) hx hb dX7_fault_68 (by decide) ?_
        obtain ⟨e1, e2, e3, e4, e5, e6, e7, e8, e9, e10, e11, e12, e13, e14, e15, e16, e17⟩ := am_ret17 h
        exact hret _ _ _ _ _ dX7_fault_75 rfl e1 (by rw [← e2, ← e3, ← e4, ← e5, ← e6, ← e7, ← e8, ← e9, ← e10, ← e11, ← e12, ← e13, ← e14, ← e15, ← e16, ← e17]; exact hP) hS
      replace h := am_t cc h
      refine lv_aload_n (pc := 52) hx hb dX7_fault_52 rfl (lv_at hl 1 rfl) ?_
      refine va_get (pc := 53) (D := D) (ci := 7) (v := .int u7) (C := RX7) (T := TX7) (N := 18) hx hb hts hnX7 hown hK.1 hP 0 rfl rfl 12 (Nat.le_of_ble_eq_true rfl) hk726 (fun _ h9 => h9) rfl dX7_fault_53 ?_
      refine lv_goto (pc := 56) (tgt := 75) hx hb dX7_fault_56 (by decide) ?_
      obtain ⟨e1, e2, e3, e4, e5, e6, e7, e8, e9, e10, e11, e12, e13, e14, e15, e16, e17⟩ := am_ret17 h
      exact hret _ _ _ _ _ dX7_fault_75 rfl e1 (by rw [← e2, ← e3, ← e4, ← e5, ← e6, ← e7, ← e8, ← e9, ← e10, ← e11, ← e12, ← e13, ← e14, ← e15, ← e16, ← e17]; exact hP) hS
    replace h := am_f cc h
    refine lv_ldc (pc := 43) hx hb hown hk134 dX7_fault_43 ?_
    refine lv_goto (pc := 45) (tgt := 75) hx hb dX7_fault_45 (by decide) ?_
    obtain ⟨e1, e2, e3, e4, e5, e6, e7, e8, e9, e10, e11, e12, e13, e14, e15, e16, e17⟩ := am_ret17 h
    exact hret _ _ _ _ _ dX7_fault_75 rfl e1 (by rw [← e2, ← e3, ← e4, ← e5, ← e6, ← e7, ← e8, ← e9, ← e10, ← e11, ← e12, ← e13, ← e14, ← e15, ← e16, ← e17]; exact hP) hS
  replace h := am_t cc h
  refine lv_ldc (pc := 9) hx hb hown hk175 dX7_fault_9 ?_
  obtain ⟨e1, e2, e3, e4, e5, e6, e7, e8, e9, e10, e11, e12, e13, e14, e15, e16, e17⟩ := am_ret17 h
  exact hret _ _ _ _ _ dX7_fault_11 rfl e1 (by rw [← e2, ← e3, ← e4, ← e5, ← e6, ← e7, ← e8, ← e9, ← e10, ← e11, ← e12, ← e13, ← e14, ← e15, ← e16, ← e17]; exact hP) hS
theorem hdX7_play : yX7_play.cls ≠ "java/lang/invoke/MethodHandle" ∧ yX7_play.cls ≠ "java/lang/invoke/VarHandle" ∧ (parseMethodDescriptor yX7_play.desc).map (fun d => d.parameters.length) = some 0 := by decide +kernel
abbrev rmX7_play : Room := { frames := 7, cells := 0, slots := 0, locals := 165 }
set_option maxHeartbeats 20000000 in
set_option maxRecDepth 100000 in
theorem c_X7_play (l : Launch) (D : va_G) (cI cJ : ClassId) (mself : Nat) (msa : Nat) (mpasta : Nat) (mhelda : Nat) (mtexta : Nat) (mchosena : Nat) (mtimesa : Nat) (mrestsa : Nat) (mbeforea : Nat) (mtolda : Nat) (mpasts : Int32) (mruns : Int32) (mtyped : Int32) (mspot : Int32) (mfrom : Int32) (mreason : Int32) (mcause : Int32) (morders : Int32) (mkind : Int32) (ms : Nat → Int32) (mpast : Nat → Int32) (mheld : Nat → Int32) (mtext : Nat → Int32) (mchosen : Nat → Int32) (mtimes : Nat → Int32) (mrests : Nat → Int64) (mbefore : Nat → Int32) (mtold : Nat → Int32)  (r0 : Int32) (zmpasts : Int32) (zmruns : Int32) (zmspot : Int32) (zmfrom : Int32) (zmreason : Int32) (zmcause : Int32) (zmorders : Int32) (zmkind : Int32) (zms : Nat → Int32) (zmpast : Nat → Int32) (zmheld : Nat → Int32) (zmchosen : Nat → Int32) (zmtimes : Nat → Int32) (zmrests : Nat → Int64) (zmbefore : Nat → Int32) (zmtold : Nat → Int32) (hF : F_X7_play mpasts mruns mtyped mspot mfrom mreason mcause morders mkind ms mpast mheld mtext mchosen mtimes mrests mbefore mtold = some (r0, zmpasts, zmruns, zmspot, zmfrom, zmreason, zmcause, zmorders, zmkind, zms, zmpast, zmheld, zmchosen, zmtimes, zmrests, zmbefore, zmtold)) (sz : Nat) : Met l yX7_play (wz yX7_play cX7_play 2 (some .int)) rmX7_play (kPw D cI cJ [(mself, .inr (7, [.ref msa, .ref mpasta, .ref mhelda, .int mpasts, .int mruns, .ref mtexta, .int mtyped, .ref mchosena, .ref mtimesa, .ref mrestsa, .ref mbeforea, .int mspot, .int mfrom, .int mreason, .int mcause, .int morders, .int mkind, .ref mtolda])), (msa, .inl (cI, 580, .inl ms)), (mpasta, .inl (cI, 2320, .inl mpast)), (mhelda, .inl (cI, 580, .inl mheld)), (mtexta, .inl (cI, 60, .inl mtext)), (mchosena, .inl (cI, 12, .inl mchosen)), (mtimesa, .inl (cI, 12, .inl mtimes)), (mrestsa, .inl (cJ, 12, .inr (.inl mrests))), (mbeforea, .inl (cI, 12, .inl mbefore)), (mtolda, .inl (cI, 2, .inl mtold))] sz [.ref mself]) (kQi D r0 [(mself, .inr (7, [.ref msa, .ref mpasta, .ref mhelda, .int zmpasts, .int zmruns, .ref mtexta, .int mtyped, .ref mchosena, .ref mtimesa, .ref mrestsa, .ref mbeforea, .int zmspot, .int zmfrom, .int zmreason, .int zmcause, .int zmorders, .int zmkind, .ref mtolda])), (msa, .inl (cI, 580, .inl zms)), (mpasta, .inl (cI, 2320, .inl zmpast)), (mhelda, .inl (cI, 580, .inl zmheld)), (mtexta, .inl (cI, 60, .inl mtext)), (mchosena, .inl (cI, 12, .inl zmchosen)), (mtimesa, .inl (cI, 12, .inl zmtimes)), (mrestsa, .inl (cJ, 12, .inr (.inl zmrests))), (mbeforea, .inl (cI, 12, .inl zmbefore)), (mtolda, .inl (cI, 2, .inl zmtold))] (va_A [(mself, .inr (7, [.ref msa, .ref mpasta, .ref mhelda, .int mpasts, .int mruns, .ref mtexta, .int mtyped, .ref mchosena, .ref mtimesa, .ref mrestsa, .ref mbeforea, .int mspot, .int mfrom, .int mreason, .int mcause, .int morders, .int mkind, .ref mtolda])), (msa, .inl (cI, 580, .inl ms)), (mpasta, .inl (cI, 2320, .inl mpast)), (mhelda, .inl (cI, 580, .inl mheld)), (mtexta, .inl (cI, 60, .inl mtext)), (mchosena, .inl (cI, 12, .inl mchosen)), (mtimesa, .inl (cI, 12, .inl mtimes)), (mrestsa, .inl (cJ, 12, .inr (.inl mrests))), (mbeforea, .inl (cI, 12, .inl mbefore)), (mtolda, .inl (cI, 2, .inl mtold))] sz)) 0 0 (va_A [(mself, .inr (7, [.ref msa, .ref mpasta, .ref mhelda, .int mpasts, .int mruns, .ref mtexta, .int mtyped, .ref mchosena, .ref mtimesa, .ref mrestsa, .ref mbeforea, .int mspot, .int mfrom, .int mreason, .int mcause, .int morders, .int mkind, .ref mtolda])), (msa, .inl (cI, 580, .inl ms)), (mpasta, .inl (cI, 2320, .inl mpast)), (mhelda, .inl (cI, 580, .inl mheld)), (mtexta, .inl (cI, 60, .inl mtext)), (mchosena, .inl (cI, 12, .inl mchosen)), (mtimesa, .inl (cI, 12, .inl mtimes)), (mrestsa, .inl (cJ, 12, .inr (.inl mrests))), (mbeforea, .inl (cI, 12, .inl mbefore)), (mtolda, .inl (cI, 2, .inl mtold))] sz) := by
  refine kM_wi cX7_play 2 .int (by decide +kernel) rfl rfl (Nat.le_of_ble_eq_true rfl) ⟨rfl, rfl⟩ ?_
  intro p e s m args below meth c Q A ls hx hb hml hown hts hP hK hD hA hS hl hret
  have hk121 := hts _ (List.mem_cons_of_mem _ wl121)
  have hk123 := hts _ (List.mem_cons_of_mem _ wl123)
  have hk134 := hts _ (List.mem_cons_of_mem _ wl134)
  have hk222 := hts _ (List.mem_cons_of_mem _ wl222)
  have hk737 := hts _ (List.mem_cons_of_mem _ wl737)
  have hnX7 : ∀ w ∈ u_ws RX7 TX7 18, w ∈ wz yX7_play cX7_play 2 (some .int) := fun w h => List.mem_cons_of_mem _ (inlX7 w h)
  replace hl : lv_has ls 2 [(0, .ref mself)] := hl
  have h := hF
  unfold F_X7_play at h
  refine lv_aload_n (pc := 0) hx hb dX7_play_0 rfl (lv_at hl 0 rfl) ?_
  refine va_get (pc := 1) (D := D) (ci := 7) (v := .ref msa) (C := RX7) (T := TX7) (N := 18) hx hb hts hnX7 hown hK.1 hP 0 rfl rfl 0 (Nat.le_of_ble_eq_true rfl) hk121 (fun _ h9 => h9) rfl dX7_play_1 ?_
  refine lv_aload_n (pc := 4) hx hb dX7_play_4 rfl (lv_at hl 0 rfl) ?_
  refine va_get (pc := 5) (D := D) (ci := 7) (v := .ref mhelda) (C := RX7) (T := TX7) (N := 18) hx hb hts hnX7 hown hK.1 hP 0 rfl rfl 2 (Nat.le_of_ble_eq_true rfl) hk123 (fun _ h9 => h9) rfl dX7_play_5 ?_
  obtain ⟨f1, hc1, h⟩ := am_bind_s h
  refine kc_SWv (pc := 8) ⟨hx, hb, hml, hown, hts⟩ hP hK hD hS hA [.ref msa, .ref mhelda] (c_X7_copies l D cI cJ msa mhelda ms mheld f1 hc1 _) [1, 3] rfl rfl rfl (cwS 2 hts (gzS wl729 wl730 wl5 wl731) rfl rfl rfl ⟨rfl, hdX7_copies⟩ ⟨Nat.le_of_ble_eq_true rfl, Nat.le_of_ble_eq_true rfl⟩) [] rfl hl.1 rfl (Nat.le_of_ble_eq_true rfl) dX7_play_8 ⟨Nat.zero_le _, Nat.zero_le _⟩ (fun H locs hP hD hS => ?_)
  replace hP : va_P D vwCl [(mself, .inr (7, [.ref msa, .ref mpasta, .ref mhelda, .int mpasts, .int mruns, .ref mtexta, .int mtyped, .ref mchosena, .ref mtimesa, .ref mrestsa, .ref mbeforea, .int mspot, .int mfrom, .int mreason, .int mcause, .int morders, .int mkind, .ref mtolda])), (msa, .inl (cI, 580, .inl ms)), (mpasta, .inl (cI, 2320, .inl mpast)), (mhelda, .inl (cI, 580, .inl f1)), (mtexta, .inl (cI, 60, .inl mtext)), (mchosena, .inl (cI, 12, .inl mchosen)), (mtimesa, .inl (cI, 12, .inl mtimes)), (mrestsa, .inl (cJ, 12, .inr (.inl mrests))), (mbeforea, .inl (cI, 12, .inl mbefore)), (mtolda, .inl (cI, 2, .inl mtold))] H := hP
  replace hD : va_D A [(mself, .inr (7, [.ref msa, .ref mpasta, .ref mhelda, .int mpasts, .int mruns, .ref mtexta, .int mtyped, .ref mchosena, .ref mtimesa, .ref mrestsa, .ref mbeforea, .int mspot, .int mfrom, .int mreason, .int mcause, .int morders, .int mkind, .ref mtolda])), (msa, .inl (cI, 580, .inl ms)), (mpasta, .inl (cI, 2320, .inl mpast)), (mhelda, .inl (cI, 580, .inl f1)), (mtexta, .inl (cI, 60, .inl mtext)), (mchosena, .inl (cI, 12, .inl mchosen)), (mtimesa, .inl (cI, 12, .inl mtimes)), (mrestsa, .inl (cJ, 12, .inr (.inl mrests))), (mbeforea, .inl (cI, 12, .inl mbefore)), (mtolda, .inl (cI, 2, .inl mtold))] := hD
  refine lv_aload_n (pc := 11) hx hb dX7_play_11 rfl (lv_at hl 0 rfl) ?_
  obtain ⟨r2, u3, u4, u5, u6, u7, u8, u9, u10, f11, f12, f13, f14, f15, f16, f17, hc17, h⟩ := am_call16_s h
  refine kc_Wi (pc := 12) (ci := 7) ⟨hx, hb, hml, hown, hts⟩ hP hK hD hS hA [] (c_X7_plays l D cI cJ mself msa mpasta mhelda mtexta mchosena mtimesa mrestsa mbeforea mtolda mpasts mruns mtyped mspot mfrom mreason mcause morders mkind ms mpast f1 mtext mchosen mtimes mrests mbefore mtold r2 u3 u4 u5 u6 u7 u8 u9 u10 f11 f12 f13 f14 f15 f16 f17 hc17 _) [0, 1, 2, 3, 4, 5, 6, 7, 8, 9] rfl rfl rfl (cwV 0 hts (gzV wl732 wl733 wl734 wl5 wl735) rfl rfl rfl ⟨rfl, hdX7_plays⟩ ⟨Nat.le_of_ble_eq_true rfl, Nat.le_of_ble_eq_true rfl⟩) rfl rfl [] rfl hl.1 rfl (Nat.le_of_ble_eq_true rfl) dX7_play_12 ⟨Nat.zero_le _, Nat.zero_le _⟩ (fun H locs hP hD hS => ?_)
  replace hP : va_P D vwCl [(mself, .inr (7, [.ref msa, .ref mpasta, .ref mhelda, .int u3, .int u4, .ref mtexta, .int mtyped, .ref mchosena, .ref mtimesa, .ref mrestsa, .ref mbeforea, .int u5, .int u6, .int u7, .int u8, .int u9, .int u10, .ref mtolda])), (msa, .inl (cI, 580, .inl f11)), (mpasta, .inl (cI, 2320, .inl f12)), (mhelda, .inl (cI, 580, .inl f1)), (mtexta, .inl (cI, 60, .inl mtext)), (mchosena, .inl (cI, 12, .inl f13)), (mtimesa, .inl (cI, 12, .inl f14)), (mrestsa, .inl (cJ, 12, .inr (.inl f15))), (mbeforea, .inl (cI, 12, .inl f16)), (mtolda, .inl (cI, 2, .inl f17))] H := hP
  replace hD : va_D A [(mself, .inr (7, [.ref msa, .ref mpasta, .ref mhelda, .int u3, .int u4, .ref mtexta, .int mtyped, .ref mchosena, .ref mtimesa, .ref mrestsa, .ref mbeforea, .int u5, .int u6, .int u7, .int u8, .int u9, .int u10, .ref mtolda])), (msa, .inl (cI, 580, .inl f11)), (mpasta, .inl (cI, 2320, .inl f12)), (mhelda, .inl (cI, 580, .inl f1)), (mtexta, .inl (cI, 60, .inl mtext)), (mchosena, .inl (cI, 12, .inl f13)), (mtimesa, .inl (cI, 12, .inl f14)), (mrestsa, .inl (cJ, 12, .inr (.inl f15))), (mbeforea, .inl (cI, 12, .inl f16)), (mtolda, .inl (cI, 2, .inl f17))] := hD
  refine lv_istore_n (lv' := [(1, .int r2), (0, .ref mself)]) (pc := 15) hx hb dX7_play_15 rfl hl (by decide) rfl (fun ls hl => ?_)
  refine lv_aload_n (pc := 16) hx hb dX7_play_16 rfl (lv_at hl 1 rfl) ?_
  refine va_get (pc := 17) (D := D) (ci := 7) (v := .ref mhelda) (C := RX7) (T := TX7) (N := 18) hx hb hts hnX7 hown hK.1 hP 0 rfl rfl 2 (Nat.le_of_ble_eq_true rfl) hk123 (fun _ h9 => h9) rfl dX7_play_17 ?_
  refine lv_aload_n (pc := 20) hx hb dX7_play_20 rfl (lv_at hl 1 rfl) ?_
  refine va_get (pc := 21) (D := D) (ci := 7) (v := .ref msa) (C := RX7) (T := TX7) (N := 18) hx hb hts hnX7 hown hK.1 hP 0 rfl rfl 0 (Nat.le_of_ble_eq_true rfl) hk121 (fun _ h9 => h9) rfl dX7_play_21 ?_
  obtain ⟨f18, hc18, h⟩ := am_bind_s h
  refine kc_SWv (pc := 24) ⟨hx, hb, hml, hown, hts⟩ hP hK hD hS hA [.ref mhelda, .ref msa] (c_X7_copies l D cI cJ mhelda msa f1 f11 f18 hc18 _) [3, 1] rfl rfl rfl (cwS 2 hts (gzS wl729 wl730 wl5 wl731) rfl rfl rfl ⟨rfl, hdX7_copies⟩ ⟨Nat.le_of_ble_eq_true rfl, Nat.le_of_ble_eq_true rfl⟩) [] rfl hl.1 rfl (Nat.le_of_ble_eq_true rfl) dX7_play_24 ⟨Nat.zero_le _, Nat.zero_le _⟩ (fun H locs hP hD hS => ?_)
  replace hP : va_P D vwCl [(mself, .inr (7, [.ref msa, .ref mpasta, .ref mhelda, .int u3, .int u4, .ref mtexta, .int mtyped, .ref mchosena, .ref mtimesa, .ref mrestsa, .ref mbeforea, .int u5, .int u6, .int u7, .int u8, .int u9, .int u10, .ref mtolda])), (msa, .inl (cI, 580, .inl f18)), (mpasta, .inl (cI, 2320, .inl f12)), (mhelda, .inl (cI, 580, .inl f1)), (mtexta, .inl (cI, 60, .inl mtext)), (mchosena, .inl (cI, 12, .inl f13)), (mtimesa, .inl (cI, 12, .inl f14)), (mrestsa, .inl (cJ, 12, .inr (.inl f15))), (mbeforea, .inl (cI, 12, .inl f16)), (mtolda, .inl (cI, 2, .inl f17))] H := hP
  replace hD : va_D A [(mself, .inr (7, [.ref msa, .ref mpasta, .ref mhelda, .int u3, .int u4, .ref mtexta, .int mtyped, .ref mchosena, .ref mtimesa, .ref mrestsa, .ref mbeforea, .int u5, .int u6, .int u7, .int u8, .int u9, .int u10, .ref mtolda])), (msa, .inl (cI, 580, .inl f18)), (mpasta, .inl (cI, 2320, .inl f12)), (mhelda, .inl (cI, 580, .inl f1)), (mtexta, .inl (cI, 60, .inl mtext)), (mchosena, .inl (cI, 12, .inl f13)), (mtimesa, .inl (cI, 12, .inl f14)), (mrestsa, .inl (cJ, 12, .inr (.inl f15))), (mbeforea, .inl (cI, 12, .inl f16)), (mtolda, .inl (cI, 2, .inl f17))] := hD
  refine lv_iload_n (pc := 27) hx hb dX7_play_27 rfl (lv_at hl 0 rfl) ?_
  refine lv_if_ne (pc := 28) (tgt := 34) hx hb dX7_play_28 (by decide) (fun cc => ?_) (fun cc => ?_)
  · replace h := am_f cc h
    refine lv_aload_n (pc := 34) hx hb dX7_play_34 rfl (lv_at hl 1 rfl) ?_
    obtain ⟨u19, f20, hc20, h⟩ := am_call2_s h
    refine kc_Wv (pc := 35) (ci := 7) ⟨hx, hb, hml, hown, hts⟩ hP hK hD hS hA [] (c_X7_changes l D cI cJ mself msa mpasta mhelda mtexta mchosena mtimesa mrestsa mbeforea mtolda u3 u4 mtyped u5 u6 u7 u8 u9 u10 f18 f12 f1 mtext f13 f14 f15 f16 f17 u19 f20 hc20 _) [0, 1, 2, 3, 4, 5, 6, 7, 8, 9] rfl rfl rfl (cwV 0 hts (gzV wl179 wl180 wl181 wl5 wl182) rfl rfl rfl ⟨rfl, hdX7_changes⟩ ⟨Nat.le_of_ble_eq_true rfl, Nat.le_of_ble_eq_true rfl⟩) rfl rfl [] rfl hl.1 rfl (Nat.le_of_ble_eq_true rfl) dX7_play_35 ⟨Nat.zero_le _, Nat.zero_le _⟩ (fun H locs hP hD hS => ?_)
    replace hP : va_P D vwCl [(mself, .inr (7, [.ref msa, .ref mpasta, .ref mhelda, .int u19, .int u4, .ref mtexta, .int mtyped, .ref mchosena, .ref mtimesa, .ref mrestsa, .ref mbeforea, .int u5, .int u6, .int u7, .int u8, .int u9, .int u10, .ref mtolda])), (msa, .inl (cI, 580, .inl f18)), (mpasta, .inl (cI, 2320, .inl f20)), (mhelda, .inl (cI, 580, .inl f1)), (mtexta, .inl (cI, 60, .inl mtext)), (mchosena, .inl (cI, 12, .inl f13)), (mtimesa, .inl (cI, 12, .inl f14)), (mrestsa, .inl (cJ, 12, .inr (.inl f15))), (mbeforea, .inl (cI, 12, .inl f16)), (mtolda, .inl (cI, 2, .inl f17))] H := hP
    replace hD : va_D A [(mself, .inr (7, [.ref msa, .ref mpasta, .ref mhelda, .int u19, .int u4, .ref mtexta, .int mtyped, .ref mchosena, .ref mtimesa, .ref mrestsa, .ref mbeforea, .int u5, .int u6, .int u7, .int u8, .int u9, .int u10, .ref mtolda])), (msa, .inl (cI, 580, .inl f18)), (mpasta, .inl (cI, 2320, .inl f20)), (mhelda, .inl (cI, 580, .inl f1)), (mtexta, .inl (cI, 60, .inl mtext)), (mchosena, .inl (cI, 12, .inl f13)), (mtimesa, .inl (cI, 12, .inl f14)), (mrestsa, .inl (cJ, 12, .inr (.inl f15))), (mbeforea, .inl (cI, 12, .inl f16)), (mtolda, .inl (cI, 2, .inl f17))] := hD
    refine lv_aload_n (pc := 38) hx hb dX7_play_38 rfl (lv_at hl 1 rfl) ?_
    obtain ⟨r21, u22, u23, u24, u25, u26, u27, u28, u29, f30, f31, f32, f33, f34, f35, f36, hc36, h⟩ := am_call16_s h
    refine kc_Wi (pc := 39) (ci := 7) ⟨hx, hb, hml, hown, hts⟩ hP hK hD hS hA [] (c_X7_plays l D cI cJ mself msa mpasta mhelda mtexta mchosena mtimesa mrestsa mbeforea mtolda u19 u4 mtyped u5 u6 u7 u8 u9 u10 f18 f20 f1 mtext f13 f14 f15 f16 f17 r21 u22 u23 u24 u25 u26 u27 u28 u29 f30 f31 f32 f33 f34 f35 f36 hc36 _) [0, 1, 2, 3, 4, 5, 6, 7, 8, 9] rfl rfl rfl (cwV 0 hts (gzV wl732 wl733 wl734 wl5 wl735) rfl rfl rfl ⟨rfl, hdX7_plays⟩ ⟨Nat.le_of_ble_eq_true rfl, Nat.le_of_ble_eq_true rfl⟩) rfl rfl [] rfl hl.1 rfl (Nat.le_of_ble_eq_true rfl) dX7_play_39 ⟨Nat.zero_le _, Nat.zero_le _⟩ (fun H locs hP hD hS => ?_)
    replace hP : va_P D vwCl [(mself, .inr (7, [.ref msa, .ref mpasta, .ref mhelda, .int u22, .int u23, .ref mtexta, .int mtyped, .ref mchosena, .ref mtimesa, .ref mrestsa, .ref mbeforea, .int u24, .int u25, .int u26, .int u27, .int u28, .int u29, .ref mtolda])), (msa, .inl (cI, 580, .inl f30)), (mpasta, .inl (cI, 2320, .inl f31)), (mhelda, .inl (cI, 580, .inl f1)), (mtexta, .inl (cI, 60, .inl mtext)), (mchosena, .inl (cI, 12, .inl f32)), (mtimesa, .inl (cI, 12, .inl f33)), (mrestsa, .inl (cJ, 12, .inr (.inl f34))), (mbeforea, .inl (cI, 12, .inl f35)), (mtolda, .inl (cI, 2, .inl f36))] H := hP
    replace hD : va_D A [(mself, .inr (7, [.ref msa, .ref mpasta, .ref mhelda, .int u22, .int u23, .ref mtexta, .int mtyped, .ref mchosena, .ref mtimesa, .ref mrestsa, .ref mbeforea, .int u24, .int u25, .int u26, .int u27, .int u28, .int u29, .ref mtolda])), (msa, .inl (cI, 580, .inl f30)), (mpasta, .inl (cI, 2320, .inl f31)), (mhelda, .inl (cI, 580, .inl f1)), (mtexta, .inl (cI, 60, .inl mtext)), (mchosena, .inl (cI, 12, .inl f32)), (mtimesa, .inl (cI, 12, .inl f33)), (mrestsa, .inl (cJ, 12, .inr (.inl f34))), (mbeforea, .inl (cI, 12, .inl f35)), (mtolda, .inl (cI, 2, .inl f36))] := hD
    refine lv_if_eq (pc := 42) (tgt := 52) hx hb dX7_play_42 (by decide) (fun cc => ?_) (fun cc => ?_)
    · replace h := am_t cc h
      refine lv_ldc (pc := 52) hx hb hown hk134 dX7_play_52 ?_
      obtain ⟨e1, e2, e3, e4, e5, e6, e7, e8, e9, e10, e11, e12, e13, e14, e15, e16, e17⟩ := am_ret17 h
      exact hret _ _ _ _ _ dX7_play_54 rfl e1 (by rw [← e2, ← e3, ← e4, ← e5, ← e6, ← e7, ← e8, ← e9, ← e10, ← e11, ← e12, ← e13, ← e14, ← e15, ← e16, ← e17]; exact hP) hS
    replace h := am_f cc h
    refine lv_aload_n (pc := 45) hx hb dX7_play_45 rfl (lv_at hl 1 rfl) ?_
    refine va_get (pc := 46) (D := D) (ci := 7) (v := .int u28) (C := RX7) (T := TX7) (N := 18) hx hb hts hnX7 hown hK.1 hP 0 rfl rfl 15 (Nat.le_of_ble_eq_true rfl) hk737 (fun _ h9 => h9) rfl dX7_play_46 ?_
    refine lv_goto (pc := 49) (tgt := 54) hx hb dX7_play_49 (by decide) ?_
    obtain ⟨e1, e2, e3, e4, e5, e6, e7, e8, e9, e10, e11, e12, e13, e14, e15, e16, e17⟩ := am_ret17 h
    exact hret _ _ _ _ _ dX7_play_54 rfl e1 (by rw [← e2, ← e3, ← e4, ← e5, ← e6, ← e7, ← e8, ← e9, ← e10, ← e11, ← e12, ← e13, ← e14, ← e15, ← e16, ← e17]; exact hP) hS
  replace h := am_t cc h
  refine lv_ldc (pc := 31) hx hb hown hk222 dX7_play_31 ?_
  obtain ⟨e1, e2, e3, e4, e5, e6, e7, e8, e9, e10, e11, e12, e13, e14, e15, e16, e17⟩ := am_ret17 h
  exact hret _ _ _ _ _ dX7_play_33 rfl e1 (by rw [← e2, ← e3, ← e4, ← e5, ← e6, ← e7, ← e8, ← e9, ← e10, ← e11, ← e12, ← e13, ← e14, ← e15, ← e16, ← e17]; exact hP) hS
