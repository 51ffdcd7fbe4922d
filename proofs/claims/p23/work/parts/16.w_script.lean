-- contracts, printed by wip/p23/gen23.py
theorem hdX3_length : yX3_length.cls ≠ "java/lang/invoke/MethodHandle" ∧ yX3_length.cls ≠ "java/lang/invoke/VarHandle" ∧ (parseMethodDescriptor yX3_length.desc).map (fun d => d.parameters.length) = some 0 := by decide +kernel
abbrev rmX3_length : Room := { frames := 0, cells := 0, slots := 0, locals := 0 }
set_option maxHeartbeats 20000000 in
set_option maxRecDepth 100000 in
theorem c_X3_length (l : Launch) (D : va_G) (cI cJ : ClassId) (self : Nat) (a : Nat) (len : Int32) (sta : Int32) (pos : Int32) (kin : Int32) (fst : Int32) (snd : Int32) (don : Int32) (rea : Int32) (cau : Int32) (ch : Nat → Int32)  (r0 : Int32) (hF : F_X3_length len = some r0) : Met l yX3_length (wz yX3_length cX3_length 1 (some .int)) rmX3_length (kPc D cI cJ [(self, .inr (3, [.ref a, .int len, .int sta, .int pos, .int kin, .int fst, .int snd, .int don, .int rea, .int cau])), (a, .inl (cI, 60, .inl ch))] [.ref self]) (vp_Si (fun r => r = r0)) 0 0 (fun _ => False) := by
  refine kM_ri cX3_length 1 .int (by decide +kernel) rfl rfl (Nat.le_of_ble_eq_true rfl) ⟨rfl, rfl⟩ ?_
  intro p e s m args below meth c Q ls hx hb hml hown hts hP hK hl hret
  have hk206 := hts _ (List.mem_cons_of_mem _ wl206)
  have hnX3 : ∀ w ∈ u_ws RX3 TX3 10, w ∈ wz yX3_length cX3_length 1 (some .int) := fun w h => List.mem_cons_of_mem _ (inlX3 w h)
  replace hl : lv_has ls 1 [(0, .ref self)] := hl
  have h := hF
  unfold F_X3_length at h
  refine lv_aload_n (pc := 0) hx hb dX3_length_0 rfl (lv_at hl 0 rfl) ?_
  refine va_get (pc := 1) (D := D) (ci := 3) (v := .int len) (C := RX3) (T := TX3) (N := 10) hx hb hts hnX3 hown hK.1 hP 0 rfl rfl 1 (Nat.le_of_ble_eq_true rfl) hk206 (fun _ h9 => h9) rfl dX3_length_1 ?_
  obtain e1 := am_ret1 h
  exact hret _ _ _ dX3_length_4 rfl e1
