-- contracts, printed by wip/p23/gen23.py
theorem hdX4_copyState : yX4_copyState.cls ≠ "java/lang/invoke/MethodHandle" ∧ yX4_copyState.cls ≠ "java/lang/invoke/VarHandle" ∧ (parseMethodDescriptor yX4_copyState.desc).map (fun d => d.parameters.length) = some 1 := by decide +kernel
abbrev rmX4_copyState : Room := { frames := 2, cells := 0, slots := 0, locals := 43 }
set_option maxHeartbeats 20000000 in
set_option maxRecDepth 100000 in
theorem c_X4_copyState (l : Launch) (D : va_G) (cI cJ : ClassId) (self : Nat) (ch : Nat) (lself : Nat) (lplself : Nat) (lpla : Nat) (lpaself : Nat) (lpaa : Nat) (logself : Nat) (loga : Nat) (ldrself : Nat) (ldra : Nat) (lspself : Nat) (lspa : Nat) (lscself : Nat) (lsca : Nat) (wself : Nat) (wa : Nat) (sself : Nat) (sa : Nat) (oself : Nat) (och : Nat) (olself : Nat) (olplself : Nat) (olpla : Nat) (olpaself : Nat) (olpaa : Nat) (ologself : Nat) (ologa : Nat) (oldrself : Nat) (oldra : Nat) (olspself : Nat) (olspa : Nat) (olscself : Nat) (olsca : Nat) (owself : Nat) (owa : Nat) (osself : Nat) (osa : Nat) (noi : Int32) (obs : Int32) (res : Int32) (lmany : Int32) (lgens : Int32) (lplf : Nat → Int32) (lpaf : Nat → Int32) (logf : Nat → Int32) (ldrf : Nat → Int32) (lspf : Nat → Int32) (lscf : Nat → Int32) (wmany : Int32) (wf : Nat → Int32) (sf : Nat → Int32) (onoi : Int32) (oobs : Int32) (ores : Int32) (olmany : Int32) (olgens : Int32) (olplf : Nat → Int32) (olpaf : Nat → Int32) (ologf : Nat → Int32) (oldrf : Nat → Int32) (olspf : Nat → Int32) (olscf : Nat → Int32) (owmany : Int32) (owf : Nat → Int32) (osf : Nat → Int32)  (znoi : Int32) (zobs : Int32) (zres : Int32) (zlmany : Int32) (zlgens : Int32) (zlplf : Nat → Int32) (zlpaf : Nat → Int32) (zlogf : Nat → Int32) (zldrf : Nat → Int32) (zlspf : Nat → Int32) (zlscf : Nat → Int32) (zwmany : Int32) (zwf : Nat → Int32) (zsf : Nat → Int32) (hF : F_X4_copyState noi obs res lmany lgens lplf lpaf logf ldrf lspf lscf wmany wf sf onoi oobs ores olmany olgens olplf olpaf ologf oldrf olspf olscf owmany owf osf = some (znoi, zobs, zres, zlmany, zlgens, zlplf, zlpaf, zlogf, zldrf, zlspf, zlscf, zwmany, zwf, zsf)) (sz : Nat) : Met l yX4_copyState (wz yX4_copyState cX4_copyState 2 none) rmX4_copyState (kPw D cI cJ [(self, .inr (4, [.ref lself, .ref wself, .ref sself, .ref ch, .int noi, .int obs, .int res])), (lself, .inr (1, [.ref lplself, .ref lpaself, .ref logself, .ref ldrself, .ref lspself, .ref lscself, .int lmany, .int lgens])), (lplself, .inr (2, [.ref lpla])), (lpla, .inl (cI, 240, .inl lplf)), (lpaself, .inr (2, [.ref lpaa])), (lpaa, .inl (cI, 240, .inl lpaf)), (logself, .inr (2, [.ref loga])), (loga, .inl (cI, 20, .inl logf)), (ldrself, .inr (2, [.ref ldra])), (ldra, .inl (cI, 20, .inl ldrf)), (lspself, .inr (2, [.ref lspa])), (lspa, .inl (cI, 20, .inl lspf)), (lscself, .inr (2, [.ref lsca])), (lsca, .inl (cI, 20, .inl lscf)), (wself, .inr (5, [.ref wa, .int wmany])), (wa, .inl (cI, 12, .inl wf)), (sself, .inr (2, [.ref sa])), (sa, .inl (cI, 3, .inl sf)), (oself, .inr (4, [.ref olself, .ref owself, .ref osself, .ref och, .int onoi, .int oobs, .int ores])), (olself, .inr (1, [.ref olplself, .ref olpaself, .ref ologself, .ref oldrself, .ref olspself, .ref olscself, .int olmany, .int olgens])), (olplself, .inr (2, [.ref olpla])), (olpla, .inl (cI, 240, .inl olplf)), (olpaself, .inr (2, [.ref olpaa])), (olpaa, .inl (cI, 240, .inl olpaf)), (ologself, .inr (2, [.ref ologa])), (ologa, .inl (cI, 20, .inl ologf)), (oldrself, .inr (2, [.ref oldra])), (oldra, .inl (cI, 20, .inl oldrf)), (olspself, .inr (2, [.ref olspa])), (olspa, .inl (cI, 20, .inl olspf)), (olscself, .inr (2, [.ref olsca])), (olsca, .inl (cI, 20, .inl olscf)), (owself, .inr (5, [.ref owa, .int owmany])), (owa, .inl (cI, 12, .inl owf)), (osself, .inr (2, [.ref osa])), (osa, .inl (cI, 3, .inl osf))] sz [.ref self, .ref oself]) (kQv D [(self, .inr (4, [.ref lself, .ref wself, .ref sself, .ref ch, .int znoi, .int zobs, .int zres])), (lself, .inr (1, [.ref lplself, .ref lpaself, .ref logself, .ref ldrself, .ref lspself, .ref lscself, .int zlmany, .int zlgens])), (lplself, .inr (2, [.ref lpla])), (lpla, .inl (cI, 240, .inl zlplf)), (lpaself, .inr (2, [.ref lpaa])), (lpaa, .inl (cI, 240, .inl zlpaf)), (logself, .inr (2, [.ref loga])), (loga, .inl (cI, 20, .inl zlogf)), (ldrself, .inr (2, [.ref ldra])), (ldra, .inl (cI, 20, .inl zldrf)), (lspself, .inr (2, [.ref lspa])), (lspa, .inl (cI, 20, .inl zlspf)), (lscself, .inr (2, [.ref lsca])), (lsca, .inl (cI, 20, .inl zlscf)), (wself, .inr (5, [.ref wa, .int zwmany])), (wa, .inl (cI, 12, .inl zwf)), (sself, .inr (2, [.ref sa])), (sa, .inl (cI, 3, .inl zsf)), (oself, .inr (4, [.ref olself, .ref owself, .ref osself, .ref och, .int onoi, .int oobs, .int ores])), (olself, .inr (1, [.ref olplself, .ref olpaself, .ref ologself, .ref oldrself, .ref olspself, .ref olscself, .int olmany, .int olgens])), (olplself, .inr (2, [.ref olpla])), (olpla, .inl (cI, 240, .inl olplf)), (olpaself, .inr (2, [.ref olpaa])), (olpaa, .inl (cI, 240, .inl olpaf)), (ologself, .inr (2, [.ref ologa])), (ologa, .inl (cI, 20, .inl ologf)), (oldrself, .inr (2, [.ref oldra])), (oldra, .inl (cI, 20, .inl oldrf)), (olspself, .inr (2, [.ref olspa])), (olspa, .inl (cI, 20, .inl olspf)), (olscself, .inr (2, [.ref olsca])), (olsca, .inl (cI, 20, .inl olscf)), (owself, .inr (5, [.ref owa, .int owmany])), (owa, .inl (cI, 12, .inl owf)), (osself, .inr (2, [.ref osa])), (osa, .inl (cI, 3, .inl osf))] (va_A [(self, .inr (4, [.ref lself, .ref wself, .ref sself, .ref ch, .int noi, .int obs, .int res])), (lself, .inr (1, [.ref lplself, .ref lpaself, .ref logself, .ref ldrself, .ref lspself, .ref lscself, .int lmany, .int lgens])), (lplself, .inr (2, [.ref lpla])), (lpla, .inl (cI, 240, .inl lplf)), (lpaself, .inr (2, [.ref lpaa])), (lpaa, .inl (cI, 240, .inl lpaf)), (logself, .inr (2, [.ref loga])), (loga, .inl (cI, 20, .inl logf)), (ldrself, .inr (2, [.ref ldra])), (ldra, .inl (cI, 20, .inl ldrf)), (lspself, .inr (2, [.ref lspa])), (lspa, .inl (cI, 20, .inl lspf)), (lscself, .inr (2, [.ref lsca])), (lsca, .inl (cI, 20, .inl lscf)), (wself, .inr (5, [.ref wa, .int wmany])), (wa, .inl (cI, 12, .inl wf)), (sself, .inr (2, [.ref sa])), (sa, .inl (cI, 3, .inl sf)), (oself, .inr (4, [.ref olself, .ref owself, .ref osself, .ref och, .int onoi, .int oobs, .int ores])), (olself, .inr (1, [.ref olplself, .ref olpaself, .ref ologself, .ref oldrself, .ref olspself, .ref olscself, .int olmany, .int olgens])), (olplself, .inr (2, [.ref olpla])), (olpla, .inl (cI, 240, .inl olplf)), (olpaself, .inr (2, [.ref olpaa])), (olpaa, .inl (cI, 240, .inl olpaf)), (ologself, .inr (2, [.ref ologa])), (ologa, .inl (cI, 20, .inl ologf)), (oldrself, .inr (2, [.ref oldra])), (oldra, .inl (cI, 20, .inl oldrf)), (olspself, .inr (2, [.ref olspa])), (olspa, .inl (cI, 20, .inl olspf)), (olscself, .inr (2, [.ref olsca])), (olsca, .inl (cI, 20, .inl olscf)), (owself, .inr (5, [.ref owa, .int owmany])), (owa, .inl (cI, 12, .inl owf)), (osself, .inr (2, [.ref osa])), (osa, .inl (cI, 3, .inl osf))] sz)) 0 0 (va_A [(self, .inr (4, [.ref lself, .ref wself, .ref sself, .ref ch, .int noi, .int obs, .int res])), (lself, .inr (1, [.ref lplself, .ref lpaself, .ref logself, .ref ldrself, .ref lspself, .ref lscself, .int lmany, .int lgens])), (lplself, .inr (2, [.ref lpla])), (lpla, .inl (cI, 240, .inl lplf)), (lpaself, .inr (2, [.ref lpaa])), (lpaa, .inl (cI, 240, .inl lpaf)), (logself, .inr (2, [.ref loga])), (loga, .inl (cI, 20, .inl logf)), (ldrself, .inr (2, [.ref ldra])), (ldra, .inl (cI, 20, .inl ldrf)), (lspself, .inr (2, [.ref lspa])), (lspa, .inl (cI, 20, .inl lspf)), (lscself, .inr (2, [.ref lsca])), (lsca, .inl (cI, 20, .inl lscf)), (wself, .inr (5, [.ref wa, .int wmany])), (wa, .inl (cI, 12, .inl wf)), (sself, .inr (2, [.ref sa])), (sa, .inl (cI, 3, .inl sf)), (oself, .inr (4, [.ref olself, .ref owself, .ref osself, .ref och, .int onoi, .int oobs, .int ores])), (olself, .inr (1, [.ref olplself, .ref olpaself, .ref ologself, .ref oldrself, .ref olspself, .ref olscself, .int olmany, .int olgens])), (olplself, .inr (2, [.ref olpla])), (olpla, .inl (cI, 240, .inl olplf)), (olpaself, .inr (2, [.ref olpaa])), (olpaa, .inl (cI, 240, .inl olpaf)), (ologself, .inr (2, [.ref ologa])), (ologa, .inl (cI, 20, .inl ologf)), (oldrself, .inr (2, [.ref oldra])), (oldra, .inl (cI, 20, .inl oldrf)), (olspself, .inr (2, [.ref olspa])), (olspa, .inl (cI, 20, .inl olspf)), (olscself, .inr (2, [.ref olsca])), (olsca, .inl (cI, 20, .inl olscf)), (owself, .inr (5, [.ref owa, .int owmany])), (owa, .inl (cI, 12, .inl owf)), (osself, .inr (2, [.ref osa])), (osa, .inl (cI, 3, .inl osf))] sz) := by
  refine kM_wv cX4_copyState 2 (by decide +kernel) rfl rfl (Nat.le_of_ble_eq_true rfl) ⟨rfl, rfl⟩ ?_
  intro p e s m args below meth c Q A ls hx hb hml hown hts hP hK hD hA hS hl hret
  have hk44 := hts _ (List.mem_cons_of_mem _ wl44)
  have hk48 := hts _ (List.mem_cons_of_mem _ wl48)
  have hk52 := hts _ (List.mem_cons_of_mem _ wl52)
  have hk91 := hts _ (List.mem_cons_of_mem _ wl91)
  have hk92 := hts _ (List.mem_cons_of_mem _ wl92)
  have hk93 := hts _ (List.mem_cons_of_mem _ wl93)
  have hnX4 : ∀ w ∈ u_ws RX4 TX4 7, w ∈ wz yX4_copyState cX4_copyState 2 none := fun w h => List.mem_cons_of_mem _ (inlX4 w h)
  replace hl : lv_has ls 2 [(0, .ref self), (1, .ref oself)] := hl
  have h := hF
  unfold F_X4_copyState at h
  refine lv_aload_n (pc := 0) hx hb dX4_copyState_0 rfl (lv_at hl 0 rfl) ?_
  refine va_get (pc := 1) (D := D) (ci := 4) (v := .ref lself) (C := RX4) (T := TX4) (N := 7) hx hb hts hnX4 hown hK.1 hP 0 rfl rfl 0 (Nat.le_of_ble_eq_true rfl) hk44 (fun _ h9 => h9) rfl dX4_copyState_1 ?_
  refine lv_aload_n (pc := 4) hx hb dX4_copyState_4 rfl (lv_at hl 1 rfl) ?_
  refine va_get (pc := 5) (D := D) (ci := 4) (v := .ref olself) (C := RX4) (T := TX4) (N := 7) hx hb hts hnX4 hown hK.1 hP 18 rfl rfl 0 (Nat.le_of_ble_eq_true rfl) hk44 (fun _ h9 => h9) rfl dX4_copyState_5 ?_
  obtain ⟨u1, u2, f3, f4, f5, f6, f7, f8, hc8, h⟩ := am_call8_s h
  refine kc_Wv (pc := 8) (ci := 1) ⟨hx, hb, hml, hown, hts⟩ hP hK hD hS hA [.ref olself] (c_X1_copyLineage l D cI cJ lself lplself lpla lpaself lpaa logself loga ldrself ldra lspself lspa lscself lsca olself olplself olpla olpaself olpaa ologself ologa oldrself oldra olspself olspa olscself olsca lmany lgens lplf lpaf logf ldrf lspf lscf olmany olgens olplf olpaf ologf oldrf olspf olscf u1 u2 f3 f4 f5 f6 f7 f8 hc8 _) [1, 2, 3, 4, 5, 6, 7, 8, 9, 10, 11, 12, 13, 19, 20, 21, 22, 23, 24, 25, 26, 27, 28, 29, 30, 31] rfl rfl rfl (cwV 1 hts (gzV wl303 wl304 wl305 wl43 wl306) rfl rfl rfl ⟨rfl, hdX1_copyLineage⟩ ⟨Nat.le_of_ble_eq_true rfl, Nat.le_of_ble_eq_true rfl⟩) rfl rfl [] rfl hl.1 rfl (Nat.le_of_ble_eq_true rfl) dX4_copyState_8 ⟨Nat.zero_le _, Nat.zero_le _⟩ (fun H locs hP hD hS => ?_)
  replace hP : va_P D vwCl [(self, .inr (4, [.ref lself, .ref wself, .ref sself, .ref ch, .int noi, .int obs, .int res])), (lself, .inr (1, [.ref lplself, .ref lpaself, .ref logself, .ref ldrself, .ref lspself, .ref lscself, .int u1, .int u2])), (lplself, .inr (2, [.ref lpla])), (lpla, .inl (cI, 240, .inl f3)), (lpaself, .inr (2, [.ref lpaa])), (lpaa, .inl (cI, 240, .inl f4)), (logself, .inr (2, [.ref loga])), (loga, .inl (cI, 20, .inl f5)), (ldrself, .inr (2, [.ref ldra])), (ldra, .inl (cI, 20, .inl f6)), (lspself, .inr (2, [.ref lspa])), (lspa, .inl (cI, 20, .inl f7)), (lscself, .inr (2, [.ref lsca])), (lsca, .inl (cI, 20, .inl f8)), (wself, .inr (5, [.ref wa, .int wmany])), (wa, .inl (cI, 12, .inl wf)), (sself, .inr (2, [.ref sa])), (sa, .inl (cI, 3, .inl sf)), (oself, .inr (4, [.ref olself, .ref owself, .ref osself, .ref och, .int onoi, .int oobs, .int ores])), (olself, .inr (1, [.ref olplself, .ref olpaself, .ref ologself, .ref oldrself, .ref olspself, .ref olscself, .int olmany, .int olgens])), (olplself, .inr (2, [.ref olpla])), (olpla, .inl (cI, 240, .inl olplf)), (olpaself, .inr (2, [.ref olpaa])), (olpaa, .inl (cI, 240, .inl olpaf)), (ologself, .inr (2, [.ref ologa])), (ologa, .inl (cI, 20, .inl ologf)), (oldrself, .inr (2, [.ref oldra])), (oldra, .inl (cI, 20, .inl oldrf)), (olspself, .inr (2, [.ref olspa])), (olspa, .inl (cI, 20, .inl olspf)), (olscself, .inr (2, [.ref olsca])), (olsca, .inl (cI, 20, .inl olscf)), (owself, .inr (5, [.ref owa, .int owmany])), (owa, .inl (cI, 12, .inl owf)), (osself, .inr (2, [.ref osa])), (osa, .inl (cI, 3, .inl osf))] H := hP
  replace hD : va_D A [(self, .inr (4, [.ref lself, .ref wself, .ref sself, .ref ch, .int noi, .int obs, .int res])), (lself, .inr (1, [.ref lplself, .ref lpaself, .ref logself, .ref ldrself, .ref lspself, .ref lscself, .int u1, .int u2])), (lplself, .inr (2, [.ref lpla])), (lpla, .inl (cI, 240, .inl f3)), (lpaself, .inr (2, [.ref lpaa])), (lpaa, .inl (cI, 240, .inl f4)), (logself, .inr (2, [.ref loga])), (loga, .inl (cI, 20, .inl f5)), (ldrself, .inr (2, [.ref ldra])), (ldra, .inl (cI, 20, .inl f6)), (lspself, .inr (2, [.ref lspa])), (lspa, .inl (cI, 20, .inl f7)), (lscself, .inr (2, [.ref lsca])), (lsca, .inl (cI, 20, .inl f8)), (wself, .inr (5, [.ref wa, .int wmany])), (wa, .inl (cI, 12, .inl wf)), (sself, .inr (2, [.ref sa])), (sa, .inl (cI, 3, .inl sf)), (oself, .inr (4, [.ref olself, .ref owself, .ref osself, .ref och, .int onoi, .int oobs, .int ores])), (olself, .inr (1, [.ref olplself, .ref olpaself, .ref ologself, .ref oldrself, .ref olspself, .ref olscself, .int olmany, .int olgens])), (olplself, .inr (2, [.ref olpla])), (olpla, .inl (cI, 240, .inl olplf)), (olpaself, .inr (2, [.ref olpaa])), (olpaa, .inl (cI, 240, .inl olpaf)), (ologself, .inr (2, [.ref ologa])), (ologa, .inl (cI, 20, .inl ologf)), (oldrself, .inr (2, [.ref oldra])), (oldra, .inl (cI, 20, .inl oldrf)), (olspself, .inr (2, [.ref olspa])), (olspa, .inl (cI, 20, .inl olspf)), (olscself, .inr (2, [.ref olsca])), (olsca, .inl (cI, 20, .inl olscf)), (owself, .inr (5, [.ref owa, .int owmany])), (owa, .inl (cI, 12, .inl owf)), (osself, .inr (2, [.ref osa])), (osa, .inl (cI, 3, .inl osf))] := hD
  refine lv_aload_n (pc := 11) hx hb dX4_copyState_11 rfl (lv_at hl 0 rfl) ?_
  refine va_get (pc := 12) (D := D) (ci := 4) (v := .ref wself) (C := RX4) (T := TX4) (N := 7) hx hb hts hnX4 hown hK.1 hP 0 rfl rfl 1 (Nat.le_of_ble_eq_true rfl) hk48 (fun _ h9 => h9) rfl dX4_copyState_12 ?_
  refine lv_aload_n (pc := 15) hx hb dX4_copyState_15 rfl (lv_at hl 1 rfl) ?_
  refine va_get (pc := 16) (D := D) (ci := 4) (v := .ref owself) (C := RX4) (T := TX4) (N := 7) hx hb hts hnX4 hown hK.1 hP 18 rfl rfl 1 (Nat.le_of_ble_eq_true rfl) hk48 (fun _ h9 => h9) rfl dX4_copyState_16 ?_
  obtain ⟨u9, f10, hc10, h⟩ := am_call2_s h
  refine kc_Wv (pc := 19) (ci := 5) ⟨hx, hb, hml, hown, hts⟩ hP hK hD hS hA [.ref owself] (c_X5_copyWeights l D cI cJ wself wa owself owa wmany wf owmany owf u9 f10 hc10 _) [14, 15, 32, 33] rfl rfl rfl (cwV 1 hts (gzV wl311 wl312 wl313 wl47 wl314) rfl rfl rfl ⟨rfl, hdX5_copyWeights⟩ ⟨Nat.le_of_ble_eq_true rfl, Nat.le_of_ble_eq_true rfl⟩) rfl rfl [] rfl hl.1 rfl (Nat.le_of_ble_eq_true rfl) dX4_copyState_19 ⟨Nat.zero_le _, Nat.zero_le _⟩ (fun H locs hP hD hS => ?_)
  replace hP : va_P D vwCl [(self, .inr (4, [.ref lself, .ref wself, .ref sself, .ref ch, .int noi, .int obs, .int res])), (lself, .inr (1, [.ref lplself, .ref lpaself, .ref logself, .ref ldrself, .ref lspself, .ref lscself, .int u1, .int u2])), (lplself, .inr (2, [.ref lpla])), (lpla, .inl (cI, 240, .inl f3)), (lpaself, .inr (2, [.ref lpaa])), (lpaa, .inl (cI, 240, .inl f4)), (logself, .inr (2, [.ref loga])), (loga, .inl (cI, 20, .inl f5)), (ldrself, .inr (2, [.ref ldra])), (ldra, .inl (cI, 20, .inl f6)), (lspself, .inr (2, [.ref lspa])), (lspa, .inl (cI, 20, .inl f7)), (lscself, .inr (2, [.ref lsca])), (lsca, .inl (cI, 20, .inl f8)), (wself, .inr (5, [.ref wa, .int u9])), (wa, .inl (cI, 12, .inl f10)), (sself, .inr (2, [.ref sa])), (sa, .inl (cI, 3, .inl sf)), (oself, .inr (4, [.ref olself, .ref owself, .ref osself, .ref och, .int onoi, .int oobs, .int ores])), (olself, .inr (1, [.ref olplself, .ref olpaself, .ref ologself, .ref oldrself, .ref olspself, .ref olscself, .int olmany, .int olgens])), (olplself, .inr (2, [.ref olpla])), (olpla, .inl (cI, 240, .inl olplf)), (olpaself, .inr (2, [.ref olpaa])), (olpaa, .inl (cI, 240, .inl olpaf)), (ologself, .inr (2, [.ref ologa])), (ologa, .inl (cI, 20, .inl ologf)), (oldrself, .inr (2, [.ref oldra])), (oldra, .inl (cI, 20, .inl oldrf)), (olspself, .inr (2, [.ref olspa])), (olspa, .inl (cI, 20, .inl olspf)), (olscself, .inr (2, [.ref olsca])), (olsca, .inl (cI, 20, .inl olscf)), (owself, .inr (5, [.ref owa, .int owmany])), (owa, .inl (cI, 12, .inl owf)), (osself, .inr (2, [.ref osa])), (osa, .inl (cI, 3, .inl osf))] H := hP
  replace hD : va_D A [(self, .inr (4, [.ref lself, .ref wself, .ref sself, .ref ch, .int noi, .int obs, .int res])), (lself, .inr (1, [.ref lplself, .ref lpaself, .ref logself, .ref ldrself, .ref lspself, .ref lscself, .int u1, .int u2])), (lplself, .inr (2, [.ref lpla])), (lpla, .inl (cI, 240, .inl f3)), (lpaself, .inr (2, [.ref lpaa])), (lpaa, .inl (cI, 240, .inl f4)), (logself, .inr (2, [.ref loga])), (loga, .inl (cI, 20, .inl f5)), (ldrself, .inr (2, [.ref ldra])), (ldra, .inl (cI, 20, .inl f6)), (lspself, .inr (2, [.ref lspa])), (lspa, .inl (cI, 20, .inl f7)), (lscself, .inr (2, [.ref lsca])), (lsca, .inl (cI, 20, .inl f8)), (wself, .inr (5, [.ref wa, .int u9])), (wa, .inl (cI, 12, .inl f10)), (sself, .inr (2, [.ref sa])), (sa, .inl (cI, 3, .inl sf)), (oself, .inr (4, [.ref olself, .ref owself, .ref osself, .ref och, .int onoi, .int oobs, .int ores])), (olself, .inr (1, [.ref olplself, .ref olpaself, .ref ologself, .ref oldrself, .ref olspself, .ref olscself, .int olmany, .int olgens])), (olplself, .inr (2, [.ref olpla])), (olpla, .inl (cI, 240, .inl olplf)), (olpaself, .inr (2, [.ref olpaa])), (olpaa, .inl (cI, 240, .inl olpaf)), (ologself, .inr (2, [.ref ologa])), (ologa, .inl (cI, 20, .inl ologf)), (oldrself, .inr (2, [.ref oldra])), (oldra, .inl (cI, 20, .inl oldrf)), (olspself, .inr (2, [.ref olspa])), (olspa, .inl (cI, 20, .inl olspf)), (olscself, .inr (2, [.ref olsca])), (olsca, .inl (cI, 20, .inl olscf)), (owself, .inr (5, [.ref owa, .int owmany])), (owa, .inl (cI, 12, .inl owf)), (osself, .inr (2, [.ref osa])), (osa, .inl (cI, 3, .inl osf))] := hD
  refine lv_aload_n (pc := 22) hx hb dX4_copyState_22 rfl (lv_at hl 0 rfl) ?_
  refine va_get (pc := 23) (D := D) (ci := 4) (v := .ref sself) (C := RX4) (T := TX4) (N := 7) hx hb hts hnX4 hown hK.1 hP 0 rfl rfl 2 (Nat.le_of_ble_eq_true rfl) hk52 (fun _ h9 => h9) rfl dX4_copyState_23 ?_
  refine lv_aload_n (pc := 26) hx hb dX4_copyState_26 rfl (lv_at hl 1 rfl) ?_
  refine va_get (pc := 27) (D := D) (ci := 4) (v := .ref osself) (C := RX4) (T := TX4) (N := 7) hx hb hts hnX4 hown hK.1 hP 18 rfl rfl 2 (Nat.le_of_ble_eq_true rfl) hk52 (fun _ h9 => h9) rfl dX4_copyState_27 ?_
  obtain ⟨f11, hc11, h⟩ := am_bind_s h
  refine kc_Wv (pc := 30) (ci := 2) ⟨hx, hb, hml, hown, hts⟩ hP hK hD hS hA [.ref osself] (c_X2_copyRow l D cI cJ sself sa osself osa 3 3 sf osf f11 hc11 _) [16, 17, 34, 35] rfl rfl rfl (cwV 1 hts (gzV wl315 wl308 wl309 wl51 wl310) rfl rfl rfl ⟨rfl, hdX2_copyRow⟩ ⟨Nat.le_of_ble_eq_true rfl, Nat.le_of_ble_eq_true rfl⟩) rfl rfl [] rfl hl.1 rfl (Nat.le_of_ble_eq_true rfl) dX4_copyState_30 ⟨Nat.zero_le _, Nat.zero_le _⟩ (fun H locs hP hD hS => ?_)
  replace hP : va_P D vwCl [(self, .inr (4, [.ref lself, .ref wself, .ref sself, .ref ch, .int noi, .int obs, .int res])), (lself, .inr (1, [.ref lplself, .ref lpaself, .ref logself, .ref ldrself, .ref lspself, .ref lscself, .int u1, .int u2])), (lplself, .inr (2, [.ref lpla])), (lpla, .inl (cI, 240, .inl f3)), (lpaself, .inr (2, [.ref lpaa])), (lpaa, .inl (cI, 240, .inl f4)), (logself, .inr (2, [.ref loga])), (loga, .inl (cI, 20, .inl f5)), (ldrself, .inr (2, [.ref ldra])), (ldra, .inl (cI, 20, .inl f6)), (lspself, .inr (2, [.ref lspa])), (lspa, .inl (cI, 20, .inl f7)), (lscself, .inr (2, [.ref lsca])), (lsca, .inl (cI, 20, .inl f8)), (wself, .inr (5, [.ref wa, .int u9])), (wa, .inl (cI, 12, .inl f10)), (sself, .inr (2, [.ref sa])), (sa, .inl (cI, 3, .inl f11)), (oself, .inr (4, [.ref olself, .ref owself, .ref osself, .ref och, .int onoi, .int oobs, .int ores])), (olself, .inr (1, [.ref olplself, .ref olpaself, .ref ologself, .ref oldrself, .ref olspself, .ref olscself, .int olmany, .int olgens])), (olplself, .inr (2, [.ref olpla])), (olpla, .inl (cI, 240, .inl olplf)), (olpaself, .inr (2, [.ref olpaa])), (olpaa, .inl (cI, 240, .inl olpaf)), (ologself, .inr (2, [.ref ologa])), (ologa, .inl (cI, 20, .inl ologf)), (oldrself, .inr (2, [.ref oldra])), (oldra, .inl (cI, 20, .inl oldrf)), (olspself, .inr (2, [.ref olspa])), (olspa, .inl (cI, 20, .inl olspf)), (olscself, .inr (2, [.ref olsca])), (olsca, .inl (cI, 20, .inl olscf)), (owself, .inr (5, [.ref owa, .int owmany])), (owa, .inl (cI, 12, .inl owf)), (osself, .inr (2, [.ref osa])), (osa, .inl (cI, 3, .inl osf))] H := hP
  replace hD : va_D A [(self, .inr (4, [.ref lself, .ref wself, .ref sself, .ref ch, .int noi, .int obs, .int res])), (lself, .inr (1, [.ref lplself, .ref lpaself, .ref logself, .ref ldrself, .ref lspself, .ref lscself, .int u1, .int u2])), (lplself, .inr (2, [.ref lpla])), (lpla, .inl (cI, 240, .inl f3)), (lpaself, .inr (2, [.ref lpaa])), (lpaa, .inl (cI, 240, .inl f4)), (logself, .inr (2, [.ref loga])), (loga, .inl (cI, 20, .inl f5)), (ldrself, .inr (2, [.ref ldra])), (ldra, .inl (cI, 20, .inl f6)), (lspself, .inr (2, [.ref lspa])), (lspa, .inl (cI, 20, .inl f7)), (lscself, .inr (2, [.ref lsca])), (lsca, .inl (cI, 20, .inl f8)), (wself, .inr (5, [.ref wa, .int u9])), (wa, .inl (cI, 12, .inl f10)), (sself, .inr (2, [.ref sa])), (sa, .inl (cI, 3, .inl f11)), (oself, .inr (4, [.ref olself, .ref owself, .ref osself, .ref och, .int onoi, .int oobs, .int ores])), (olself, .inr (1, [.ref olplself, .ref olpaself, .ref ologself, .ref oldrself, .ref olspself, .ref olscself, .int olmany, .int olgens])), (olplself, .inr (2, [.ref olpla])), (olpla, .inl (cI, 240, .inl olplf)), (olpaself, .inr (2, [.ref olpaa])), (olpaa, .inl (cI, 240, .inl olpaf)), (ologself, .inr (2, [.ref ologa])), (ologa, .inl (cI, 20, .inl ologf)), (oldrself, .inr (2, [.ref oldra])), (oldra, .inl (cI, 20, .inl oldrf)), (olspself, .inr (2, [.ref olspa])), (olspa, .inl (cI, 20, .inl olspf)), (olscself, .inr (2, [.ref olsca])), (olsca, .inl (cI, 20, .inl olscf)), (owself, .inr (5, [.ref owa, .int owmany])), (owa, .inl (cI, 12, .inl owf)), (osself, .inr (2, [.ref osa])), (osa, .inl (cI, 3, .inl osf))] := hD
  refine lv_aload_n (pc := 33) hx hb dX4_copyState_33 rfl (lv_at hl 0 rfl) ?_
  refine lv_aload_n (pc := 34) hx hb dX4_copyState_34 rfl (lv_at hl 1 rfl) ?_
  refine va_get (pc := 35) (D := D) (ci := 4) (v := .int onoi) (C := RX4) (T := TX4) (N := 7) hx hb hts hnX4 hown hK.1 hP 18 rfl rfl 4 (Nat.le_of_ble_eq_true rfl) hk91 (fun _ h9 => h9) rfl dX4_copyState_35 ?_
  refine va_put (pc := 38) (D := D) (ci := 4) (v := .int onoi) (ty := .int) (C := RX4) (T := TX4) (N := 7) hx hb hts hnX4 tyX4 tyX4_ok nmX4 hown hK.1 hP hD hS 0 rfl rfl 4 (Nat.le_of_ble_eq_true rfl) hk91 (fun _ h9 => h9) rfl (by decide +kernel) rfl rfl (Nat.le_of_ble_eq_true rfl) dX4_copyState_38 (fun H locs hP hD hS => ?_)
  replace hP : va_P D vwCl [(self, .inr (4, [.ref lself, .ref wself, .ref sself, .ref ch, .int onoi, .int obs, .int res])), (lself, .inr (1, [.ref lplself, .ref lpaself, .ref logself, .ref ldrself, .ref lspself, .ref lscself, .int u1, .int u2])), (lplself, .inr (2, [.ref lpla])), (lpla, .inl (cI, 240, .inl f3)), (lpaself, .inr (2, [.ref lpaa])), (lpaa, .inl (cI, 240, .inl f4)), (logself, .inr (2, [.ref loga])), (loga, .inl (cI, 20, .inl f5)), (ldrself, .inr (2, [.ref ldra])), (ldra, .inl (cI, 20, .inl f6)), (lspself, .inr (2, [.ref lspa])), (lspa, .inl (cI, 20, .inl f7)), (lscself, .inr (2, [.ref lsca])), (lsca, .inl (cI, 20, .inl f8)), (wself, .inr (5, [.ref wa, .int u9])), (wa, .inl (cI, 12, .inl f10)), (sself, .inr (2, [.ref sa])), (sa, .inl (cI, 3, .inl f11)), (oself, .inr (4, [.ref olself, .ref owself, .ref osself, .ref och, .int onoi, .int oobs, .int ores])), (olself, .inr (1, [.ref olplself, .ref olpaself, .ref ologself, .ref oldrself, .ref olspself, .ref olscself, .int olmany, .int olgens])), (olplself, .inr (2, [.ref olpla])), (olpla, .inl (cI, 240, .inl olplf)), (olpaself, .inr (2, [.ref olpaa])), (olpaa, .inl (cI, 240, .inl olpaf)), (ologself, .inr (2, [.ref ologa])), (ologa, .inl (cI, 20, .inl ologf)), (oldrself, .inr (2, [.ref oldra])), (oldra, .inl (cI, 20, .inl oldrf)), (olspself, .inr (2, [.ref olspa])), (olspa, .inl (cI, 20, .inl olspf)), (olscself, .inr (2, [.ref olsca])), (olsca, .inl (cI, 20, .inl olscf)), (owself, .inr (5, [.ref owa, .int owmany])), (owa, .inl (cI, 12, .inl owf)), (osself, .inr (2, [.ref osa])), (osa, .inl (cI, 3, .inl osf))] H := hP
  replace hD : va_D A [(self, .inr (4, [.ref lself, .ref wself, .ref sself, .ref ch, .int onoi, .int obs, .int res])), (lself, .inr (1, [.ref lplself, .ref lpaself, .ref logself, .ref ldrself, .ref lspself, .ref lscself, .int u1, .int u2])), (lplself, .inr (2, [.ref lpla])), (lpla, .inl (cI, 240, .inl f3)), (lpaself, .inr (2, [.ref lpaa])), (lpaa, .inl (cI, 240, .inl f4)), (logself, .inr (2, [.ref loga])), (loga, .inl (cI, 20, .inl f5)), (ldrself, .inr (2, [.ref ldra])), (ldra, .inl (cI, 20, .inl f6)), (lspself, .inr (2, [.ref lspa])), (lspa, .inl (cI, 20, .inl f7)), (lscself, .inr (2, [.ref lsca])), (lsca, .inl (cI, 20, .inl f8)), (wself, .inr (5, [.ref wa, .int u9])), (wa, .inl (cI, 12, .inl f10)), (sself, .inr (2, [.ref sa])), (sa, .inl (cI, 3, .inl f11)), (oself, .inr (4, [.ref olself, .ref owself, .ref osself, .ref och, .int onoi, .int oobs, .int ores])), (olself, .inr (1, [.ref olplself, .ref olpaself, .ref ologself, .ref oldrself, .ref olspself, .ref olscself, .int olmany, .int olgens])), (olplself, .inr (2, [.ref olpla])), (olpla, .inl (cI, 240, .inl olplf)), (olpaself, .inr (2, [.ref olpaa])), (olpaa, .inl (cI, 240, .inl olpaf)), (ologself, .inr (2, [.ref ologa])), (ologa, .inl (cI, 20, .inl ologf)), (oldrself, .inr (2, [.ref oldra])), (oldra, .inl (cI, 20, .inl oldrf)), (olspself, .inr (2, [.ref olspa])), (olspa, .inl (cI, 20, .inl olspf)), (olscself, .inr (2, [.ref olsca])), (olsca, .inl (cI, 20, .inl olscf)), (owself, .inr (5, [.ref owa, .int owmany])), (owa, .inl (cI, 12, .inl owf)), (osself, .inr (2, [.ref osa])), (osa, .inl (cI, 3, .inl osf))] := hD
  refine lv_aload_n (pc := 41) hx hb dX4_copyState_41 rfl (lv_at hl 0 rfl) ?_
  refine lv_aload_n (pc := 42) hx hb dX4_copyState_42 rfl (lv_at hl 1 rfl) ?_
  refine va_get (pc := 43) (D := D) (ci := 4) (v := .int oobs) (C := RX4) (T := TX4) (N := 7) hx hb hts hnX4 hown hK.1 hP 18 rfl rfl 5 (Nat.le_of_ble_eq_true rfl) hk92 (fun _ h9 => h9) rfl dX4_copyState_43 ?_
  refine va_put (pc := 46) (D := D) (ci := 4) (v := .int oobs) (ty := .int) (C := RX4) (T := TX4) (N := 7) hx hb hts hnX4 tyX4 tyX4_ok nmX4 hown hK.1 hP hD hS 0 rfl rfl 5 (Nat.le_of_ble_eq_true rfl) hk92 (fun _ h9 => h9) rfl (by decide +kernel) rfl rfl (Nat.le_of_ble_eq_true rfl) dX4_copyState_46 (fun H locs hP hD hS => ?_)
  replace hP : va_P D vwCl [(self, .inr (4, [.ref lself, .ref wself, .ref sself, .ref ch, .int onoi, .int oobs, .int res])), (lself, .inr (1, [.ref lplself, .ref lpaself, .ref logself, .ref ldrself, .ref lspself, .ref lscself, .int u1, .int u2])), (lplself, .inr (2, [.ref lpla])), (lpla, .inl (cI, 240, .inl f3)), (lpaself, .inr (2, [.ref lpaa])), (lpaa, .inl (cI, 240, .inl f4)), (logself, .inr (2, [.ref loga])), (loga, .inl (cI, 20, .inl f5)), (ldrself, .inr (2, [.ref ldra])), (ldra, .inl (cI, 20, .inl f6)), (lspself, .inr (2, [.ref lspa])), (lspa, .inl (cI, 20, .inl f7)), (lscself, .inr (2, [.ref lsca])), (lsca, .inl (cI, 20, .inl f8)), (wself, .inr (5, [.ref wa, .int u9])), (wa, .inl (cI, 12, .inl f10)), (sself, .inr (2, [.ref sa])), (sa, .inl (cI, 3, .inl f11)), (oself, .inr (4, [.ref olself, .ref owself, .ref osself, .ref och, .int onoi, .int oobs, .int ores])), (olself, .inr (1, [.ref olplself, .ref olpaself, .ref ologself, .ref oldrself, .ref olspself, .ref olscself, .int olmany, .int olgens])), (olplself, .inr (2, [.ref olpla])), (olpla, .inl (cI, 240, .inl olplf)), (olpaself, .inr (2, [.ref olpaa])), (olpaa, .inl (cI, 240, .inl olpaf)), (ologself, .inr (2, [.ref ologa])), (ologa, .inl (cI, 20, .inl ologf)), (oldrself, .inr (2, [.ref oldra])), (oldra, .inl (cI, 20, .inl oldrf)), (olspself, .inr (2, [.ref olspa])), (olspa, .inl (cI, 20, .inl olspf)), (olscself, .inr (2, [.ref olsca])), (olsca, .inl (cI, 20, .inl olscf)), (owself, .inr (5, [.ref owa, .int owmany])), (owa, .inl (cI, 12, .inl owf)), (osself, .inr (2, [.ref osa])), (osa, .inl (cI, 3, .inl osf))] H := hP
  replace hD : va_D A [(self, .inr (4, [.ref lself, .ref wself, .ref sself, .ref ch, .int onoi, .int oobs, .int res])), (lself, .inr (1, [.ref lplself, .ref lpaself, .ref logself, .ref ldrself, .ref lspself, .ref lscself, .int u1, .int u2])), (lplself, .inr (2, [.ref lpla])), (lpla, .inl (cI, 240, .inl f3)), (lpaself, .inr (2, [.ref lpaa])), (lpaa, .inl (cI, 240, .inl f4)), (logself, .inr (2, [.ref loga])), (loga, .inl (cI, 20, .inl f5)), (ldrself, .inr (2, [.ref ldra])), (ldra, .inl (cI, 20, .inl f6)), (lspself, .inr (2, [.ref lspa])), (lspa, .inl (cI, 20, .inl f7)), (lscself, .inr (2, [.ref lsca])), (lsca, .inl (cI, 20, .inl f8)), (wself, .inr (5, [.ref wa, .int u9])), (wa, .inl (cI, 12, .inl f10)), (sself, .inr (2, [.ref sa])), (sa, .inl (cI, 3, .inl f11)), (oself, .inr (4, [.ref olself, .ref owself, .ref osself, .ref och, .int onoi, .int oobs, .int ores])), (olself, .inr (1, [.ref olplself, .ref olpaself, .ref ologself, .ref oldrself, .ref olspself, .ref olscself, .int olmany, .int olgens])), (olplself, .inr (2, [.ref olpla])), (olpla, .inl (cI, 240, .inl olplf)), (olpaself, .inr (2, [.ref olpaa])), (olpaa, .inl (cI, 240, .inl olpaf)), (ologself, .inr (2, [.ref ologa])), (ologa, .inl (cI, 20, .inl ologf)), (oldrself, .inr (2, [.ref oldra])), (oldra, .inl (cI, 20, .inl oldrf)), (olspself, .inr (2, [.ref olspa])), (olspa, .inl (cI, 20, .inl olspf)), (olscself, .inr (2, [.ref olsca])), (olsca, .inl (cI, 20, .inl olscf)), (owself, .inr (5, [.ref owa, .int owmany])), (owa, .inl (cI, 12, .inl owf)), (osself, .inr (2, [.ref osa])), (osa, .inl (cI, 3, .inl osf))] := hD
  refine lv_aload_n (pc := 49) hx hb dX4_copyState_49 rfl (lv_at hl 0 rfl) ?_
  refine lv_aload_n (pc := 50) hx hb dX4_copyState_50 rfl (lv_at hl 1 rfl) ?_
  refine va_get (pc := 51) (D := D) (ci := 4) (v := .int ores) (C := RX4) (T := TX4) (N := 7) hx hb hts hnX4 hown hK.1 hP 18 rfl rfl 6 (Nat.le_of_ble_eq_true rfl) hk93 (fun _ h9 => h9) rfl dX4_copyState_51 ?_
  refine va_put (pc := 54) (D := D) (ci := 4) (v := .int ores) (ty := .int) (C := RX4) (T := TX4) (N := 7) hx hb hts hnX4 tyX4 tyX4_ok nmX4 hown hK.1 hP hD hS 0 rfl rfl 6 (Nat.le_of_ble_eq_true rfl) hk93 (fun _ h9 => h9) rfl (by decide +kernel) rfl rfl (Nat.le_of_ble_eq_true rfl) dX4_copyState_54 (fun H locs hP hD hS => ?_)
  replace hP : va_P D vwCl [(self, .inr (4, [.ref lself, .ref wself, .ref sself, .ref ch, .int onoi, .int oobs, .int ores])), (lself, .inr (1, [.ref lplself, .ref lpaself, .ref logself, .ref ldrself, .ref lspself, .ref lscself, .int u1, .int u2])), (lplself, .inr (2, [.ref lpla])), (lpla, .inl (cI, 240, .inl f3)), (lpaself, .inr (2, [.ref lpaa])), (lpaa, .inl (cI, 240, .inl f4)), (logself, .inr (2, [.ref loga])), (loga, .inl (cI, 20, .inl f5)), (ldrself, .inr (2, [.ref ldra])), (ldra, .inl (cI, 20, .inl f6)), (lspself, .inr (2, [.ref lspa])), (lspa, .inl (cI, 20, .inl f7)), (lscself, .inr (2, [.ref lsca])), (lsca, .inl (cI, 20, .inl f8)), (wself, .inr (5, [.ref wa, .int u9])), (wa, .inl (cI, 12, .inl f10)), (sself, .inr (2, [.ref sa])), (sa, .inl (cI, 3, .inl f11)), (oself, .inr (4, [.ref olself, .ref owself, .ref osself, .ref och, .int onoi, .int oobs, .int ores])), (olself, .inr (1, [.ref olplself, .ref olpaself, .ref ologself, .ref oldrself, .ref olspself, .ref olscself, .int olmany, .int olgens])), (olplself, .inr (2, [.ref olpla])), (olpla, .inl (cI, 240, .inl olplf)), (olpaself, .inr (2, [.ref olpaa])), (olpaa, .inl (cI, 240, .inl olpaf)), (ologself, .inr (2, [.ref ologa])), (ologa, .inl (cI, 20, .inl ologf)), (oldrself, .inr (2, [.ref oldra])), (oldra, .inl (cI, 20, .inl oldrf)), (olspself, .inr (2, [.ref olspa])), (olspa, .inl (cI, 20, .inl olspf)), (olscself, .inr (2, [.ref olsca])), (olsca, .inl (cI, 20, .inl olscf)), (owself, .inr (5, [.ref owa, .int owmany])), (owa, .inl (cI, 12, .inl owf)), (osself, .inr (2, [.ref osa])), (osa, .inl (cI, 3, .inl osf))] H := hP
  replace hD : va_D A [(self, .inr (4, [.ref lself, .ref wself, .ref sself, .ref ch, .int onoi, .int oobs, .int ores])), (lself, .inr (1, [.ref lplself, .ref lpaself, .ref logself, .ref ldrself, .ref lspself, .ref lscself, .int u1, .int u2])), (lplself, .inr (2, [.ref lpla])), (lpla, .inl (cI, 240, .inl f3)), (lpaself, .inr (2, [.ref lpaa])), (lpaa, .inl (cI, 240, .inl f4)), (logself, .inr (2, [.ref loga])), (loga, .inl (cI, 20, .inl f5)), (ldrself, .inr (2, [.ref ldra])), (ldra, .inl (cI, 20, .inl f6)), (lspself, .inr (2, [.ref lspa])), (lspa, .inl (cI, 20, .inl f7)), (lscself, .inr (2, [.ref lsca])), (lsca, .inl (cI, 20, .inl f8)), (wself, .inr (5, [.ref wa, .int u9])), (wa, .inl (cI, 12, .inl f10)), (sself, .inr (2, [.ref sa])), (sa, .inl (cI, 3, .inl f11)), (oself, .inr (4, [.ref olself, .ref owself, .ref osself, .ref och, .int onoi, .int oobs, .int ores])), (olself, .inr (1, [.ref olplself, .ref olpaself, .ref ologself, .ref oldrself, .ref olspself, .ref olscself, .int olmany, .int olgens])), (olplself, .inr (2, [.ref olpla])), (olpla, .inl (cI, 240, .inl olplf)), (olpaself, .inr (2, [.ref olpaa])), (olpaa, .inl (cI, 240, .inl olpaf)), (ologself, .inr (2, [.ref ologa])), (ologa, .inl (cI, 20, .inl ologf)), (oldrself, .inr (2, [.ref oldra])), (oldra, .inl (cI, 20, .inl oldrf)), (olspself, .inr (2, [.ref olspa])), (olspa, .inl (cI, 20, .inl olspf)), (olscself, .inr (2, [.ref olsca])), (olsca, .inl (cI, 20, .inl olscf)), (owself, .inr (5, [.ref owa, .int owmany])), (owa, .inl (cI, 12, .inl owf)), (osself, .inr (2, [.ref osa])), (osa, .inl (cI, 3, .inl osf))] := hD
  obtain ⟨e1, e2, e3, e4, e5, e6, e7, e8, e9, e10, e11, e12, e13, e14⟩ := am_ret14 h
  exact hret _ _ _ _ dX4_copyState_57 (by rw [← e1, ← e2, ← e3, ← e4, ← e5, ← e6, ← e7, ← e8, ← e9, ← e10, ← e11, ← e12, ← e13, ← e14]; exact hP) hS
theorem hdX4_startAnew : yX4_startAnew.cls ≠ "java/lang/invoke/MethodHandle" ∧ yX4_startAnew.cls ≠ "java/lang/invoke/VarHandle" ∧ (parseMethodDescriptor yX4_startAnew.desc).map (fun d => d.parameters.length) = some 3 := by decide +kernel
abbrev rmX4_startAnew : Room := { frames := 3, cells := 0, slots := 0, locals := 58 }
set_option maxHeartbeats 20000000 in
set_option maxRecDepth 100000 in
theorem c_X4_startAnew (l : Launch) (D : va_G) (cI cJ : ClassId) (self : Nat) (ch : Nat) (lself : Nat) (lplself : Nat) (lpla : Nat) (lpaself : Nat) (lpaa : Nat) (logself : Nat) (loga : Nat) (ldrself : Nat) (ldra : Nat) (lspself : Nat) (lspa : Nat) (lscself : Nat) (lsca : Nat) (wself : Nat) (wa : Nat) (sself : Nat) (sa : Nat) (noi : Int32) (obs : Int32) (res : Int32) (lmany : Int32) (lgens : Int32) (lplf : Nat → Int32) (lpaf : Nat → Int32) (logf : Nat → Int32) (ldrf : Nat → Int32) (lspf : Nat → Int32) (lscf : Nat → Int32) (wmany : Int32) (wf : Nat → Int32) (sf : Nat → Int32) (p0 : Int32) (p1 : Int32) (p2 : Int32) (znoi : Int32) (zobs : Int32) (zres : Int32) (zlmany : Int32) (zlgens : Int32) (zlplf : Nat → Int32) (zlogf : Nat → Int32) (zwmany : Int32) (zwf : Nat → Int32) (hF : F_X4_startAnew noi obs res lmany lgens lplf logf wmany wf p0 p1 p2 = some (znoi, zobs, zres, zlmany, zlgens, zlplf, zlogf, zwmany, zwf)) (sz : Nat) : Met l yX4_startAnew (wz yX4_startAnew cX4_startAnew 4 none) rmX4_startAnew (kPw D cI cJ [(self, .inr (4, [.ref lself, .ref wself, .ref sself, .ref ch, .int noi, .int obs, .int res])), (lself, .inr (1, [.ref lplself, .ref lpaself, .ref logself, .ref ldrself, .ref lspself, .ref lscself, .int lmany, .int lgens])), (lplself, .inr (2, [.ref lpla])), (lpla, .inl (cI, 240, .inl lplf)), (lpaself, .inr (2, [.ref lpaa])), (lpaa, .inl (cI, 240, .inl lpaf)), (logself, .inr (2, [.ref loga])), (loga, .inl (cI, 20, .inl logf)), (ldrself, .inr (2, [.ref ldra])), (ldra, .inl (cI, 20, .inl ldrf)), (lspself, .inr (2, [.ref lspa])), (lspa, .inl (cI, 20, .inl lspf)), (lscself, .inr (2, [.ref lsca])), (lsca, .inl (cI, 20, .inl lscf)), (wself, .inr (5, [.ref wa, .int wmany])), (wa, .inl (cI, 12, .inl wf)), (sself, .inr (2, [.ref sa])), (sa, .inl (cI, 3, .inl sf))] sz [.ref self, .int p0, .int p1, .int p2]) (kQv D [(self, .inr (4, [.ref lself, .ref wself, .ref sself, .ref ch, .int znoi, .int zobs, .int zres])), (lself, .inr (1, [.ref lplself, .ref lpaself, .ref logself, .ref ldrself, .ref lspself, .ref lscself, .int zlmany, .int zlgens])), (lplself, .inr (2, [.ref lpla])), (lpla, .inl (cI, 240, .inl zlplf)), (lpaself, .inr (2, [.ref lpaa])), (lpaa, .inl (cI, 240, .inl lpaf)), (logself, .inr (2, [.ref loga])), (loga, .inl (cI, 20, .inl zlogf)), (ldrself, .inr (2, [.ref ldra])), (ldra, .inl (cI, 20, .inl ldrf)), (lspself, .inr (2, [.ref lspa])), (lspa, .inl (cI, 20, .inl lspf)), (lscself, .inr (2, [.ref lsca])), (lsca, .inl (cI, 20, .inl lscf)), (wself, .inr (5, [.ref wa, .int zwmany])), (wa, .inl (cI, 12, .inl zwf)), (sself, .inr (2, [.ref sa])), (sa, .inl (cI, 3, .inl sf))] (va_A [(self, .inr (4, [.ref lself, .ref wself, .ref sself, .ref ch, .int noi, .int obs, .int res])), (lself, .inr (1, [.ref lplself, .ref lpaself, .ref logself, .ref ldrself, .ref lspself, .ref lscself, .int lmany, .int lgens])), (lplself, .inr (2, [.ref lpla])), (lpla, .inl (cI, 240, .inl lplf)), (lpaself, .inr (2, [.ref lpaa])), (lpaa, .inl (cI, 240, .inl lpaf)), (logself, .inr (2, [.ref loga])), (loga, .inl (cI, 20, .inl logf)), (ldrself, .inr (2, [.ref ldra])), (ldra, .inl (cI, 20, .inl ldrf)), (lspself, .inr (2, [.ref lspa])), (lspa, .inl (cI, 20, .inl lspf)), (lscself, .inr (2, [.ref lsca])), (lsca, .inl (cI, 20, .inl lscf)), (wself, .inr (5, [.ref wa, .int wmany])), (wa, .inl (cI, 12, .inl wf)), (sself, .inr (2, [.ref sa])), (sa, .inl (cI, 3, .inl sf))] sz)) 0 0 (va_A [(self, .inr (4, [.ref lself, .ref wself, .ref sself, .ref ch, .int noi, .int obs, .int res])), (lself, .inr (1, [.ref lplself, .ref lpaself, .ref logself, .ref ldrself, .ref lspself, .ref lscself, .int lmany, .int lgens])), (lplself, .inr (2, [.ref lpla])), (lpla, .inl (cI, 240, .inl lplf)), (lpaself, .inr (2, [.ref lpaa])), (lpaa, .inl (cI, 240, .inl lpaf)), (logself, .inr (2, [.ref loga])), (loga, .inl (cI, 20, .inl logf)), (ldrself, .inr (2, [.ref ldra])), (ldra, .inl (cI, 20, .inl ldrf)), (lspself, .inr (2, [.ref lspa])), (lspa, .inl (cI, 20, .inl lspf)), (lscself, .inr (2, [.ref lsca])), (lsca, .inl (cI, 20, .inl lscf)), (wself, .inr (5, [.ref wa, .int wmany])), (wa, .inl (cI, 12, .inl wf)), (sself, .inr (2, [.ref sa])), (sa, .inl (cI, 3, .inl sf))] sz) := by
  refine kM_wv cX4_startAnew 4 (by decide +kernel) rfl rfl (Nat.le_of_ble_eq_true rfl) ⟨rfl, rfl⟩ ?_
  intro p e s m args below meth c Q A ls hx hb hml hown hts hP hK hD hA hS hl hret
  have hk44 := hts _ (List.mem_cons_of_mem _ wl44)
  have hk48 := hts _ (List.mem_cons_of_mem _ wl48)
  have hk91 := hts _ (List.mem_cons_of_mem _ wl91)
  have hk92 := hts _ (List.mem_cons_of_mem _ wl92)
  have hk93 := hts _ (List.mem_cons_of_mem _ wl93)
  have hnX4 : ∀ w ∈ u_ws RX4 TX4 7, w ∈ wz yX4_startAnew cX4_startAnew 4 none := fun w h => List.mem_cons_of_mem _ (inlX4 w h)
  replace hl : lv_has ls 4 [(0, .ref self), (1, .int p0), (2, .int p1), (3, .int p2)] := hl
  have h := hF
  unfold F_X4_startAnew at h
  refine lv_aload_n (pc := 0) hx hb dX4_startAnew_0 rfl (lv_at hl 0 rfl) ?_
  refine va_get (pc := 1) (D := D) (ci := 4) (v := .ref lself) (C := RX4) (T := TX4) (N := 7) hx hb hts hnX4 hown hK.1 hP 0 rfl rfl 0 (Nat.le_of_ble_eq_true rfl) hk44 (fun _ h9 => h9) rfl dX4_startAnew_1 ?_
  refine lv_iload_n (pc := 4) hx hb dX4_startAnew_4 rfl (lv_at hl 1 rfl) ?_
  refine lv_iload_n (pc := 5) hx hb dX4_startAnew_5 rfl (lv_at hl 2 rfl) ?_
  refine lv_iload_n (pc := 6) hx hb dX4_startAnew_6 rfl (lv_at hl 3 rfl) ?_
  obtain ⟨u1, u2, f3, f4, hc4, h⟩ := am_call4_s h
  refine kc_Wv (pc := 7) (ci := 1) ⟨hx, hb, hml, hown, hts⟩ hP hK hD hS hA [.int p0, .int p1, .int p2] (c_X1_startWith l D cI cJ lself lplself lpla lpaself lpaa logself loga ldrself ldra lspself lspa lscself lsca lmany lgens lplf lpaf logf ldrf lspf lscf p0 p1 p2 u1 u2 f3 f4 hc4 _) [1, 2, 3, 4, 5, 6, 7, 8, 9, 10, 11, 12, 13] rfl rfl rfl (cwV 3 hts (gzV wl94 wl95 wl96 wl43 wl97) rfl rfl rfl ⟨rfl, hdX1_startWith⟩ ⟨Nat.le_of_ble_eq_true rfl, Nat.le_of_ble_eq_true rfl⟩) rfl rfl [] rfl hl.1 rfl (Nat.le_of_ble_eq_true rfl) dX4_startAnew_7 ⟨Nat.zero_le _, Nat.zero_le _⟩ (fun H locs hP hD hS => ?_)
  replace hP : va_P D vwCl [(self, .inr (4, [.ref lself, .ref wself, .ref sself, .ref ch, .int noi, .int obs, .int res])), (lself, .inr (1, [.ref lplself, .ref lpaself, .ref logself, .ref ldrself, .ref lspself, .ref lscself, .int u1, .int u2])), (lplself, .inr (2, [.ref lpla])), (lpla, .inl (cI, 240, .inl f3)), (lpaself, .inr (2, [.ref lpaa])), (lpaa, .inl (cI, 240, .inl lpaf)), (logself, .inr (2, [.ref loga])), (loga, .inl (cI, 20, .inl f4)), (ldrself, .inr (2, [.ref ldra])), (ldra, .inl (cI, 20, .inl ldrf)), (lspself, .inr (2, [.ref lspa])), (lspa, .inl (cI, 20, .inl lspf)), (lscself, .inr (2, [.ref lsca])), (lsca, .inl (cI, 20, .inl lscf)), (wself, .inr (5, [.ref wa, .int wmany])), (wa, .inl (cI, 12, .inl wf)), (sself, .inr (2, [.ref sa])), (sa, .inl (cI, 3, .inl sf))] H := hP
  replace hD : va_D A [(self, .inr (4, [.ref lself, .ref wself, .ref sself, .ref ch, .int noi, .int obs, .int res])), (lself, .inr (1, [.ref lplself, .ref lpaself, .ref logself, .ref ldrself, .ref lspself, .ref lscself, .int u1, .int u2])), (lplself, .inr (2, [.ref lpla])), (lpla, .inl (cI, 240, .inl f3)), (lpaself, .inr (2, [.ref lpaa])), (lpaa, .inl (cI, 240, .inl lpaf)), (logself, .inr (2, [.ref loga])), (loga, .inl (cI, 20, .inl f4)), (ldrself, .inr (2, [.ref ldra])), (ldra, .inl (cI, 20, .inl ldrf)), (lspself, .inr (2, [.ref lspa])), (lspa, .inl (cI, 20, .inl lspf)), (lscself, .inr (2, [.ref lsca])), (lsca, .inl (cI, 20, .inl lscf)), (wself, .inr (5, [.ref wa, .int wmany])), (wa, .inl (cI, 12, .inl wf)), (sself, .inr (2, [.ref sa])), (sa, .inl (cI, 3, .inl sf))] := hD
  refine lv_aload_n (pc := 10) hx hb dX4_startAnew_10 rfl (lv_at hl 0 rfl) ?_
  refine va_get (pc := 11) (D := D) (ci := 4) (v := .ref wself) (C := RX4) (T := TX4) (N := 7) hx hb hts hnX4 hown hK.1 hP 0 rfl rfl 1 (Nat.le_of_ble_eq_true rfl) hk48 (fun _ h9 => h9) rfl dX4_startAnew_11 ?_
  refine lv_iload_n (pc := 14) hx hb dX4_startAnew_14 rfl (lv_at hl 1 rfl) ?_
  obtain ⟨u5, f6, hc6, h⟩ := am_call2_s h
  refine kc_Wv (pc := 15) (ci := 5) ⟨hx, hb, hml, hown, hts⟩ hP hK hD hS hA [.int p0] (c_X5_makeEqual l D cI cJ wself wa wmany wf p0 u5 f6 hc6 _) [14, 15] rfl rfl rfl (cwV 1 hts (gzV wl105 wl106 wl107 wl47 wl108) rfl rfl rfl ⟨rfl, hdX5_makeEqual⟩ ⟨Nat.le_of_ble_eq_true rfl, Nat.le_of_ble_eq_true rfl⟩) rfl rfl [] rfl hl.1 rfl (Nat.le_of_ble_eq_true rfl) dX4_startAnew_15 ⟨Nat.zero_le _, Nat.zero_le _⟩ (fun H locs hP hD hS => ?_)
  replace hP : va_P D vwCl [(self, .inr (4, [.ref lself, .ref wself, .ref sself, .ref ch, .int noi, .int obs, .int res])), (lself, .inr (1, [.ref lplself, .ref lpaself, .ref logself, .ref ldrself, .ref lspself, .ref lscself, .int u1, .int u2])), (lplself, .inr (2, [.ref lpla])), (lpla, .inl (cI, 240, .inl f3)), (lpaself, .inr (2, [.ref lpaa])), (lpaa, .inl (cI, 240, .inl lpaf)), (logself, .inr (2, [.ref loga])), (loga, .inl (cI, 20, .inl f4)), (ldrself, .inr (2, [.ref ldra])), (ldra, .inl (cI, 20, .inl ldrf)), (lspself, .inr (2, [.ref lspa])), (lspa, .inl (cI, 20, .inl lspf)), (lscself, .inr (2, [.ref lsca])), (lsca, .inl (cI, 20, .inl lscf)), (wself, .inr (5, [.ref wa, .int u5])), (wa, .inl (cI, 12, .inl f6)), (sself, .inr (2, [.ref sa])), (sa, .inl (cI, 3, .inl sf))] H := hP
  replace hD : va_D A [(self, .inr (4, [.ref lself, .ref wself, .ref sself, .ref ch, .int noi, .int obs, .int res])), (lself, .inr (1, [.ref lplself, .ref lpaself, .ref logself, .ref ldrself, .ref lspself, .ref lscself, .int u1, .int u2])), (lplself, .inr (2, [.ref lpla])), (lpla, .inl (cI, 240, .inl f3)), (lpaself, .inr (2, [.ref lpaa])), (lpaa, .inl (cI, 240, .inl lpaf)), (logself, .inr (2, [.ref loga])), (loga, .inl (cI, 20, .inl f4)), (ldrself, .inr (2, [.ref ldra])), (ldra, .inl (cI, 20, .inl ldrf)), (lspself, .inr (2, [.ref lspa])), (lspa, .inl (cI, 20, .inl lspf)), (lscself, .inr (2, [.ref lsca])), (lsca, .inl (cI, 20, .inl lscf)), (wself, .inr (5, [.ref wa, .int u5])), (wa, .inl (cI, 12, .inl f6)), (sself, .inr (2, [.ref sa])), (sa, .inl (cI, 3, .inl sf))] := hD
  refine lv_aload_n (pc := 18) hx hb dX4_startAnew_18 rfl (lv_at hl 0 rfl) ?_
  refine lv_iconst (v := 1) (pc := 19) hx hb dX4_startAnew_19 (by decide) ?_
  refine va_put (pc := 20) (D := D) (ci := 4) (v := .int (1 : Int32)) (ty := .int) (C := RX4) (T := TX4) (N := 7) hx hb hts hnX4 tyX4 tyX4_ok nmX4 hown hK.1 hP hD hS 0 rfl rfl 4 (Nat.le_of_ble_eq_true rfl) hk91 (fun _ h9 => h9) rfl (by decide +kernel) rfl rfl (Nat.le_of_ble_eq_true rfl) dX4_startAnew_20 (fun H locs hP hD hS => ?_)
  replace hP : va_P D vwCl [(self, .inr (4, [.ref lself, .ref wself, .ref sself, .ref ch, .int (1 : Int32), .int obs, .int res])), (lself, .inr (1, [.ref lplself, .ref lpaself, .ref logself, .ref ldrself, .ref lspself, .ref lscself, .int u1, .int u2])), (lplself, .inr (2, [.ref lpla])), (lpla, .inl (cI, 240, .inl f3)), (lpaself, .inr (2, [.ref lpaa])), (lpaa, .inl (cI, 240, .inl lpaf)), (logself, .inr (2, [.ref loga])), (loga, .inl (cI, 20, .inl f4)), (ldrself, .inr (2, [.ref ldra])), (ldra, .inl (cI, 20, .inl ldrf)), (lspself, .inr (2, [.ref lspa])), (lspa, .inl (cI, 20, .inl lspf)), (lscself, .inr (2, [.ref lsca])), (lsca, .inl (cI, 20, .inl lscf)), (wself, .inr (5, [.ref wa, .int u5])), (wa, .inl (cI, 12, .inl f6)), (sself, .inr (2, [.ref sa])), (sa, .inl (cI, 3, .inl sf))] H := hP
  replace hD : va_D A [(self, .inr (4, [.ref lself, .ref wself, .ref sself, .ref ch, .int (1 : Int32), .int obs, .int res])), (lself, .inr (1, [.ref lplself, .ref lpaself, .ref logself, .ref ldrself, .ref lspself, .ref lscself, .int u1, .int u2])), (lplself, .inr (2, [.ref lpla])), (lpla, .inl (cI, 240, .inl f3)), (lpaself, .inr (2, [.ref lpaa])), (lpaa, .inl (cI, 240, .inl lpaf)), (logself, .inr (2, [.ref loga])), (loga, .inl (cI, 20, .inl f4)), (ldrself, .inr (2, [.ref ldra])), (ldra, .inl (cI, 20, .inl ldrf)), (lspself, .inr (2, [.ref lspa])), (lspa, .inl (cI, 20, .inl lspf)), (lscself, .inr (2, [.ref lsca])), (lsca, .inl (cI, 20, .inl lscf)), (wself, .inr (5, [.ref wa, .int u5])), (wa, .inl (cI, 12, .inl f6)), (sself, .inr (2, [.ref sa])), (sa, .inl (cI, 3, .inl sf))] := hD
  refine lv_aload_n (pc := 23) hx hb dX4_startAnew_23 rfl (lv_at hl 0 rfl) ?_
  refine lv_iconst (v := 0) (pc := 24) hx hb dX4_startAnew_24 (by decide) ?_
  refine va_put (pc := 25) (D := D) (ci := 4) (v := .int (0 : Int32)) (ty := .int) (C := RX4) (T := TX4) (N := 7) hx hb hts hnX4 tyX4 tyX4_ok nmX4 hown hK.1 hP hD hS 0 rfl rfl 5 (Nat.le_of_ble_eq_true rfl) hk92 (fun _ h9 => h9) rfl (by decide +kernel) rfl rfl (Nat.le_of_ble_eq_true rfl) dX4_startAnew_25 (fun H locs hP hD hS => ?_)
  replace hP : va_P D vwCl [(self, .inr (4, [.ref lself, .ref wself, .ref sself, .ref ch, .int (1 : Int32), .int (0 : Int32), .int res])), (lself, .inr (1, [.ref lplself, .ref lpaself, .ref logself, .ref ldrself, .ref lspself, .ref lscself, .int u1, .int u2])), (lplself, .inr (2, [.ref lpla])), (lpla, .inl (cI, 240, .inl f3)), (lpaself, .inr (2, [.ref lpaa])), (lpaa, .inl (cI, 240, .inl lpaf)), (logself, .inr (2, [.ref loga])), (loga, .inl (cI, 20, .inl f4)), (ldrself, .inr (2, [.ref ldra])), (ldra, .inl (cI, 20, .inl ldrf)), (lspself, .inr (2, [.ref lspa])), (lspa, .inl (cI, 20, .inl lspf)), (lscself, .inr (2, [.ref lsca])), (lsca, .inl (cI, 20, .inl lscf)), (wself, .inr (5, [.ref wa, .int u5])), (wa, .inl (cI, 12, .inl f6)), (sself, .inr (2, [.ref sa])), (sa, .inl (cI, 3, .inl sf))] H := hP
  replace hD : va_D A [(self, .inr (4, [.ref lself, .ref wself, .ref sself, .ref ch, .int (1 : Int32), .int (0 : Int32), .int res])), (lself, .inr (1, [.ref lplself, .ref lpaself, .ref logself, .ref ldrself, .ref lspself, .ref lscself, .int u1, .int u2])), (lplself, .inr (2, [.ref lpla])), (lpla, .inl (cI, 240, .inl f3)), (lpaself, .inr (2, [.ref lpaa])), (lpaa, .inl (cI, 240, .inl lpaf)), (logself, .inr (2, [.ref loga])), (loga, .inl (cI, 20, .inl f4)), (ldrself, .inr (2, [.ref ldra])), (ldra, .inl (cI, 20, .inl ldrf)), (lspself, .inr (2, [.ref lspa])), (lspa, .inl (cI, 20, .inl lspf)), (lscself, .inr (2, [.ref lsca])), (lsca, .inl (cI, 20, .inl lscf)), (wself, .inr (5, [.ref wa, .int u5])), (wa, .inl (cI, 12, .inl f6)), (sself, .inr (2, [.ref sa])), (sa, .inl (cI, 3, .inl sf))] := hD
  refine lv_aload_n (pc := 28) hx hb dX4_startAnew_28 rfl (lv_at hl 0 rfl) ?_
  refine lv_iconst (v := 0) (pc := 29) hx hb dX4_startAnew_29 (by decide) ?_
  refine va_put (pc := 30) (D := D) (ci := 4) (v := .int (0 : Int32)) (ty := .int) (C := RX4) (T := TX4) (N := 7) hx hb hts hnX4 tyX4 tyX4_ok nmX4 hown hK.1 hP hD hS 0 rfl rfl 6 (Nat.le_of_ble_eq_true rfl) hk93 (fun _ h9 => h9) rfl (by decide +kernel) rfl rfl (Nat.le_of_ble_eq_true rfl) dX4_startAnew_30 (fun H locs hP hD hS => ?_)
  replace hP : va_P D vwCl [(self, .inr (4, [.ref lself, .ref wself, .ref sself, .ref ch, .int (1 : Int32), .int (0 : Int32), .int (0 : Int32)])), (lself, .inr (1, [.ref lplself, .ref lpaself, .ref logself, .ref ldrself, .ref lspself, .ref lscself, .int u1, .int u2])), (lplself, .inr (2, [.ref lpla])), (lpla, .inl (cI, 240, .inl f3)), (lpaself, .inr (2, [.ref lpaa])), (lpaa, .inl (cI, 240, .inl lpaf)), (logself, .inr (2, [.ref loga])), (loga, .inl (cI, 20, .inl f4)), (ldrself, .inr (2, [.ref ldra])), (ldra, .inl (cI, 20, .inl ldrf)), (lspself, .inr (2, [.ref lspa])), (lspa, .inl (cI, 20, .inl lspf)), (lscself, .inr (2, [.ref lsca])), (lsca, .inl (cI, 20, .inl lscf)), (wself, .inr (5, [.ref wa, .int u5])), (wa, .inl (cI, 12, .inl f6)), (sself, .inr (2, [.ref sa])), (sa, .inl (cI, 3, .inl sf))] H := hP
  replace hD : va_D A [(self, .inr (4, [.ref lself, .ref wself, .ref sself, .ref ch, .int (1 : Int32), .int (0 : Int32), .int (0 : Int32)])), (lself, .inr (1, [.ref lplself, .ref lpaself, .ref logself, .ref ldrself, .ref lspself, .ref lscself, .int u1, .int u2])), (lplself, .inr (2, [.ref lpla])), (lpla, .inl (cI, 240, .inl f3)), (lpaself, .inr (2, [.ref lpaa])), (lpaa, .inl (cI, 240, .inl lpaf)), (logself, .inr (2, [.ref loga])), (loga, .inl (cI, 20, .inl f4)), (ldrself, .inr (2, [.ref ldra])), (ldra, .inl (cI, 20, .inl ldrf)), (lspself, .inr (2, [.ref lspa])), (lspa, .inl (cI, 20, .inl lspf)), (lscself, .inr (2, [.ref lsca])), (lsca, .inl (cI, 20, .inl lscf)), (wself, .inr (5, [.ref wa, .int u5])), (wa, .inl (cI, 12, .inl f6)), (sself, .inr (2, [.ref sa])), (sa, .inl (cI, 3, .inl sf))] := hD
  obtain ⟨e1, e2, e3, e4, e5, e6, e7, e8, e9⟩ := am_ret9 h
  exact hret _ _ _ _ dX4_startAnew_33 (by rw [← e1, ← e2, ← e3, ← e4, ← e5, ← e6, ← e7, ← e8, ← e9]; exact hP) hS
theorem hdX4_beginAnew : yX4_beginAnew.cls ≠ "java/lang/invoke/MethodHandle" ∧ yX4_beginAnew.cls ≠ "java/lang/invoke/VarHandle" ∧ (parseMethodDescriptor yX4_beginAnew.desc).map (fun d => d.parameters.length) = some 3 := by decide +kernel
abbrev rmX4_beginAnew : Room := { frames := 4, cells := 0, slots := 0, locals := 81 }
set_option maxHeartbeats 20000000 in
set_option maxRecDepth 100000 in
theorem c_X4_beginAnew (l : Launch) (D : va_G) (cI cJ : ClassId) (self : Nat) (ch : Nat) (lself : Nat) (lplself : Nat) (lpla : Nat) (lpaself : Nat) (lpaa : Nat) (logself : Nat) (loga : Nat) (ldrself : Nat) (ldra : Nat) (lspself : Nat) (lspa : Nat) (lscself : Nat) (lsca : Nat) (wself : Nat) (wa : Nat) (sself : Nat) (sa : Nat) (noi : Int32) (obs : Int32) (res : Int32) (lmany : Int32) (lgens : Int32) (lplf : Nat → Int32) (lpaf : Nat → Int32) (logf : Nat → Int32) (ldrf : Nat → Int32) (lspf : Nat → Int32) (lscf : Nat → Int32) (wmany : Int32) (wf : Nat → Int32) (sf : Nat → Int32) (p0 : Int32) (p1 : Int32) (p2 : Int32) (r0 : Int32) (znoi : Int32) (zobs : Int32) (zres : Int32) (zlmany : Int32) (zlgens : Int32) (zlplf : Nat → Int32) (zlogf : Nat → Int32) (zwmany : Int32) (zwf : Nat → Int32) (hF : F_X4_beginAnew noi obs res lmany lgens lplf logf wmany wf p0 p1 p2 = some (r0, znoi, zobs, zres, zlmany, zlgens, zlplf, zlogf, zwmany, zwf)) (sz : Nat) : Met l yX4_beginAnew (wz yX4_beginAnew cX4_beginAnew 5 (some .int)) rmX4_beginAnew (kPw D cI cJ [(self, .inr (4, [.ref lself, .ref wself, .ref sself, .ref ch, .int noi, .int obs, .int res])), (lself, .inr (1, [.ref lplself, .ref lpaself, .ref logself, .ref ldrself, .ref lspself, .ref lscself, .int lmany, .int lgens])), (lplself, .inr (2, [.ref lpla])), (lpla, .inl (cI, 240, .inl lplf)), (lpaself, .inr (2, [.ref lpaa])), (lpaa, .inl (cI, 240, .inl lpaf)), (logself, .inr (2, [.ref loga])), (loga, .inl (cI, 20, .inl logf)), (ldrself, .inr (2, [.ref ldra])), (ldra, .inl (cI, 20, .inl ldrf)), (lspself, .inr (2, [.ref lspa])), (lspa, .inl (cI, 20, .inl lspf)), (lscself, .inr (2, [.ref lsca])), (lsca, .inl (cI, 20, .inl lscf)), (wself, .inr (5, [.ref wa, .int wmany])), (wa, .inl (cI, 12, .inl wf)), (sself, .inr (2, [.ref sa])), (sa, .inl (cI, 3, .inl sf))] sz [.ref self, .int p0, .int p1, .int p2]) (kQi D r0 [(self, .inr (4, [.ref lself, .ref wself, .ref sself, .ref ch, .int znoi, .int zobs, .int zres])), (lself, .inr (1, [.ref lplself, .ref lpaself, .ref logself, .ref ldrself, .ref lspself, .ref lscself, .int zlmany, .int zlgens])), (lplself, .inr (2, [.ref lpla])), (lpla, .inl (cI, 240, .inl zlplf)), (lpaself, .inr (2, [.ref lpaa])), (lpaa, .inl (cI, 240, .inl lpaf)), (logself, .inr (2, [.ref loga])), (loga, .inl (cI, 20, .inl zlogf)), (ldrself, .inr (2, [.ref ldra])), (ldra, .inl (cI, 20, .inl ldrf)), (lspself, .inr (2, [.ref lspa])), (lspa, .inl (cI, 20, .inl lspf)), (lscself, .inr (2, [.ref lsca])), (lsca, .inl (cI, 20, .inl lscf)), (wself, .inr (5, [.ref wa, .int zwmany])), (wa, .inl (cI, 12, .inl zwf)), (sself, .inr (2, [.ref sa])), (sa, .inl (cI, 3, .inl sf))] (va_A [(self, .inr (4, [.ref lself, .ref wself, .ref sself, .ref ch, .int noi, .int obs, .int res])), (lself, .inr (1, [.ref lplself, .ref lpaself, .ref logself, .ref ldrself, .ref lspself, .ref lscself, .int lmany, .int lgens])), (lplself, .inr (2, [.ref lpla])), (lpla, .inl (cI, 240, .inl lplf)), (lpaself, .inr (2, [.ref lpaa])), (lpaa, .inl (cI, 240, .inl lpaf)), (logself, .inr (2, [.ref loga])), (loga, .inl (cI, 20, .inl logf)), (ldrself, .inr (2, [.ref ldra])), (ldra, .inl (cI, 20, .inl ldrf)), (lspself, .inr (2, [.ref lspa])), (lspa, .inl (cI, 20, .inl lspf)), (lscself, .inr (2, [.ref lsca])), (lsca, .inl (cI, 20, .inl lscf)), (wself, .inr (5, [.ref wa, .int wmany])), (wa, .inl (cI, 12, .inl wf)), (sself, .inr (2, [.ref sa])), (sa, .inl (cI, 3, .inl sf))] sz)) 0 0 (va_A [(self, .inr (4, [.ref lself, .ref wself, .ref sself, .ref ch, .int noi, .int obs, .int res])), (lself, .inr (1, [.ref lplself, .ref lpaself, .ref logself, .ref ldrself, .ref lspself, .ref lscself, .int lmany, .int lgens])), (lplself, .inr (2, [.ref lpla])), (lpla, .inl (cI, 240, .inl lplf)), (lpaself, .inr (2, [.ref lpaa])), (lpaa, .inl (cI, 240, .inl lpaf)), (logself, .inr (2, [.ref loga])), (loga, .inl (cI, 20, .inl logf)), (ldrself, .inr (2, [.ref ldra])), (ldra, .inl (cI, 20, .inl ldrf)), (lspself, .inr (2, [.ref lspa])), (lspa, .inl (cI, 20, .inl lspf)), (lscself, .inr (2, [.ref lsca])), (lsca, .inl (cI, 20, .inl lscf)), (wself, .inr (5, [.ref wa, .int wmany])), (wa, .inl (cI, 12, .inl wf)), (sself, .inr (2, [.ref sa])), (sa, .inl (cI, 3, .inl sf))] sz) := by
  refine kM_wi cX4_beginAnew 5 .int (by decide +kernel) rfl rfl (Nat.le_of_ble_eq_true rfl) ⟨rfl, rfl⟩ ?_
  intro p e s m args below meth c Q A ls hx hb hml hown hts hP hK hD hA hS hl hret
  have hk151 := hts _ (List.mem_cons_of_mem _ wl151)
  have hk2 := hts _ (List.mem_cons_of_mem _ wl2)
  have hk211 := hts _ (List.mem_cons_of_mem _ wl211)
  have hk44 := hts _ (List.mem_cons_of_mem _ wl44)
  have hnX4 : ∀ w ∈ u_ws RX4 TX4 7, w ∈ wz yX4_beginAnew cX4_beginAnew 5 (some .int) := fun w h => List.mem_cons_of_mem _ (inlX4 w h)
  replace hl : lv_has ls 5 [(0, .ref self), (1, .int p0), (2, .int p1), (3, .int p2)] := hl
  have h := hF
  unfold F_X4_beginAnew at h
  refine lv_iload_n (pc := 0) hx hb dX4_beginAnew_0 rfl (lv_at hl 1 rfl) ?_
  refine lv_iconst (v := 1) (pc := 1) hx hb dX4_beginAnew_1 (by decide) ?_
  refine lv_bipush (v := 12) (pc := 2) hx hb dX4_beginAnew_2 (by decide) ?_
  obtain ⟨r1, hc1, h⟩ := am_bind_s h
  refine kc_Ni (pc := 4) ⟨hx, hb, hml, hown, hts⟩ hP hK [.int p0, .int (1 : Int32), .int (12 : Int32)] (c_X6_isWithin l D cI cJ p0 (1 : Int32) (12 : Int32) r1 hc1) [] rfl ⟨va_cnB 3 hts (gzN wl152) rfl rfl rfl hK.2.2.1 hk2 hdX6_isWithin ⟨Nat.le_of_ble_eq_true rfl, Nat.le_of_ble_eq_true rfl⟩, hk151, trivial⟩ [] rfl hl.1 rfl (Nat.le_of_ble_eq_true rfl) dX4_beginAnew_4 ⟨Nat.zero_le _, Nat.zero_le _⟩ ?_
  refine lv_if_eq (pc := 7) (tgt := 30) hx hb dX4_beginAnew_7 (by decide) (fun cc => ?_) (fun cc => ?_)
  · replace h := am_t cc h
    refine lv_ldc (pc := 30) hx hb hown hk211 dX4_beginAnew_30 ?_
    obtain ⟨e1, e2, e3, e4, e5, e6, e7, e8, e9, e10⟩ := am_ret10 h
    exact hret _ _ _ _ _ dX4_beginAnew_32 rfl e1 (by rw [← e2, ← e3, ← e4, ← e5, ← e6, ← e7, ← e8, ← e9, ← e10]; exact hP) hS
  replace h := am_f cc h
  refine lv_iload_n (pc := 10) hx hb dX4_beginAnew_10 rfl (lv_at hl 2 rfl) ?_
  refine lv_iconst (v := 0) (pc := 11) hx hb dX4_beginAnew_11 (by decide) ?_
  refine lv_bipush (v := 99) (pc := 12) hx hb dX4_beginAnew_12 (by decide) ?_
  obtain ⟨r2, hc2, h⟩ := am_bind_s h
  refine kc_Ni (pc := 14) ⟨hx, hb, hml, hown, hts⟩ hP hK [.int p1, .int (0 : Int32), .int (99 : Int32)] (c_X6_isWithin l D cI cJ p1 (0 : Int32) (99 : Int32) r2 hc2) [] rfl ⟨va_cnB 3 hts (gzN wl152) rfl rfl rfl hK.2.2.1 hk2 hdX6_isWithin ⟨Nat.le_of_ble_eq_true rfl, Nat.le_of_ble_eq_true rfl⟩, hk151, trivial⟩ [] rfl hl.1 rfl (Nat.le_of_ble_eq_true rfl) dX4_beginAnew_14 ⟨Nat.zero_le _, Nat.zero_le _⟩ ?_
  refine lv_if_eq (pc := 17) (tgt := 30) hx hb dX4_beginAnew_17 (by decide) (fun cc => ?_) (fun cc => ?_)
  · replace h := am_t cc h
    refine lv_ldc (pc := 30) hx hb hown hk211 dX4_beginAnew_30 ?_
    obtain ⟨e1, e2, e3, e4, e5, e6, e7, e8, e9, e10⟩ := am_ret10 h
    exact hret _ _ _ _ _ dX4_beginAnew_32 rfl e1 (by rw [← e2, ← e3, ← e4, ← e5, ← e6, ← e7, ← e8, ← e9, ← e10]; exact hP) hS
  replace h := am_f cc h
  refine lv_iload_n (pc := 20) hx hb dX4_beginAnew_20 rfl (lv_at hl 3 rfl) ?_
  refine lv_iconst (v := 0) (pc := 21) hx hb dX4_beginAnew_21 (by decide) ?_
  refine lv_bipush (v := 99) (pc := 22) hx hb dX4_beginAnew_22 (by decide) ?_
  obtain ⟨r3, hc3, h⟩ := am_bind_s h
  refine kc_Ni (pc := 24) ⟨hx, hb, hml, hown, hts⟩ hP hK [.int p2, .int (0 : Int32), .int (99 : Int32)] (c_X6_isWithin l D cI cJ p2 (0 : Int32) (99 : Int32) r3 hc3) [] rfl ⟨va_cnB 3 hts (gzN wl152) rfl rfl rfl hK.2.2.1 hk2 hdX6_isWithin ⟨Nat.le_of_ble_eq_true rfl, Nat.le_of_ble_eq_true rfl⟩, hk151, trivial⟩ [] rfl hl.1 rfl (Nat.le_of_ble_eq_true rfl) dX4_beginAnew_24 ⟨Nat.zero_le _, Nat.zero_le _⟩ ?_
  refine lv_if_ne (pc := 27) (tgt := 33) hx hb dX4_beginAnew_27 (by decide) (fun cc => ?_) (fun cc => ?_)
  · replace h := am_f cc h
    refine lv_aload_n (pc := 33) hx hb dX4_beginAnew_33 rfl (lv_at hl 0 rfl) ?_
    refine va_get (pc := 34) (D := D) (ci := 4) (v := .ref lself) (C := RX4) (T := TX4) (N := 7) hx hb hts hnX4 hown hK.1 hP 0 rfl rfl 0 (Nat.le_of_ble_eq_true rfl) hk44 (fun _ h9 => h9) rfl dX4_beginAnew_34 ?_
    obtain ⟨r4, hc4, h⟩ := am_bind_s h
    refine kc_Vi (pc := 37) (ci := 1) ⟨hx, hb, hml, hown, hts⟩ hP hK [] (c_X1_generations l D cI cJ lself lplself lpla lpaself lpaa logself loga ldrself ldra lspself lspa lscself lsca lmany lgens lplf lpaf logf ldrf lspf lscf r4 hc4) [1, 2, 3, 4, 5, 6, 7, 8, 9, 10, 11, 12, 13] rfl (cwV 0 hts (gzV wl212 wl213 wl214 wl43 wl215) rfl rfl rfl ⟨rfl, hdX1_generations⟩ ⟨Nat.le_of_ble_eq_true rfl, Nat.le_of_ble_eq_true rfl⟩) rfl rfl [] rfl hl.1 rfl (Nat.le_of_ble_eq_true rfl) dX4_beginAnew_37 ⟨Nat.zero_le _, Nat.zero_le _⟩ ?_
    refine lv_istore (lv' := [(4, .int r4), (0, .ref self), (1, .int p0), (2, .int p1), (3, .int p2)]) (pc := 40) hx hb dX4_beginAnew_40 hl (by decide) rfl (fun ls hl => ?_)
    refine lv_aload_n (pc := 42) hx hb dX4_beginAnew_42 rfl (lv_at hl 1 rfl) ?_
    refine lv_iload_n (pc := 43) hx hb dX4_beginAnew_43 rfl (lv_at hl 2 rfl) ?_
    refine lv_iload_n (pc := 44) hx hb dX4_beginAnew_44 rfl (lv_at hl 3 rfl) ?_
    refine lv_iload_n (pc := 45) hx hb dX4_beginAnew_45 rfl (lv_at hl 4 rfl) ?_
    obtain ⟨u5, u6, u7, u8, u9, f10, f11, u12, f13, hc13, h⟩ := am_call9_s h
    refine kc_Wv (pc := 46) (ci := 4) ⟨hx, hb, hml, hown, hts⟩ hP hK hD hS hA [.int p0, .int p1, .int p2] (c_X4_startAnew l D cI cJ self ch lself lplself lpla lpaself lpaa logself loga ldrself ldra lspself lspa lscself lsca wself wa sself sa noi obs res lmany lgens lplf lpaf logf ldrf lspf lscf wmany wf sf p0 p1 p2 u5 u6 u7 u8 u9 f10 f11 u12 f13 hc13 _) [0, 1, 2, 3, 4, 5, 6, 7, 8, 9, 10, 11, 12, 13, 14, 15, 16, 17] rfl rfl rfl (cwV 3 hts (gzV wl87 wl88 wl89 wl18 wl90) rfl rfl rfl ⟨rfl, hdX4_startAnew⟩ ⟨Nat.le_of_ble_eq_true rfl, Nat.le_of_ble_eq_true rfl⟩) rfl rfl [] rfl hl.1 rfl (Nat.le_of_ble_eq_true rfl) dX4_beginAnew_46 ⟨Nat.zero_le _, Nat.zero_le _⟩ (fun H locs hP hD hS => ?_)
    replace hP : va_P D vwCl [(self, .inr (4, [.ref lself, .ref wself, .ref sself, .ref ch, .int u5, .int u6, .int u7])), (lself, .inr (1, [.ref lplself, .ref lpaself, .ref logself, .ref ldrself, .ref lspself, .ref lscself, .int u8, .int u9])), (lplself, .inr (2, [.ref lpla])), (lpla, .inl (cI, 240, .inl f10)), (lpaself, .inr (2, [.ref lpaa])), (lpaa, .inl (cI, 240, .inl lpaf)), (logself, .inr (2, [.ref loga])), (loga, .inl (cI, 20, .inl f11)), (ldrself, .inr (2, [.ref ldra])), (ldra, .inl (cI, 20, .inl ldrf)), (lspself, .inr (2, [.ref lspa])), (lspa, .inl (cI, 20, .inl lspf)), (lscself, .inr (2, [.ref lsca])), (lsca, .inl (cI, 20, .inl lscf)), (wself, .inr (5, [.ref wa, .int u12])), (wa, .inl (cI, 12, .inl f13)), (sself, .inr (2, [.ref sa])), (sa, .inl (cI, 3, .inl sf))] H := hP
    replace hD : va_D A [(self, .inr (4, [.ref lself, .ref wself, .ref sself, .ref ch, .int u5, .int u6, .int u7])), (lself, .inr (1, [.ref lplself, .ref lpaself, .ref logself, .ref ldrself, .ref lspself, .ref lscself, .int u8, .int u9])), (lplself, .inr (2, [.ref lpla])), (lpla, .inl (cI, 240, .inl f10)), (lpaself, .inr (2, [.ref lpaa])), (lpaa, .inl (cI, 240, .inl lpaf)), (logself, .inr (2, [.ref loga])), (loga, .inl (cI, 20, .inl f11)), (ldrself, .inr (2, [.ref ldra])), (ldra, .inl (cI, 20, .inl ldrf)), (lspself, .inr (2, [.ref lspa])), (lspa, .inl (cI, 20, .inl lspf)), (lscself, .inr (2, [.ref lsca])), (lsca, .inl (cI, 20, .inl lscf)), (wself, .inr (5, [.ref wa, .int u12])), (wa, .inl (cI, 12, .inl f13)), (sself, .inr (2, [.ref sa])), (sa, .inl (cI, 3, .inl sf))] := hD
    refine lv_iload (pc := 49) hx hb dX4_beginAnew_49 (lv_at hl 0 rfl) ?_
    obtain ⟨e1, e2, e3, e4, e5, e6, e7, e8, e9, e10⟩ := am_ret10 h
    exact hret _ _ _ _ _ dX4_beginAnew_51 rfl e1 (by rw [← e2, ← e3, ← e4, ← e5, ← e6, ← e7, ← e8, ← e9, ← e10]; exact hP) hS
  replace h := am_t cc h
  refine lv_ldc (pc := 30) hx hb hown hk211 dX4_beginAnew_30 ?_
  obtain ⟨e1, e2, e3, e4, e5, e6, e7, e8, e9, e10⟩ := am_ret10 h
  exact hret _ _ _ _ _ dX4_beginAnew_32 rfl e1 (by rw [← e2, ← e3, ← e4, ← e5, ← e6, ← e7, ← e8, ← e9, ← e10]; exact hP) hS
theorem hdX4_hasParticle : yX4_hasParticle.cls ≠ "java/lang/invoke/MethodHandle" ∧ yX4_hasParticle.cls ≠ "java/lang/invoke/VarHandle" ∧ (parseMethodDescriptor yX4_hasParticle.desc).map (fun d => d.parameters.length) = some 1 := by decide +kernel
abbrev rmX4_hasParticle : Room := { frames := 1, cells := 0, slots := 0, locals := 22 }
set_option maxHeartbeats 20000000 in
set_option maxRecDepth 100000 in
theorem c_X4_hasParticle (l : Launch) (D : va_G) (cI cJ : ClassId) (self : Nat) (ch : Nat) (lself : Nat) (lplself : Nat) (lpla : Nat) (lpaself : Nat) (lpaa : Nat) (logself : Nat) (loga : Nat) (ldrself : Nat) (ldra : Nat) (lspself : Nat) (lspa : Nat) (lscself : Nat) (lsca : Nat) (wself : Nat) (wa : Nat) (sself : Nat) (sa : Nat) (noi : Int32) (obs : Int32) (res : Int32) (lmany : Int32) (lgens : Int32) (lplf : Nat → Int32) (lpaf : Nat → Int32) (logf : Nat → Int32) (ldrf : Nat → Int32) (lspf : Nat → Int32) (lscf : Nat → Int32) (wmany : Int32) (wf : Nat → Int32) (sf : Nat → Int32) (p0 : Int32) (r0 : Int32) (hF : F_X4_hasParticle lmany p0 = some r0) : Met l yX4_hasParticle (wz yX4_hasParticle cX4_hasParticle 2 (some .boolean)) rmX4_hasParticle (kPc D cI cJ [(self, .inr (4, [.ref lself, .ref wself, .ref sself, .ref ch, .int noi, .int obs, .int res])), (lself, .inr (1, [.ref lplself, .ref lpaself, .ref logself, .ref ldrself, .ref lspself, .ref lscself, .int lmany, .int lgens])), (lplself, .inr (2, [.ref lpla])), (lpla, .inl (cI, 240, .inl lplf)), (lpaself, .inr (2, [.ref lpaa])), (lpaa, .inl (cI, 240, .inl lpaf)), (logself, .inr (2, [.ref loga])), (loga, .inl (cI, 20, .inl logf)), (ldrself, .inr (2, [.ref ldra])), (ldra, .inl (cI, 20, .inl ldrf)), (lspself, .inr (2, [.ref lspa])), (lspa, .inl (cI, 20, .inl lspf)), (lscself, .inr (2, [.ref lsca])), (lsca, .inl (cI, 20, .inl lscf)), (wself, .inr (5, [.ref wa, .int wmany])), (wa, .inl (cI, 12, .inl wf)), (sself, .inr (2, [.ref sa])), (sa, .inl (cI, 3, .inl sf))] [.ref self, .int p0]) (vp_Si (fun r => r = r0)) 0 0 (fun _ => False) := by
  refine kM_ri cX4_hasParticle 2 .boolean (by decide +kernel) rfl rfl (Nat.le_of_ble_eq_true rfl) ⟨rfl, rfl⟩ ?_
  intro p e s m args below meth c Q ls hx hb hml hown hts hP hK hl hret
  have hk151 := hts _ (List.mem_cons_of_mem _ wl151)
  have hk2 := hts _ (List.mem_cons_of_mem _ wl2)
  have hk44 := hts _ (List.mem_cons_of_mem _ wl44)
  have hnX4 : ∀ w ∈ u_ws RX4 TX4 7, w ∈ wz yX4_hasParticle cX4_hasParticle 2 (some .boolean) := fun w h => List.mem_cons_of_mem _ (inlX4 w h)
  replace hl : lv_has ls 2 [(0, .ref self), (1, .int p0)] := hl
  have h := hF
  unfold F_X4_hasParticle at h
  refine lv_iload_n (pc := 0) hx hb dX4_hasParticle_0 rfl (lv_at hl 1 rfl) ?_
  refine lv_iconst (v := 0) (pc := 1) hx hb dX4_hasParticle_1 (by decide) ?_
  refine lv_aload_n (pc := 2) hx hb dX4_hasParticle_2 rfl (lv_at hl 0 rfl) ?_
  refine va_get (pc := 3) (D := D) (ci := 4) (v := .ref lself) (C := RX4) (T := TX4) (N := 7) hx hb hts hnX4 hown hK.1 hP 0 rfl rfl 0 (Nat.le_of_ble_eq_true rfl) hk44 (fun _ h9 => h9) rfl dX4_hasParticle_3 ?_
  obtain ⟨r1, hc1, h⟩ := am_bind_s h
  refine kc_Vi (pc := 6) (ci := 1) ⟨hx, hb, hml, hown, hts⟩ hP hK [] (c_X1_many l D cI cJ lself lplself lpla lpaself lpaa logself loga ldrself ldra lspself lspa lscself lsca lmany lgens lplf lpaf logf ldrf lspf lscf r1 hc1) [1, 2, 3, 4, 5, 6, 7, 8, 9, 10, 11, 12, 13] rfl (cwV 0 hts (gzV wl147 wl148 wl149 wl43 wl150) rfl rfl rfl ⟨rfl, hdX1_many⟩ ⟨Nat.le_of_ble_eq_true rfl, Nat.le_of_ble_eq_true rfl⟩) rfl rfl [.int (0 : Int32), .int p0] rfl hl.1 rfl (Nat.le_of_ble_eq_true rfl) dX4_hasParticle_6 ⟨Nat.zero_le _, Nat.zero_le _⟩ ?_
  refine lv_iconst (v := 1) (pc := 9) hx hb dX4_hasParticle_9 (by decide) ?_
  refine lv_isub (pc := 10) hx hb dX4_hasParticle_10 ?_
  obtain ⟨r2, hc2, h⟩ := am_bind_s h
  refine kc_Ni (pc := 11) ⟨hx, hb, hml, hown, hts⟩ hP hK [.int p0, .int (0 : Int32), .int (r1 - (1 : Int32))] (c_X6_isWithin l D cI cJ p0 (0 : Int32) (r1 - (1 : Int32)) r2 hc2) [] rfl ⟨va_cnB 3 hts (gzN wl152) rfl rfl rfl hK.2.2.1 hk2 hdX6_isWithin ⟨Nat.le_of_ble_eq_true rfl, Nat.le_of_ble_eq_true rfl⟩, hk151, trivial⟩ [] rfl hl.1 rfl (Nat.le_of_ble_eq_true rfl) dX4_hasParticle_11 ⟨Nat.zero_le _, Nat.zero_le _⟩ ?_
  obtain ⟨hbo, h⟩ := am_bool_s h
  obtain e1 := am_ret1 h
  exact hret _ _ _ dX4_hasParticle_14 (am_bool_n hbo) e1
theorem hdX4_changeWeight : yX4_changeWeight.cls ≠ "java/lang/invoke/MethodHandle" ∧ yX4_changeWeight.cls ≠ "java/lang/invoke/VarHandle" ∧ (parseMethodDescriptor yX4_changeWeight.desc).map (fun d => d.parameters.length) = some 2 := by decide +kernel
abbrev rmX4_changeWeight : Room := { frames := 2, cells := 0, slots := 0, locals := 53 }
set_option maxHeartbeats 20000000 in
set_option maxRecDepth 100000 in
theorem c_X4_changeWeight (l : Launch) (D : va_G) (cI cJ : ClassId) (self : Nat) (ch : Nat) (lself : Nat) (lplself : Nat) (lpla : Nat) (lpaself : Nat) (lpaa : Nat) (logself : Nat) (loga : Nat) (ldrself : Nat) (ldra : Nat) (lspself : Nat) (lspa : Nat) (lscself : Nat) (lsca : Nat) (wself : Nat) (wa : Nat) (sself : Nat) (sa : Nat) (noi : Int32) (obs : Int32) (res : Int32) (lmany : Int32) (lgens : Int32) (lplf : Nat → Int32) (lpaf : Nat → Int32) (logf : Nat → Int32) (ldrf : Nat → Int32) (lspf : Nat → Int32) (lscf : Nat → Int32) (wmany : Int32) (wf : Nat → Int32) (sf : Nat → Int32) (p0 : Int32) (p1 : Int32) (r0 : Int32) (zwf : Nat → Int32) (hF : F_X4_changeWeight lmany wmany wf p0 p1 = some (r0, zwf)) (sz : Nat) : Met l yX4_changeWeight (wz yX4_changeWeight cX4_changeWeight 3 (some .int)) rmX4_changeWeight (kPw D cI cJ [(self, .inr (4, [.ref lself, .ref wself, .ref sself, .ref ch, .int noi, .int obs, .int res])), (lself, .inr (1, [.ref lplself, .ref lpaself, .ref logself, .ref ldrself, .ref lspself, .ref lscself, .int lmany, .int lgens])), (lplself, .inr (2, [.ref lpla])), (lpla, .inl (cI, 240, .inl lplf)), (lpaself, .inr (2, [.ref lpaa])), (lpaa, .inl (cI, 240, .inl lpaf)), (logself, .inr (2, [.ref loga])), (loga, .inl (cI, 20, .inl logf)), (ldrself, .inr (2, [.ref ldra])), (ldra, .inl (cI, 20, .inl ldrf)), (lspself, .inr (2, [.ref lspa])), (lspa, .inl (cI, 20, .inl lspf)), (lscself, .inr (2, [.ref lsca])), (lsca, .inl (cI, 20, .inl lscf)), (wself, .inr (5, [.ref wa, .int wmany])), (wa, .inl (cI, 12, .inl wf)), (sself, .inr (2, [.ref sa])), (sa, .inl (cI, 3, .inl sf))] sz [.ref self, .int p0, .int p1]) (kQi D r0 [(self, .inr (4, [.ref lself, .ref wself, .ref sself, .ref ch, .int noi, .int obs, .int res])), (lself, .inr (1, [.ref lplself, .ref lpaself, .ref logself, .ref ldrself, .ref lspself, .ref lscself, .int lmany, .int lgens])), (lplself, .inr (2, [.ref lpla])), (lpla, .inl (cI, 240, .inl lplf)), (lpaself, .inr (2, [.ref lpaa])), (lpaa, .inl (cI, 240, .inl lpaf)), (logself, .inr (2, [.ref loga])), (loga, .inl (cI, 20, .inl logf)), (ldrself, .inr (2, [.ref ldra])), (ldra, .inl (cI, 20, .inl ldrf)), (lspself, .inr (2, [.ref lspa])), (lspa, .inl (cI, 20, .inl lspf)), (lscself, .inr (2, [.ref lsca])), (lsca, .inl (cI, 20, .inl lscf)), (wself, .inr (5, [.ref wa, .int wmany])), (wa, .inl (cI, 12, .inl zwf)), (sself, .inr (2, [.ref sa])), (sa, .inl (cI, 3, .inl sf))] (va_A [(self, .inr (4, [.ref lself, .ref wself, .ref sself, .ref ch, .int noi, .int obs, .int res])), (lself, .inr (1, [.ref lplself, .ref lpaself, .ref logself, .ref ldrself, .ref lspself, .ref lscself, .int lmany, .int lgens])), (lplself, .inr (2, [.ref lpla])), (lpla, .inl (cI, 240, .inl lplf)), (lpaself, .inr (2, [.ref lpaa])), (lpaa, .inl (cI, 240, .inl lpaf)), (logself, .inr (2, [.ref loga])), (loga, .inl (cI, 20, .inl logf)), (ldrself, .inr (2, [.ref ldra])), (ldra, .inl (cI, 20, .inl ldrf)), (lspself, .inr (2, [.ref lspa])), (lspa, .inl (cI, 20, .inl lspf)), (lscself, .inr (2, [.ref lsca])), (lsca, .inl (cI, 20, .inl lscf)), (wself, .inr (5, [.ref wa, .int wmany])), (wa, .inl (cI, 12, .inl wf)), (sself, .inr (2, [.ref sa])), (sa, .inl (cI, 3, .inl sf))] sz)) 0 0 (va_A [(self, .inr (4, [.ref lself, .ref wself, .ref sself, .ref ch, .int noi, .int obs, .int res])), (lself, .inr (1, [.ref lplself, .ref lpaself, .ref logself, .ref ldrself, .ref lspself, .ref lscself, .int lmany, .int lgens])), (lplself, .inr (2, [.ref lpla])), (lpla, .inl (cI, 240, .inl lplf)), (lpaself, .inr (2, [.ref lpaa])), (lpaa, .inl (cI, 240, .inl lpaf)), (logself, .inr (2, [.ref loga])), (loga, .inl (cI, 20, .inl logf)), (ldrself, .inr (2, [.ref ldra])), (ldra, .inl (cI, 20, .inl ldrf)), (lspself, .inr (2, [.ref lspa])), (lspa, .inl (cI, 20, .inl lspf)), (lscself, .inr (2, [.ref lsca])), (lsca, .inl (cI, 20, .inl lscf)), (wself, .inr (5, [.ref wa, .int wmany])), (wa, .inl (cI, 12, .inl wf)), (sself, .inr (2, [.ref sa])), (sa, .inl (cI, 3, .inl sf))] sz) := by
  refine kM_wi cX4_changeWeight 3 .int (by decide +kernel) rfl rfl (Nat.le_of_ble_eq_true rfl) ⟨rfl, rfl⟩ ?_
  intro p e s m args below meth c Q A ls hx hb hml hown hts hP hK hD hA hS hl hret
  have hk151 := hts _ (List.mem_cons_of_mem _ wl151)
  have hk2 := hts _ (List.mem_cons_of_mem _ wl2)
  have hk211 := hts _ (List.mem_cons_of_mem _ wl211)
  have hk332 := hts _ (List.mem_cons_of_mem _ wl332)
  have hk333 := hts _ (List.mem_cons_of_mem _ wl333)
  have hk48 := hts _ (List.mem_cons_of_mem _ wl48)
  have hnX4 : ∀ w ∈ u_ws RX4 TX4 7, w ∈ wz yX4_changeWeight cX4_changeWeight 3 (some .int) := fun w h => List.mem_cons_of_mem _ (inlX4 w h)
  replace hl : lv_has ls 3 [(0, .ref self), (1, .int p0), (2, .int p1)] := hl
  have h := hF
  unfold F_X4_changeWeight at h
  refine lv_aload_n (pc := 0) hx hb dX4_changeWeight_0 rfl (lv_at hl 0 rfl) ?_
  refine lv_iload_n (pc := 1) hx hb dX4_changeWeight_1 rfl (lv_at hl 1 rfl) ?_
  obtain ⟨r1, hc1, h⟩ := am_bind_s h
  refine kc_Vi (pc := 2) (ci := 4) ⟨hx, hb, hml, hown, hts⟩ hP hK [.int p0] (c_X4_hasParticle l D cI cJ self ch lself lplself lpla lpaself lpaa logself loga ldrself ldra lspself lspa lscself lsca wself wa sself sa noi obs res lmany lgens lplf lpaf logf ldrf lspf lscf wmany wf sf p0 r1 hc1) [0, 1, 2, 3, 4, 5, 6, 7, 8, 9, 10, 11, 12, 13, 14, 15, 16, 17] rfl (cwV 1 hts (gzV wl334 wl144 wl145 wl18 wl146) rfl rfl rfl ⟨rfl, hdX4_hasParticle⟩ ⟨Nat.le_of_ble_eq_true rfl, Nat.le_of_ble_eq_true rfl⟩) rfl rfl [] rfl hl.1 rfl (Nat.le_of_ble_eq_true rfl) dX4_changeWeight_2 ⟨Nat.zero_le _, Nat.zero_le _⟩ ?_
  refine lv_if_eq (pc := 5) (tgt := 18) hx hb dX4_changeWeight_5 (by decide) (fun cc => ?_) (fun cc => ?_)
  · replace h := am_t cc h
    refine lv_ldc (pc := 18) hx hb hown hk211 dX4_changeWeight_18 ?_
    obtain ⟨e1, e2⟩ := am_ret2 h
    exact hret _ _ _ _ _ dX4_changeWeight_20 rfl e1 (by rw [← e2]; exact hP) hS
  replace h := am_f cc h
  refine lv_iload_n (pc := 8) hx hb dX4_changeWeight_8 rfl (lv_at hl 2 rfl) ?_
  refine lv_iconst (v := 0) (pc := 9) hx hb dX4_changeWeight_9 (by decide) ?_
  refine lv_ldc (pc := 10) hx hb hown hk332 dX4_changeWeight_10 ?_
  obtain ⟨r2, hc2, h⟩ := am_bind_s h
  refine kc_Ni (pc := 12) ⟨hx, hb, hml, hown, hts⟩ hP hK [.int p1, .int (0 : Int32), .int (1000000 : Int32)] (c_X6_isWithin l D cI cJ p1 (0 : Int32) (1000000 : Int32) r2 hc2) [] rfl ⟨va_cnB 3 hts (gzN wl152) rfl rfl rfl hK.2.2.1 hk2 hdX6_isWithin ⟨Nat.le_of_ble_eq_true rfl, Nat.le_of_ble_eq_true rfl⟩, hk151, trivial⟩ [] rfl hl.1 rfl (Nat.le_of_ble_eq_true rfl) dX4_changeWeight_12 ⟨Nat.zero_le _, Nat.zero_le _⟩ ?_
  refine lv_if_ne (pc := 15) (tgt := 21) hx hb dX4_changeWeight_15 (by decide) (fun cc => ?_) (fun cc => ?_)
  · replace h := am_f cc h
    refine lv_aload_n (pc := 21) hx hb dX4_changeWeight_21 rfl (lv_at hl 0 rfl) ?_
    refine va_get (pc := 22) (D := D) (ci := 4) (v := .ref wself) (C := RX4) (T := TX4) (N := 7) hx hb hts hnX4 hown hK.1 hP 0 rfl rfl 1 (Nat.le_of_ble_eq_true rfl) hk48 (fun _ h9 => h9) rfl dX4_changeWeight_22 ?_
    refine lv_iload_n (pc := 25) hx hb dX4_changeWeight_25 rfl (lv_at hl 1 rfl) ?_
    refine lv_iload_n (pc := 26) hx hb dX4_changeWeight_26 rfl (lv_at hl 2 rfl) ?_
    obtain ⟨f3, hc3, h⟩ := am_bind_s h
    refine kc_Wv (pc := 27) (ci := 5) ⟨hx, hb, hml, hown, hts⟩ hP hK hD hS hA [.int p0, .int p1] (c_X5_putWeight l D cI cJ wself wa wmany wf p0 p1 f3 hc3 _) [14, 15] rfl rfl rfl (cwV 2 hts (gzV wl335 wl336 wl337 wl47 wl338) rfl rfl rfl ⟨rfl, hdX5_putWeight⟩ ⟨Nat.le_of_ble_eq_true rfl, Nat.le_of_ble_eq_true rfl⟩) rfl rfl [] rfl hl.1 rfl (Nat.le_of_ble_eq_true rfl) dX4_changeWeight_27 ⟨Nat.zero_le _, Nat.zero_le _⟩ (fun H locs hP hD hS => ?_)
    replace hP : va_P D vwCl [(self, .inr (4, [.ref lself, .ref wself, .ref sself, .ref ch, .int noi, .int obs, .int res])), (lself, .inr (1, [.ref lplself, .ref lpaself, .ref logself, .ref ldrself, .ref lspself, .ref lscself, .int lmany, .int lgens])), (lplself, .inr (2, [.ref lpla])), (lpla, .inl (cI, 240, .inl lplf)), (lpaself, .inr (2, [.ref lpaa])), (lpaa, .inl (cI, 240, .inl lpaf)), (logself, .inr (2, [.ref loga])), (loga, .inl (cI, 20, .inl logf)), (ldrself, .inr (2, [.ref ldra])), (ldra, .inl (cI, 20, .inl ldrf)), (lspself, .inr (2, [.ref lspa])), (lspa, .inl (cI, 20, .inl lspf)), (lscself, .inr (2, [.ref lsca])), (lsca, .inl (cI, 20, .inl lscf)), (wself, .inr (5, [.ref wa, .int wmany])), (wa, .inl (cI, 12, .inl f3)), (sself, .inr (2, [.ref sa])), (sa, .inl (cI, 3, .inl sf))] H := hP
    replace hD : va_D A [(self, .inr (4, [.ref lself, .ref wself, .ref sself, .ref ch, .int noi, .int obs, .int res])), (lself, .inr (1, [.ref lplself, .ref lpaself, .ref logself, .ref ldrself, .ref lspself, .ref lscself, .int lmany, .int lgens])), (lplself, .inr (2, [.ref lpla])), (lpla, .inl (cI, 240, .inl lplf)), (lpaself, .inr (2, [.ref lpaa])), (lpaa, .inl (cI, 240, .inl lpaf)), (logself, .inr (2, [.ref loga])), (loga, .inl (cI, 20, .inl logf)), (ldrself, .inr (2, [.ref ldra])), (ldra, .inl (cI, 20, .inl ldrf)), (lspself, .inr (2, [.ref lspa])), (lspa, .inl (cI, 20, .inl lspf)), (lscself, .inr (2, [.ref lsca])), (lsca, .inl (cI, 20, .inl lscf)), (wself, .inr (5, [.ref wa, .int wmany])), (wa, .inl (cI, 12, .inl f3)), (sself, .inr (2, [.ref sa])), (sa, .inl (cI, 3, .inl sf))] := hD
    refine lv_aload_n (pc := 30) hx hb dX4_changeWeight_30 rfl (lv_at hl 0 rfl) ?_
    refine va_get (pc := 31) (D := D) (ci := 4) (v := .ref wself) (C := RX4) (T := TX4) (N := 7) hx hb hts hnX4 hown hK.1 hP 0 rfl rfl 1 (Nat.le_of_ble_eq_true rfl) hk48 (fun _ h9 => h9) rfl dX4_changeWeight_31 ?_
    obtain ⟨r4, f5, hc5, h⟩ := am_call2_s h
    refine kc_Wi (pc := 34) (ci := 5) ⟨hx, hb, hml, hown, hts⟩ hP hK hD hS hA [] (c_X5_reduce l D cI cJ wself wa wmany f3 r4 f5 hc5 _) [14, 15] rfl rfl rfl (cwV 0 hts (gzV wl339 wl340 wl341 wl47 wl342) rfl rfl rfl ⟨rfl, hdX5_reduce⟩ ⟨Nat.le_of_ble_eq_true rfl, Nat.le_of_ble_eq_true rfl⟩) rfl rfl [] rfl hl.1 rfl (Nat.le_of_ble_eq_true rfl) dX4_changeWeight_34 ⟨Nat.zero_le _, Nat.zero_le _⟩ (fun H locs hP hD hS => ?_)
    replace hP : va_P D vwCl [(self, .inr (4, [.ref lself, .ref wself, .ref sself, .ref ch, .int noi, .int obs, .int res])), (lself, .inr (1, [.ref lplself, .ref lpaself, .ref logself, .ref ldrself, .ref lspself, .ref lscself, .int lmany, .int lgens])), (lplself, .inr (2, [.ref lpla])), (lpla, .inl (cI, 240, .inl lplf)), (lpaself, .inr (2, [.ref lpaa])), (lpaa, .inl (cI, 240, .inl lpaf)), (logself, .inr (2, [.ref loga])), (loga, .inl (cI, 20, .inl logf)), (ldrself, .inr (2, [.ref ldra])), (ldra, .inl (cI, 20, .inl ldrf)), (lspself, .inr (2, [.ref lspa])), (lspa, .inl (cI, 20, .inl lspf)), (lscself, .inr (2, [.ref lsca])), (lsca, .inl (cI, 20, .inl lscf)), (wself, .inr (5, [.ref wa, .int wmany])), (wa, .inl (cI, 12, .inl f5)), (sself, .inr (2, [.ref sa])), (sa, .inl (cI, 3, .inl sf))] H := hP
    replace hD : va_D A [(self, .inr (4, [.ref lself, .ref wself, .ref sself, .ref ch, .int noi, .int obs, .int res])), (lself, .inr (1, [.ref lplself, .ref lpaself, .ref logself, .ref ldrself, .ref lspself, .ref lscself, .int lmany, .int lgens])), (lplself, .inr (2, [.ref lpla])), (lpla, .inl (cI, 240, .inl lplf)), (lpaself, .inr (2, [.ref lpaa])), (lpaa, .inl (cI, 240, .inl lpaf)), (logself, .inr (2, [.ref loga])), (loga, .inl (cI, 20, .inl logf)), (ldrself, .inr (2, [.ref ldra])), (ldra, .inl (cI, 20, .inl ldrf)), (lspself, .inr (2, [.ref lspa])), (lspa, .inl (cI, 20, .inl lspf)), (lscself, .inr (2, [.ref lsca])), (lsca, .inl (cI, 20, .inl lscf)), (wself, .inr (5, [.ref wa, .int wmany])), (wa, .inl (cI, 12, .inl f5)), (sself, .inr (2, [.ref sa])), (sa, .inl (cI, 3, .inl sf))] := hD
    refine lv_if_ne (pc := 37) (tgt := 43) hx hb dX4_changeWeight_37 (by decide) (fun cc => ?_) (fun cc => ?_)
    · replace h := am_f cc h
      refine lv_aload_n (pc := 43) hx hb dX4_changeWeight_43 rfl (lv_at hl 0 rfl) ?_
      refine va_get (pc := 44) (D := D) (ci := 4) (v := .ref wself) (C := RX4) (T := TX4) (N := 7) hx hb hts hnX4 hown hK.1 hP 0 rfl rfl 1 (Nat.le_of_ble_eq_true rfl) hk48 (fun _ h9 => h9) rfl dX4_changeWeight_44 ?_
      refine lv_iload_n (pc := 47) hx hb dX4_changeWeight_47 rfl (lv_at hl 1 rfl) ?_
      obtain ⟨r6, hc6, h⟩ := am_bind_s h
      refine kc_Vi (pc := 48) (ci := 5) ⟨hx, hb, hml, hown, hts⟩ hP hK [.int p0] (c_X5_weightOf l D cI cJ wself wa wmany f5 p0 r6 hc6) [14, 15] rfl (cwV 1 hts (gzV wl171 wl172 wl173 wl47 wl174) rfl rfl rfl ⟨rfl, hdX5_weightOf⟩ ⟨Nat.le_of_ble_eq_true rfl, Nat.le_of_ble_eq_true rfl⟩) rfl rfl [] rfl hl.1 rfl (Nat.le_of_ble_eq_true rfl) dX4_changeWeight_48 ⟨Nat.zero_le _, Nat.zero_le _⟩ ?_
      obtain ⟨e1, e2⟩ := am_ret2 h
      exact hret _ _ _ _ _ dX4_changeWeight_51 rfl e1 (by rw [← e2]; exact hP) hS
    replace h := am_t cc h
    refine lv_ldc (pc := 40) hx hb hown hk333 dX4_changeWeight_40 ?_
    obtain ⟨e1, e2⟩ := am_ret2 h
    exact hret _ _ _ _ _ dX4_changeWeight_42 rfl e1 (by rw [← e2]; exact hP) hS
  replace h := am_t cc h
  refine lv_ldc (pc := 18) hx hb hown hk211 dX4_changeWeight_18 ?_
  obtain ⟨e1, e2⟩ := am_ret2 h
  exact hret _ _ _ _ _ dX4_changeWeight_20 rfl e1 (by rw [← e2]; exact hP) hS
theorem hdX4_shift : yX4_shift.cls ≠ "java/lang/invoke/MethodHandle" ∧ yX4_shift.cls ≠ "java/lang/invoke/VarHandle" ∧ (parseMethodDescriptor yX4_shift.desc).map (fun d => d.parameters.length) = some 2 := by decide +kernel
abbrev rmX4_shift : Room := { frames := 2, cells := 0, slots := 0, locals := 46 }
set_option maxHeartbeats 20000000 in
set_option maxRecDepth 100000 in
theorem c_X4_shift (l : Launch) (D : va_G) (cI cJ : ClassId) (self : Nat) (ch : Nat) (lself : Nat) (lplself : Nat) (lpla : Nat) (lpaself : Nat) (lpaa : Nat) (logself : Nat) (loga : Nat) (ldrself : Nat) (ldra : Nat) (lspself : Nat) (lspa : Nat) (lscself : Nat) (lsca : Nat) (wself : Nat) (wa : Nat) (sself : Nat) (sa : Nat) (noi : Int32) (obs : Int32) (res : Int32) (lmany : Int32) (lgens : Int32) (lplf : Nat → Int32) (lpaf : Nat → Int32) (logf : Nat → Int32) (ldrf : Nat → Int32) (lspf : Nat → Int32) (lscf : Nat → Int32) (wmany : Int32) (wf : Nat → Int32) (sf : Nat → Int32) (p0 : Int32) (p1 : Int32) (r0 : Int32) (znoi : Int32) (zlgens : Int32) (zlplf : Nat → Int32) (zlpaf : Nat → Int32) (zlogf : Nat → Int32) (zldrf : Nat → Int32) (zlspf : Nat → Int32) (hF : F_X4_shift noi lmany lgens lplf lpaf logf ldrf lspf p0 p1 = some (r0, znoi, zlgens, zlplf, zlpaf, zlogf, zldrf, zlspf)) (sz : Nat) : Met l yX4_shift (wz yX4_shift cX4_shift 6 (some .int)) rmX4_shift (kPw D cI cJ [(self, .inr (4, [.ref lself, .ref wself, .ref sself, .ref ch, .int noi, .int obs, .int res])), (lself, .inr (1, [.ref lplself, .ref lpaself, .ref logself, .ref ldrself, .ref lspself, .ref lscself, .int lmany, .int lgens])), (lplself, .inr (2, [.ref lpla])), (lpla, .inl (cI, 240, .inl lplf)), (lpaself, .inr (2, [.ref lpaa])), (lpaa, .inl (cI, 240, .inl lpaf)), (logself, .inr (2, [.ref loga])), (loga, .inl (cI, 20, .inl logf)), (ldrself, .inr (2, [.ref ldra])), (ldra, .inl (cI, 20, .inl ldrf)), (lspself, .inr (2, [.ref lspa])), (lspa, .inl (cI, 20, .inl lspf)), (lscself, .inr (2, [.ref lsca])), (lsca, .inl (cI, 20, .inl lscf)), (wself, .inr (5, [.ref wa, .int wmany])), (wa, .inl (cI, 12, .inl wf)), (sself, .inr (2, [.ref sa])), (sa, .inl (cI, 3, .inl sf))] sz [.ref self, .int p0, .int p1]) (kQi D r0 [(self, .inr (4, [.ref lself, .ref wself, .ref sself, .ref ch, .int znoi, .int obs, .int res])), (lself, .inr (1, [.ref lplself, .ref lpaself, .ref logself, .ref ldrself, .ref lspself, .ref lscself, .int lmany, .int zlgens])), (lplself, .inr (2, [.ref lpla])), (lpla, .inl (cI, 240, .inl zlplf)), (lpaself, .inr (2, [.ref lpaa])), (lpaa, .inl (cI, 240, .inl zlpaf)), (logself, .inr (2, [.ref loga])), (loga, .inl (cI, 20, .inl zlogf)), (ldrself, .inr (2, [.ref ldra])), (ldra, .inl (cI, 20, .inl zldrf)), (lspself, .inr (2, [.ref lspa])), (lspa, .inl (cI, 20, .inl zlspf)), (lscself, .inr (2, [.ref lsca])), (lsca, .inl (cI, 20, .inl lscf)), (wself, .inr (5, [.ref wa, .int wmany])), (wa, .inl (cI, 12, .inl wf)), (sself, .inr (2, [.ref sa])), (sa, .inl (cI, 3, .inl sf))] (va_A [(self, .inr (4, [.ref lself, .ref wself, .ref sself, .ref ch, .int noi, .int obs, .int res])), (lself, .inr (1, [.ref lplself, .ref lpaself, .ref logself, .ref ldrself, .ref lspself, .ref lscself, .int lmany, .int lgens])), (lplself, .inr (2, [.ref lpla])), (lpla, .inl (cI, 240, .inl lplf)), (lpaself, .inr (2, [.ref lpaa])), (lpaa, .inl (cI, 240, .inl lpaf)), (logself, .inr (2, [.ref loga])), (loga, .inl (cI, 20, .inl logf)), (ldrself, .inr (2, [.ref ldra])), (ldra, .inl (cI, 20, .inl ldrf)), (lspself, .inr (2, [.ref lspa])), (lspa, .inl (cI, 20, .inl lspf)), (lscself, .inr (2, [.ref lsca])), (lsca, .inl (cI, 20, .inl lscf)), (wself, .inr (5, [.ref wa, .int wmany])), (wa, .inl (cI, 12, .inl wf)), (sself, .inr (2, [.ref sa])), (sa, .inl (cI, 3, .inl sf))] sz)) 0 0 (va_A [(self, .inr (4, [.ref lself, .ref wself, .ref sself, .ref ch, .int noi, .int obs, .int res])), (lself, .inr (1, [.ref lplself, .ref lpaself, .ref logself, .ref ldrself, .ref lspself, .ref lscself, .int lmany, .int lgens])), (lplself, .inr (2, [.ref lpla])), (lpla, .inl (cI, 240, .inl lplf)), (lpaself, .inr (2, [.ref lpaa])), (lpaa, .inl (cI, 240, .inl lpaf)), (logself, .inr (2, [.ref loga])), (loga, .inl (cI, 20, .inl logf)), (ldrself, .inr (2, [.ref ldra])), (ldra, .inl (cI, 20, .inl ldrf)), (lspself, .inr (2, [.ref lspa])), (lspa, .inl (cI, 20, .inl lspf)), (lscself, .inr (2, [.ref lsca])), (lsca, .inl (cI, 20, .inl lscf)), (wself, .inr (5, [.ref wa, .int wmany])), (wa, .inl (cI, 12, .inl wf)), (sself, .inr (2, [.ref sa])), (sa, .inl (cI, 3, .inl sf))] sz) := by
  refine kM_wi cX4_shift 6 .int (by decide +kernel) rfl rfl (Nat.le_of_ble_eq_true rfl) ⟨rfl, rfl⟩ ?_
  intro p e s m args below meth c Q A ls hx hb hml hown hts hP hK hD hA hS hl hret
  have hk151 := hts _ (List.mem_cons_of_mem _ wl151)
  have hk2 := hts _ (List.mem_cons_of_mem _ wl2)
  have hk211 := hts _ (List.mem_cons_of_mem _ wl211)
  have hk354 := hts _ (List.mem_cons_of_mem _ wl354)
  have hk359 := hts _ (List.mem_cons_of_mem _ wl359)
  have hk44 := hts _ (List.mem_cons_of_mem _ wl44)
  have hk91 := hts _ (List.mem_cons_of_mem _ wl91)
  have hk99 := hts _ (List.mem_cons_of_mem _ wl99)
  have hnX4 : ∀ w ∈ u_ws RX4 TX4 7, w ∈ wz yX4_shift cX4_shift 6 (some .int) := fun w h => List.mem_cons_of_mem _ (inlX4 w h)
  replace hl : lv_has ls 6 [(0, .ref self), (1, .int p0), (2, .int p1)] := hl
  have h := hF
  unfold F_X4_shift at h
  refine lv_iload_n (pc := 0) hx hb dX4_shift_0 rfl (lv_at hl 1 rfl) ?_
  refine lv_bipush (v := -99) (pc := 1) hx hb dX4_shift_1 (by decide) ?_
  refine lv_bipush (v := 99) (pc := 3) hx hb dX4_shift_3 (by decide) ?_
  obtain ⟨r1, hc1, h⟩ := am_bind_s h
  refine kc_Ni (pc := 5) ⟨hx, hb, hml, hown, hts⟩ hP hK [.int p0, .int (-99 : Int32), .int (99 : Int32)] (c_X6_isWithin l D cI cJ p0 (-99 : Int32) (99 : Int32) r1 hc1) [] rfl ⟨va_cnB 3 hts (gzN wl152) rfl rfl rfl hK.2.2.1 hk2 hdX6_isWithin ⟨Nat.le_of_ble_eq_true rfl, Nat.le_of_ble_eq_true rfl⟩, hk151, trivial⟩ [] rfl hl.1 rfl (Nat.le_of_ble_eq_true rfl) dX4_shift_5 ⟨Nat.zero_le _, Nat.zero_le _⟩ ?_
  refine lv_if_eq (pc := 8) (tgt := 21) hx hb dX4_shift_8 (by decide) (fun cc => ?_) (fun cc => ?_)
  · replace h := am_t cc h
    refine lv_ldc (pc := 21) hx hb hown hk211 dX4_shift_21 ?_
    obtain ⟨e1, e2, e3, e4, e5, e6, e7, e8⟩ := am_ret8 h
    exact hret _ _ _ _ _ dX4_shift_23 rfl e1 (by rw [← e2, ← e3, ← e4, ← e5, ← e6, ← e7, ← e8]; exact hP) hS
  replace h := am_f cc h
  refine lv_iload_n (pc := 11) hx hb dX4_shift_11 rfl (lv_at hl 2 rfl) ?_
  refine lv_iconst (v := 0) (pc := 12) hx hb dX4_shift_12 (by decide) ?_
  refine lv_bipush (v := 99) (pc := 13) hx hb dX4_shift_13 (by decide) ?_
  obtain ⟨r2, hc2, h⟩ := am_bind_s h
  refine kc_Ni (pc := 15) ⟨hx, hb, hml, hown, hts⟩ hP hK [.int p1, .int (0 : Int32), .int (99 : Int32)] (c_X6_isWithin l D cI cJ p1 (0 : Int32) (99 : Int32) r2 hc2) [] rfl ⟨va_cnB 3 hts (gzN wl152) rfl rfl rfl hK.2.2.1 hk2 hdX6_isWithin ⟨Nat.le_of_ble_eq_true rfl, Nat.le_of_ble_eq_true rfl⟩, hk151, trivial⟩ [] rfl hl.1 rfl (Nat.le_of_ble_eq_true rfl) dX4_shift_15 ⟨Nat.zero_le _, Nat.zero_le _⟩ ?_
  refine lv_if_ne (pc := 18) (tgt := 24) hx hb dX4_shift_18 (by decide) (fun cc => ?_) (fun cc => ?_)
  · replace h := am_f cc h
    refine lv_aload_n (pc := 24) hx hb dX4_shift_24 rfl (lv_at hl 0 rfl) ?_
    refine va_get (pc := 25) (D := D) (ci := 4) (v := .ref lself) (C := RX4) (T := TX4) (N := 7) hx hb hts hnX4 hown hK.1 hP 0 rfl rfl 0 (Nat.le_of_ble_eq_true rfl) hk44 (fun _ h9 => h9) rfl dX4_shift_25 ?_
    obtain ⟨r3, hc3, h⟩ := am_bind_s h
    refine kc_Vi (pc := 28) (ci := 1) ⟨hx, hb, hml, hown, hts⟩ hP hK [] (c_X1_generations l D cI cJ lself lplself lpla lpaself lpaa logself loga ldrself ldra lspself lspa lscself lsca lmany lgens lplf lpaf logf ldrf lspf lscf r3 hc3) [1, 2, 3, 4, 5, 6, 7, 8, 9, 10, 11, 12, 13] rfl (cwV 0 hts (gzV wl212 wl213 wl214 wl43 wl215) rfl rfl rfl ⟨rfl, hdX1_generations⟩ ⟨Nat.le_of_ble_eq_true rfl, Nat.le_of_ble_eq_true rfl⟩) rfl rfl [] rfl hl.1 rfl (Nat.le_of_ble_eq_true rfl) dX4_shift_28 ⟨Nat.zero_le _, Nat.zero_le _⟩ ?_
    refine lv_bipush (v := 20) (pc := 31) hx hb dX4_shift_31 (by decide) ?_
    refine lv_icmp_lt (pc := 33) (tgt := 39) hx hb dX4_shift_33 (by decide) (fun cc => ?_) (fun cc => ?_)
    · replace h := am_t cc h
      refine lv_aload_n (pc := 39) hx hb dX4_shift_39 rfl (lv_at hl 0 rfl) ?_
      refine va_get (pc := 40) (D := D) (ci := 4) (v := .ref lself) (C := RX4) (T := TX4) (N := 7) hx hb hts hnX4 hown hK.1 hP 0 rfl rfl 0 (Nat.le_of_ble_eq_true rfl) hk44 (fun _ h9 => h9) rfl dX4_shift_40 ?_
      obtain ⟨r4, hc4, h⟩ := am_bind_s h
      refine kc_Vi (pc := 43) (ci := 1) ⟨hx, hb, hml, hown, hts⟩ hP hK [] (c_X1_latest l D cI cJ lself lplself lpla lpaself lpaa logself loga ldrself ldra lspself lspa lscself lsca lmany lgens lplf lpaf logf ldrf lspf lscf r4 hc4) [1, 2, 3, 4, 5, 6, 7, 8, 9, 10, 11, 12, 13] rfl (cwV 0 hts (gzV wl159 wl160 wl161 wl43 wl162) rfl rfl rfl ⟨rfl, hdX1_latest⟩ ⟨Nat.le_of_ble_eq_true rfl, Nat.le_of_ble_eq_true rfl⟩) rfl rfl [] rfl hl.1 rfl (Nat.le_of_ble_eq_true rfl) dX4_shift_43 ⟨Nat.zero_le _, Nat.zero_le _⟩ ?_
      refine lv_istore_n (lv' := [(3, .int r4), (0, .ref self), (1, .int p0), (2, .int p1)]) (pc := 46) hx hb dX4_shift_46 rfl hl (by decide) rfl (fun ls hl => ?_)
      refine lv_aload_n (pc := 47) hx hb dX4_shift_47 rfl (lv_at hl 1 rfl) ?_
      refine va_get (pc := 48) (D := D) (ci := 4) (v := .ref lself) (C := RX4) (T := TX4) (N := 7) hx hb hts hnX4 hown hK.1 hP 0 rfl rfl 0 (Nat.le_of_ble_eq_true rfl) hk44 (fun _ h9 => h9) rfl dX4_shift_48 ?_
      refine lv_iload_n (pc := 51) hx hb dX4_shift_51 rfl (lv_at hl 2 rfl) ?_
      refine lv_iload_n (pc := 52) hx hb dX4_shift_52 rfl (lv_at hl 3 rfl) ?_
      obtain ⟨u5, f6, f7, f8, hc8, h⟩ := am_call4_s h
      refine kc_Wv (pc := 53) (ci := 1) ⟨hx, hb, hml, hown, hts⟩ hP hK hD hS hA [.int p0, .int p1] (c_X1_addMoved l D cI cJ lself lplself lpla lpaself lpaa logself loga ldrself ldra lspself lspa lscself lsca lmany lgens lplf lpaf logf ldrf lspf lscf p0 p1 u5 f6 f7 f8 hc8 _) [1, 2, 3, 4, 5, 6, 7, 8, 9, 10, 11, 12, 13] rfl rfl rfl (cwV 2 hts (gzV wl355 wl356 wl357 wl43 wl358) rfl rfl rfl ⟨rfl, hdX1_addMoved⟩ ⟨Nat.le_of_ble_eq_true rfl, Nat.le_of_ble_eq_true rfl⟩) rfl rfl [] rfl hl.1 rfl (Nat.le_of_ble_eq_true rfl) dX4_shift_53 ⟨Nat.zero_le _, Nat.zero_le _⟩ (fun H locs hP hD hS => ?_)
      replace hP : va_P D vwCl [(self, .inr (4, [.ref lself, .ref wself, .ref sself, .ref ch, .int noi, .int obs, .int res])), (lself, .inr (1, [.ref lplself, .ref lpaself, .ref logself, .ref ldrself, .ref lspself, .ref lscself, .int lmany, .int u5])), (lplself, .inr (2, [.ref lpla])), (lpla, .inl (cI, 240, .inl lplf)), (lpaself, .inr (2, [.ref lpaa])), (lpaa, .inl (cI, 240, .inl lpaf)), (logself, .inr (2, [.ref loga])), (loga, .inl (cI, 20, .inl f6)), (ldrself, .inr (2, [.ref ldra])), (ldra, .inl (cI, 20, .inl f7)), (lspself, .inr (2, [.ref lspa])), (lspa, .inl (cI, 20, .inl f8)), (lscself, .inr (2, [.ref lsca])), (lsca, .inl (cI, 20, .inl lscf)), (wself, .inr (5, [.ref wa, .int wmany])), (wa, .inl (cI, 12, .inl wf)), (sself, .inr (2, [.ref sa])), (sa, .inl (cI, 3, .inl sf))] H := hP
      replace hD : va_D A [(self, .inr (4, [.ref lself, .ref wself, .ref sself, .ref ch, .int noi, .int obs, .int res])), (lself, .inr (1, [.ref lplself, .ref lpaself, .ref logself, .ref ldrself, .ref lspself, .ref lscself, .int lmany, .int u5])), (lplself, .inr (2, [.ref lpla])), (lpla, .inl (cI, 240, .inl lplf)), (lpaself, .inr (2, [.ref lpaa])), (lpaa, .inl (cI, 240, .inl lpaf)), (logself, .inr (2, [.ref loga])), (loga, .inl (cI, 20, .inl f6)), (ldrself, .inr (2, [.ref ldra])), (ldra, .inl (cI, 20, .inl f7)), (lspself, .inr (2, [.ref lspa])), (lspa, .inl (cI, 20, .inl f8)), (lscself, .inr (2, [.ref lsca])), (lsca, .inl (cI, 20, .inl lscf)), (wself, .inr (5, [.ref wa, .int wmany])), (wa, .inl (cI, 12, .inl wf)), (sself, .inr (2, [.ref sa])), (sa, .inl (cI, 3, .inl sf))] := hD
      refine lv_iconst (v := 0) (pc := 56) hx hb dX4_shift_56 (by decide) ?_
      refine lv_istore (lv' := [(4, .int (0 : Int32)), (3, .int r4), (0, .ref self), (1, .int p0), (2, .int p1)]) (pc := 57) hx hb dX4_shift_57 hl (by decide) rfl (fun ls hl => ?_)
      refine am_join3_s (fun (u9 : Int32) (f10 : Nat → Int32) (f11 : Nat → Int32) => ∀ (ls : Array Slot), lv_has ls 6 [(0, .ref self)] → ∀ (H : Heap) (locs : List Loc), va_P D vwCl [(self, .inr (4, [.ref lself, .ref wself, .ref sself, .ref ch, .int u9, .int obs, .int res])), (lself, .inr (1, [.ref lplself, .ref lpaself, .ref logself, .ref ldrself, .ref lspself, .ref lscself, .int lmany, .int u5])), (lplself, .inr (2, [.ref lpla])), (lpla, .inl (cI, 240, .inl f10)), (lpaself, .inr (2, [.ref lpaa])), (lpaa, .inl (cI, 240, .inl f11)), (logself, .inr (2, [.ref loga])), (loga, .inl (cI, 20, .inl f6)), (ldrself, .inr (2, [.ref ldra])), (ldra, .inl (cI, 20, .inl f7)), (lspself, .inr (2, [.ref lspa])), (lspa, .inl (cI, 20, .inl f8)), (lscself, .inr (2, [.ref lsca])), (lsca, .inl (cI, 20, .inl lscf)), (wself, .inr (5, [.ref wa, .int wmany])), (wa, .inl (cI, 12, .inl wf)), (sself, .inr (2, [.ref sa])), (sa, .inl (cI, 3, .inl sf))] H → va_D A [(self, .inr (4, [.ref lself, .ref wself, .ref sself, .ref ch, .int u9, .int obs, .int res])), (lself, .inr (1, [.ref lplself, .ref lpaself, .ref logself, .ref ldrself, .ref lspself, .ref lscself, .int lmany, .int u5])), (lplself, .inr (2, [.ref lpla])), (lpla, .inl (cI, 240, .inl f10)), (lpaself, .inr (2, [.ref lpaa])), (lpaa, .inl (cI, 240, .inl f11)), (logself, .inr (2, [.ref loga])), (loga, .inl (cI, 20, .inl f6)), (ldrself, .inr (2, [.ref ldra])), (ldra, .inl (cI, 20, .inl f7)), (lspself, .inr (2, [.ref lspa])), (lspa, .inl (cI, 20, .inl f8)), (lscself, .inr (2, [.ref lsca])), (lsca, .inl (cI, 20, .inl lscf)), (wself, .inr (5, [.ref wa, .int wmany])), (wa, .inl (cI, 12, .inl wf)), (sself, .inr (2, [.ref sa])), (sa, .inl (cI, 3, .inl sf))] → va_S A s.heap H locs → W p l e rmX4_shift s m args below meth c H locs 0 0 Q (F0 m 131 ls [])) h (fun u9 f10 f11 h ls hl H locs hP hD hS => ?_) (fun K12 hK12 h => ?_)
      · refine lv_aload_n (pc := 131) hx hb dX4_shift_131 rfl (lv_at hl 0 rfl) ?_
        refine va_get (pc := 132) (D := D) (ci := 4) (v := .ref lself) (C := RX4) (T := TX4) (N := 7) hx hb hts hnX4 hown hK.1 hP 0 rfl rfl 0 (Nat.le_of_ble_eq_true rfl) hk44 (fun _ h9 => h9) rfl dX4_shift_132 ?_
        obtain ⟨r13, hc13, h⟩ := am_bind_s h
        refine kc_Vi (pc := 135) (ci := 1) ⟨hx, hb, hml, hown, hts⟩ hP hK [] (c_X1_latest l D cI cJ lself lplself lpla lpaself lpaa logself loga ldrself ldra lspself lspa lscself lsca lmany u5 f10 f11 f6 f7 f8 lscf r13 hc13) [1, 2, 3, 4, 5, 6, 7, 8, 9, 10, 11, 12, 13] rfl (cwV 0 hts (gzV wl159 wl160 wl161 wl43 wl162) rfl rfl rfl ⟨rfl, hdX1_latest⟩ ⟨Nat.le_of_ble_eq_true rfl, Nat.le_of_ble_eq_true rfl⟩) rfl rfl [] rfl hl.1 rfl (Nat.le_of_ble_eq_true rfl) dX4_shift_135 ⟨Nat.zero_le _, Nat.zero_le _⟩ ?_
        obtain ⟨e1, e2, e3, e4, e5, e6, e7, e8⟩ := am_ret8 h
        exact hret _ _ _ _ _ dX4_shift_138 rfl e1 (by rw [← e2, ← e3, ← e4, ← e5, ← e6, ← e7, ← e8]; exact hP) hS
      refine am_loop4_s (fun (x14 : Int32) (u15 : Int32) (f16 : Nat → Int32) (f17 : Nat → Int32) => ∀ (ls : Array Slot), lv_has ls 6 [(0, .ref self), (1, .int p0), (2, .int p1), (3, .int r4), (4, .int x14)] → ∀ (H : Heap) (locs : List Loc), va_P D vwCl [(self, .inr (4, [.ref lself, .ref wself, .ref sself, .ref ch, .int u15, .int obs, .int res])), (lself, .inr (1, [.ref lplself, .ref lpaself, .ref logself, .ref ldrself, .ref lspself, .ref lscself, .int lmany, .int u5])), (lplself, .inr (2, [.ref lpla])), (lpla, .inl (cI, 240, .inl f16)), (lpaself, .inr (2, [.ref lpaa])), (lpaa, .inl (cI, 240, .inl f17)), (logself, .inr (2, [.ref loga])), (loga, .inl (cI, 20, .inl f6)), (ldrself, .inr (2, [.ref ldra])), (ldra, .inl (cI, 20, .inl f7)), (lspself, .inr (2, [.ref lspa])), (lspa, .inl (cI, 20, .inl f8)), (lscself, .inr (2, [.ref lsca])), (lsca, .inl (cI, 20, .inl lscf)), (wself, .inr (5, [.ref wa, .int wmany])), (wa, .inl (cI, 12, .inl wf)), (sself, .inr (2, [.ref sa])), (sa, .inl (cI, 3, .inl sf))] H → va_D A [(self, .inr (4, [.ref lself, .ref wself, .ref sself, .ref ch, .int u15, .int obs, .int res])), (lself, .inr (1, [.ref lplself, .ref lpaself, .ref logself, .ref ldrself, .ref lspself, .ref lscself, .int lmany, .int u5])), (lplself, .inr (2, [.ref lpla])), (lpla, .inl (cI, 240, .inl f16)), (lpaself, .inr (2, [.ref lpaa])), (lpaa, .inl (cI, 240, .inl f17)), (logself, .inr (2, [.ref loga])), (loga, .inl (cI, 20, .inl f6)), (ldrself, .inr (2, [.ref ldra])), (ldra, .inl (cI, 20, .inl f7)), (lspself, .inr (2, [.ref lspa])), (lspa, .inl (cI, 20, .inl f8)), (lscself, .inr (2, [.ref lsca])), (lsca, .inl (cI, 20, .inl lscf)), (wself, .inr (5, [.ref wa, .int wmany])), (wa, .inl (cI, 12, .inl wf)), (sself, .inr (2, [.ref sa])), (sa, .inl (cI, 3, .inl sf))] → va_S A s.heap H locs → W p l e rmX4_shift s m args below meth c H locs 0 0 Q (F0 m 59 ls [])) (fun rec18 ihrec18 x14 u15 f16 f17 h ls hl H locs hP hD hS => ?_) _ _ _ _ _ h ls (lv_sub hl [2, 3, 4, 1, 0] rfl) H locs hP hD hS
      unfold F_X4_shift_B59 at h
      refine lv_iload (pc := 59) hx hb dX4_shift_59 (lv_at hl 4 rfl) ?_
      refine lv_aload_n (pc := 61) hx hb dX4_shift_61 rfl (lv_at hl 0 rfl) ?_
      refine va_get (pc := 62) (D := D) (ci := 4) (v := .ref lself) (C := RX4) (T := TX4) (N := 7) hx hb hts hnX4 hown hK.1 hP 0 rfl rfl 0 (Nat.le_of_ble_eq_true rfl) hk44 (fun _ h9 => h9) rfl dX4_shift_62 ?_
      obtain ⟨r19, hc19, h⟩ := am_bind_s h
      refine kc_Vi (pc := 65) (ci := 1) ⟨hx, hb, hml, hown, hts⟩ hP hK [] (c_X1_many l D cI cJ lself lplself lpla lpaself lpaa logself loga ldrself ldra lspself lspa lscself lsca lmany u5 f16 f17 f6 f7 f8 lscf r19 hc19) [1, 2, 3, 4, 5, 6, 7, 8, 9, 10, 11, 12, 13] rfl (cwV 0 hts (gzV wl147 wl148 wl149 wl43 wl150) rfl rfl rfl ⟨rfl, hdX1_many⟩ ⟨Nat.le_of_ble_eq_true rfl, Nat.le_of_ble_eq_true rfl⟩) rfl rfl [.int x14] rfl hl.1 rfl (Nat.le_of_ble_eq_true rfl) dX4_shift_65 ⟨Nat.zero_le _, Nat.zero_le _⟩ ?_
      refine lv_icmp_ge (pc := 68) (tgt := 131) hx hb dX4_shift_68 (by decide) (fun cc => ?_) (fun cc => ?_)
      · replace h := am_t cc h
        exact hK12 _ _ _ h ls (lv_sub hl [0] rfl) H locs hP hD hS
      replace h := am_f cc h
      refine lv_aload_n (pc := 71) hx hb dX4_shift_71 rfl (lv_at hl 0 rfl) ?_
      refine lv_aload_n (pc := 72) hx hb dX4_shift_72 rfl (lv_at hl 0 rfl) ?_
      refine va_get (pc := 73) (D := D) (ci := 4) (v := .int u15) (C := RX4) (T := TX4) (N := 7) hx hb hts hnX4 hown hK.1 hP 0 rfl rfl 4 (Nat.le_of_ble_eq_true rfl) hk91 (fun _ h9 => h9) rfl dX4_shift_73 ?_
      obtain ⟨r20, hc20, h⟩ := am_bind_s h
      refine kc_Ni (pc := 76) ⟨hx, hb, hml, hown, hts⟩ hP hK [.int u15] (c_X6_noiseBehind l D cI cJ u15 r20 hc20) [] rfl ⟨va_cnB 1 hts (gzN wl360) rfl rfl rfl hK.2.2.2.2.1 hk2 hdX6_noiseBehind ⟨Nat.le_of_ble_eq_true rfl, Nat.le_of_ble_eq_true rfl⟩, hk359, trivial⟩ [.ref self] rfl hl.1 rfl (Nat.le_of_ble_eq_true rfl) dX4_shift_76 ⟨Nat.zero_le _, Nat.zero_le _⟩ ?_
      refine va_put (pc := 79) (D := D) (ci := 4) (v := .int r20) (ty := .int) (C := RX4) (T := TX4) (N := 7) hx hb hts hnX4 tyX4 tyX4_ok nmX4 hown hK.1 hP hD hS 0 rfl rfl 4 (Nat.le_of_ble_eq_true rfl) hk91 (fun _ h9 => h9) rfl (by decide +kernel) rfl rfl (Nat.le_of_ble_eq_true rfl) dX4_shift_79 (fun H locs hP hD hS => ?_)
      replace hP : va_P D vwCl [(self, .inr (4, [.ref lself, .ref wself, .ref sself, .ref ch, .int r20, .int obs, .int res])), (lself, .inr (1, [.ref lplself, .ref lpaself, .ref logself, .ref ldrself, .ref lspself, .ref lscself, .int lmany, .int u5])), (lplself, .inr (2, [.ref lpla])), (lpla, .inl (cI, 240, .inl f16)), (lpaself, .inr (2, [.ref lpaa])), (lpaa, .inl (cI, 240, .inl f17)), (logself, .inr (2, [.ref loga])), (loga, .inl (cI, 20, .inl f6)), (ldrself, .inr (2, [.ref ldra])), (ldra, .inl (cI, 20, .inl f7)), (lspself, .inr (2, [.ref lspa])), (lspa, .inl (cI, 20, .inl f8)), (lscself, .inr (2, [.ref lsca])), (lsca, .inl (cI, 20, .inl lscf)), (wself, .inr (5, [.ref wa, .int wmany])), (wa, .inl (cI, 12, .inl wf)), (sself, .inr (2, [.ref sa])), (sa, .inl (cI, 3, .inl sf))] H := hP
      replace hD : va_D A [(self, .inr (4, [.ref lself, .ref wself, .ref sself, .ref ch, .int r20, .int obs, .int res])), (lself, .inr (1, [.ref lplself, .ref lpaself, .ref logself, .ref ldrself, .ref lspself, .ref lscself, .int lmany, .int u5])), (lplself, .inr (2, [.ref lpla])), (lpla, .inl (cI, 240, .inl f16)), (lpaself, .inr (2, [.ref lpaa])), (lpaa, .inl (cI, 240, .inl f17)), (logself, .inr (2, [.ref loga])), (loga, .inl (cI, 20, .inl f6)), (ldrself, .inr (2, [.ref ldra])), (ldra, .inl (cI, 20, .inl f7)), (lspself, .inr (2, [.ref lspa])), (lspa, .inl (cI, 20, .inl f8)), (lscself, .inr (2, [.ref lsca])), (lsca, .inl (cI, 20, .inl lscf)), (wself, .inr (5, [.ref wa, .int wmany])), (wa, .inl (cI, 12, .inl wf)), (sself, .inr (2, [.ref sa])), (sa, .inl (cI, 3, .inl sf))] := hD
      refine lv_iload_n (pc := 82) hx hb dX4_shift_82 rfl (lv_at hl 1 rfl) ?_
      refine lv_aload_n (pc := 83) hx hb dX4_shift_83 rfl (lv_at hl 0 rfl) ?_
      refine va_get (pc := 84) (D := D) (ci := 4) (v := .int r20) (C := RX4) (T := TX4) (N := 7) hx hb hts hnX4 hown hK.1 hP 0 rfl rfl 4 (Nat.le_of_ble_eq_true rfl) hk91 (fun _ h9 => h9) rfl dX4_shift_84 ?_
      refine lv_iconst (v := 2) (pc := 87) hx hb dX4_shift_87 (by decide) ?_
      refine lv_iload_n (pc := 88) hx hb dX4_shift_88 rfl (lv_at hl 2 rfl) ?_
      refine lv_imul (pc := 89) hx hb dX4_shift_89 ?_
      refine lv_iconst (v := 1) (pc := 90) hx hb dX4_shift_90 (by decide) ?_
      refine lv_iadd (pc := 91) hx hb dX4_shift_91 ?_
      obtain ⟨hz, h⟩ := am_nz_s h
      refine lv_irem (pc := 92) hx hb dX4_shift_92 hz ?_
      refine lv_iadd (pc := 93) hx hb dX4_shift_93 ?_
      refine lv_iload_n (pc := 94) hx hb dX4_shift_94 rfl (lv_at hl 2 rfl) ?_
      refine lv_isub (pc := 95) hx hb dX4_shift_95 ?_
      refine lv_topi (fun x21 ex21 => ?_)
      replace h := am_let_s ex21 h
      refine lv_istore (lv' := [(5, .int x21), (0, .ref self), (1, .int p0), (2, .int p1), (3, .int r4), (4, .int x14)]) (pc := 96) hx hb dX4_shift_96 hl (by decide) rfl (fun ls hl => ?_)
      refine lv_aload_n (pc := 98) hx hb dX4_shift_98 rfl (lv_at hl 1 rfl) ?_
      refine va_get (pc := 99) (D := D) (ci := 4) (v := .ref lself) (C := RX4) (T := TX4) (N := 7) hx hb hts hnX4 hown hK.1 hP 0 rfl rfl 0 (Nat.le_of_ble_eq_true rfl) hk44 (fun _ h9 => h9) rfl dX4_shift_99 ?_
      refine lv_iload (pc := 102) hx hb dX4_shift_102 (lv_at hl 5 rfl) ?_
      refine lv_iload (pc := 104) hx hb dX4_shift_104 (lv_at hl 5 rfl) ?_
      refine lv_aload_n (pc := 106) hx hb dX4_shift_106 rfl (lv_at hl 1 rfl) ?_
      refine va_get (pc := 107) (D := D) (ci := 4) (v := .ref lself) (C := RX4) (T := TX4) (N := 7) hx hb hts hnX4 hown hK.1 hP 0 rfl rfl 0 (Nat.le_of_ble_eq_true rfl) hk44 (fun _ h9 => h9) rfl dX4_shift_107 ?_
      refine lv_iload_n (pc := 110) hx hb dX4_shift_110 rfl (lv_at hl 4 rfl) ?_
      refine lv_iload (pc := 111) hx hb dX4_shift_111 (lv_at hl 5 rfl) ?_
      obtain ⟨r22, hc22, h⟩ := am_bind_s h
      refine kc_Vi (pc := 113) (ci := 1) ⟨hx, hb, hml, hown, hts⟩ hP hK [.int r4, .int x14] (c_X1_placeIn l D cI cJ lself lplself lpla lpaself lpaa logself loga ldrself ldra lspself lspa lscself lsca lmany u5 f16 f17 f6 f7 f8 lscf r4 x14 r22 hc22) [1, 2, 3, 4, 5, 6, 7, 8, 9, 10, 11, 12, 13] rfl (cwV 2 hts (gzV wl163 wl164 wl165 wl43 wl166) rfl rfl rfl ⟨rfl, hdX1_placeIn⟩ ⟨Nat.le_of_ble_eq_true rfl, Nat.le_of_ble_eq_true rfl⟩) rfl rfl [.int x14, .int x14, .ref lself] rfl hl.1 rfl (Nat.le_of_ble_eq_true rfl) dX4_shift_113 ⟨Nat.zero_le _, Nat.zero_le _⟩ ?_
      refine lv_iload (pc := 116) hx hb dX4_shift_116 (lv_at hl 0 rfl) ?_
      refine lv_iadd (pc := 118) hx hb dX4_shift_118 ?_
      obtain ⟨r23, hc23, h⟩ := am_bind_s h
      refine kc_Ni (pc := 119) ⟨hx, hb, hml, hown, hts⟩ hP hK [.int (r22 + x21)] (c_X6_nearestPlace l D cI cJ (r22 + x21) r23 hc23) [] rfl ⟨va_cnB 1 hts (gzN wl100) rfl rfl rfl hK.2.2.2.2.2.1 hk2 hdX6_nearestPlace ⟨Nat.le_of_ble_eq_true rfl, Nat.le_of_ble_eq_true rfl⟩, hk99, trivial⟩ [.int x14, .int x14, .ref lself] rfl hl.1 rfl (Nat.le_of_ble_eq_true rfl) dX4_shift_119 ⟨Nat.zero_le _, Nat.zero_le _⟩ ?_
      obtain ⟨f24, f25, hc25, h⟩ := am_call2_s h
      refine kc_Wv (pc := 122) (ci := 1) ⟨hx, hb, hml, hown, hts⟩ hP hK hD hS hA [.int x14, .int x14, .int r23] (c_X1_putParticle l D cI cJ lself lplself lpla lpaself lpaa logself loga ldrself ldra lspself lspa lscself lsca lmany u5 f16 f17 f6 f7 f8 lscf x14 x14 r23 f24 f25 hc25 _) [1, 2, 3, 4, 5, 6, 7, 8, 9, 10, 11, 12, 13] rfl rfl rfl (cwV 3 hts (gzV wl362 wl363 wl364 wl43 wl365) rfl rfl rfl ⟨rfl, hdX1_putParticle⟩ ⟨Nat.le_of_ble_eq_true rfl, Nat.le_of_ble_eq_true rfl⟩) rfl rfl [] rfl hl.1 rfl (Nat.le_of_ble_eq_true rfl) dX4_shift_122 ⟨Nat.zero_le _, Nat.zero_le _⟩ (fun H locs hP hD hS => ?_)
      replace hP : va_P D vwCl [(self, .inr (4, [.ref lself, .ref wself, .ref sself, .ref ch, .int r20, .int obs, .int res])), (lself, .inr (1, [.ref lplself, .ref lpaself, .ref logself, .ref ldrself, .ref lspself, .ref lscself, .int lmany, .int u5])), (lplself, .inr (2, [.ref lpla])), (lpla, .inl (cI, 240, .inl f24)), (lpaself, .inr (2, [.ref lpaa])), (lpaa, .inl (cI, 240, .inl f25)), (logself, .inr (2, [.ref loga])), (loga, .inl (cI, 20, .inl f6)), (ldrself, .inr (2, [.ref ldra])), (ldra, .inl (cI, 20, .inl f7)), (lspself, .inr (2, [.ref lspa])), (lspa, .inl (cI, 20, .inl f8)), (lscself, .inr (2, [.ref lsca])), (lsca, .inl (cI, 20, .inl lscf)), (wself, .inr (5, [.ref wa, .int wmany])), (wa, .inl (cI, 12, .inl wf)), (sself, .inr (2, [.ref sa])), (sa, .inl (cI, 3, .inl sf))] H := hP
      replace hD : va_D A [(self, .inr (4, [.ref lself, .ref wself, .ref sself, .ref ch, .int r20, .int obs, .int res])), (lself, .inr (1, [.ref lplself, .ref lpaself, .ref logself, .ref ldrself, .ref lspself, .ref lscself, .int lmany, .int u5])), (lplself, .inr (2, [.ref lpla])), (lpla, .inl (cI, 240, .inl f24)), (lpaself, .inr (2, [.ref lpaa])), (lpaa, .inl (cI, 240, .inl f25)), (logself, .inr (2, [.ref loga])), (loga, .inl (cI, 20, .inl f6)), (ldrself, .inr (2, [.ref ldra])), (ldra, .inl (cI, 20, .inl f7)), (lspself, .inr (2, [.ref lspa])), (lspa, .inl (cI, 20, .inl f8)), (lscself, .inr (2, [.ref lsca])), (lsca, .inl (cI, 20, .inl lscf)), (wself, .inr (5, [.ref wa, .int wmany])), (wa, .inl (cI, 12, .inl wf)), (sself, .inr (2, [.ref sa])), (sa, .inl (cI, 3, .inl sf))] := hD
      obtain ⟨x26, ex26⟩ : ∃ y : Int32, y = (x14 + (1 : Int32)) := ⟨_, rfl⟩
      replace h := am_let_s ex26 h
      refine lv_iinc (pc := 125) (v := x26) (lv' := [(4, .int x26), (5, .int x21), (0, .ref self), (1, .int p0), (2, .int p1), (3, .int r4)]) hx hb dX4_shift_125 hl (k := 5) rfl (by rw [ex26]; rfl) (by decide) rfl (fun ls hl => ?_)
      refine lv_goto (pc := 128) (tgt := 59) hx hb dX4_shift_128 (by decide) ?_
      exact ihrec18 _ _ _ _ h ls (lv_sub hl [2, 3, 4, 5, 0] rfl) H locs hP hD hS
    replace h := am_f cc h
    refine lv_ldc (pc := 36) hx hb hown hk354 dX4_shift_36 ?_
    obtain ⟨e1, e2, e3, e4, e5, e6, e7, e8⟩ := am_ret8 h
    exact hret _ _ _ _ _ dX4_shift_38 rfl e1 (by rw [← e2, ← e3, ← e4, ← e5, ← e6, ← e7, ← e8]; exact hP) hS
  replace h := am_t cc h
  refine lv_ldc (pc := 21) hx hb hown hk211 dX4_shift_21 ?_
  obtain ⟨e1, e2, e3, e4, e5, e6, e7, e8⟩ := am_ret8 h
  exact hret _ _ _ _ _ dX4_shift_23 rfl e1 (by rw [← e2, ← e3, ← e4, ← e5, ← e6, ← e7, ← e8]; exact hP) hS
theorem hdX4_renew : yX4_renew.cls ≠ "java/lang/invoke/MethodHandle" ∧ yX4_renew.cls ≠ "java/lang/invoke/VarHandle" ∧ (parseMethodDescriptor yX4_renew.desc).map (fun d => d.parameters.length) = some 0 := by decide +kernel
abbrev rmX4_renew : Room := { frames := 3, cells := 0, slots := 0, locals := 83 }
set_option maxHeartbeats 20000000 in
set_option maxRecDepth 100000 in
theorem c_X4_renew (l : Launch) (D : va_G) (cI cJ : ClassId) (self : Nat) (lself : Nat) (lplself : Nat) (lpla : Nat) (lpaself : Nat) (lpaa : Nat) (logself : Nat) (loga : Nat) (ldrself : Nat) (ldra : Nat) (lspself : Nat) (lspa : Nat) (lscself : Nat) (lsca : Nat) (wself : Nat) (wa : Nat) (sself : Nat) (sa : Nat) (cself : Nat) (ca : Nat) (cb : Nat) (noi : Int32) (obs : Int32) (res : Int32) (lmany : Int32) (lgens : Int32) (lplf : Nat → Int32) (lpaf : Nat → Int32) (logf : Nat → Int32) (ldrf : Nat → Int32) (lspf : Nat → Int32) (lscf : Nat → Int32) (wmany : Int32) (wf : Nat → Int32) (sf : Nat → Int32) (cnoi : Int32) (canc : Nat → Int32) (crst : Nat → Int64)  (r0 : Int32) (znoi : Int32) (zres : Int32) (zlgens : Int32) (zlplf : Nat → Int32) (zlpaf : Nat → Int32) (zlogf : Nat → Int32) (zlscf : Nat → Int32) (zwmany : Int32) (zwf : Nat → Int32) (zcnoi : Int32) (zcanc : Nat → Int32) (zcrst : Nat → Int64) (hF : F_X4_renew noi res lmany lgens lplf lpaf logf lscf wmany wf sf cnoi canc crst = some (r0, znoi, zres, zlgens, zlplf, zlpaf, zlogf, zlscf, zwmany, zwf, zcnoi, zcanc, zcrst)) (sz : Nat) : Met l yX4_renew (wz yX4_renew cX4_renew 5 (some .int)) rmX4_renew (kPw D cI cJ [(self, .inr (4, [.ref lself, .ref wself, .ref sself, .ref cself, .int noi, .int obs, .int res])), (lself, .inr (1, [.ref lplself, .ref lpaself, .ref logself, .ref ldrself, .ref lspself, .ref lscself, .int lmany, .int lgens])), (lplself, .inr (2, [.ref lpla])), (lpla, .inl (cI, 240, .inl lplf)), (lpaself, .inr (2, [.ref lpaa])), (lpaa, .inl (cI, 240, .inl lpaf)), (logself, .inr (2, [.ref loga])), (loga, .inl (cI, 20, .inl logf)), (ldrself, .inr (2, [.ref ldra])), (ldra, .inl (cI, 20, .inl ldrf)), (lspself, .inr (2, [.ref lspa])), (lspa, .inl (cI, 20, .inl lspf)), (lscself, .inr (2, [.ref lsca])), (lsca, .inl (cI, 20, .inl lscf)), (wself, .inr (5, [.ref wa, .int wmany])), (wa, .inl (cI, 12, .inl wf)), (sself, .inr (2, [.ref sa])), (sa, .inl (cI, 3, .inl sf)), (cself, .inr (0, [.ref ca, .ref cb, .int cnoi])), (ca, .inl (cI, 12, .inl canc)), (cb, .inl (cJ, 12, .inr (.inl crst)))] sz [.ref self]) (kQi D r0 [(self, .inr (4, [.ref lself, .ref wself, .ref sself, .ref cself, .int znoi, .int obs, .int zres])), (lself, .inr (1, [.ref lplself, .ref lpaself, .ref logself, .ref ldrself, .ref lspself, .ref lscself, .int lmany, .int zlgens])), (lplself, .inr (2, [.ref lpla])), (lpla, .inl (cI, 240, .inl zlplf)), (lpaself, .inr (2, [.ref lpaa])), (lpaa, .inl (cI, 240, .inl zlpaf)), (logself, .inr (2, [.ref loga])), (loga, .inl (cI, 20, .inl zlogf)), (ldrself, .inr (2, [.ref ldra])), (ldra, .inl (cI, 20, .inl ldrf)), (lspself, .inr (2, [.ref lspa])), (lspa, .inl (cI, 20, .inl lspf)), (lscself, .inr (2, [.ref lsca])), (lsca, .inl (cI, 20, .inl zlscf)), (wself, .inr (5, [.ref wa, .int zwmany])), (wa, .inl (cI, 12, .inl zwf)), (sself, .inr (2, [.ref sa])), (sa, .inl (cI, 3, .inl sf)), (cself, .inr (0, [.ref ca, .ref cb, .int zcnoi])), (ca, .inl (cI, 12, .inl zcanc)), (cb, .inl (cJ, 12, .inr (.inl zcrst)))] (va_A [(self, .inr (4, [.ref lself, .ref wself, .ref sself, .ref cself, .int noi, .int obs, .int res])), (lself, .inr (1, [.ref lplself, .ref lpaself, .ref logself, .ref ldrself, .ref lspself, .ref lscself, .int lmany, .int lgens])), (lplself, .inr (2, [.ref lpla])), (lpla, .inl (cI, 240, .inl lplf)), (lpaself, .inr (2, [.ref lpaa])), (lpaa, .inl (cI, 240, .inl lpaf)), (logself, .inr (2, [.ref loga])), (loga, .inl (cI, 20, .inl logf)), (ldrself, .inr (2, [.ref ldra])), (ldra, .inl (cI, 20, .inl ldrf)), (lspself, .inr (2, [.ref lspa])), (lspa, .inl (cI, 20, .inl lspf)), (lscself, .inr (2, [.ref lsca])), (lsca, .inl (cI, 20, .inl lscf)), (wself, .inr (5, [.ref wa, .int wmany])), (wa, .inl (cI, 12, .inl wf)), (sself, .inr (2, [.ref sa])), (sa, .inl (cI, 3, .inl sf)), (cself, .inr (0, [.ref ca, .ref cb, .int cnoi])), (ca, .inl (cI, 12, .inl canc)), (cb, .inl (cJ, 12, .inr (.inl crst)))] sz)) 0 0 (va_A [(self, .inr (4, [.ref lself, .ref wself, .ref sself, .ref cself, .int noi, .int obs, .int res])), (lself, .inr (1, [.ref lplself, .ref lpaself, .ref logself, .ref ldrself, .ref lspself, .ref lscself, .int lmany, .int lgens])), (lplself, .inr (2, [.ref lpla])), (lpla, .inl (cI, 240, .inl lplf)), (lpaself, .inr (2, [.ref lpaa])), (lpaa, .inl (cI, 240, .inl lpaf)), (logself, .inr (2, [.ref loga])), (loga, .inl (cI, 20, .inl logf)), (ldrself, .inr (2, [.ref ldra])), (ldra, .inl (cI, 20, .inl ldrf)), (lspself, .inr (2, [.ref lspa])), (lspa, .inl (cI, 20, .inl lspf)), (lscself, .inr (2, [.ref lsca])), (lsca, .inl (cI, 20, .inl lscf)), (wself, .inr (5, [.ref wa, .int wmany])), (wa, .inl (cI, 12, .inl wf)), (sself, .inr (2, [.ref sa])), (sa, .inl (cI, 3, .inl sf)), (cself, .inr (0, [.ref ca, .ref cb, .int cnoi])), (ca, .inl (cI, 12, .inl canc)), (cb, .inl (cJ, 12, .inr (.inl crst)))] sz) := by
  refine kM_wi cX4_renew 5 .int (by decide +kernel) rfl rfl (Nat.le_of_ble_eq_true rfl) ⟨rfl, rfl⟩ ?_
  intro p e s m args below meth c Q A ls hx hb hml hown hts hP hK hD hA hS hl hret
  have hk354 := hts _ (List.mem_cons_of_mem _ wl354)
  have hk44 := hts _ (List.mem_cons_of_mem _ wl44)
  have hk48 := hts _ (List.mem_cons_of_mem _ wl48)
  have hk52 := hts _ (List.mem_cons_of_mem _ wl52)
  have hk53 := hts _ (List.mem_cons_of_mem _ wl53)
  have hk91 := hts _ (List.mem_cons_of_mem _ wl91)
  have hk93 := hts _ (List.mem_cons_of_mem _ wl93)
  have hnX4 : ∀ w ∈ u_ws RX4 TX4 7, w ∈ wz yX4_renew cX4_renew 5 (some .int) := fun w h => List.mem_cons_of_mem _ (inlX4 w h)
  replace hl : lv_has ls 5 [(0, .ref self)] := hl
  have h := hF
  unfold F_X4_renew at h
  refine lv_aload_n (pc := 0) hx hb dX4_renew_0 rfl (lv_at hl 0 rfl) ?_
  refine va_get (pc := 1) (D := D) (ci := 4) (v := .ref lself) (C := RX4) (T := TX4) (N := 7) hx hb hts hnX4 hown hK.1 hP 0 rfl rfl 0 (Nat.le_of_ble_eq_true rfl) hk44 (fun _ h9 => h9) rfl dX4_renew_1 ?_
  obtain ⟨r1, hc1, h⟩ := am_bind_s h
  refine kc_Vi (pc := 4) (ci := 1) ⟨hx, hb, hml, hown, hts⟩ hP hK [] (c_X1_generations l D cI cJ lself lplself lpla lpaself lpaa logself loga ldrself ldra lspself lspa lscself lsca lmany lgens lplf lpaf logf ldrf lspf lscf r1 hc1) [1, 2, 3, 4, 5, 6, 7, 8, 9, 10, 11, 12, 13] rfl (cwV 0 hts (gzV wl212 wl213 wl214 wl43 wl215) rfl rfl rfl ⟨rfl, hdX1_generations⟩ ⟨Nat.le_of_ble_eq_true rfl, Nat.le_of_ble_eq_true rfl⟩) rfl rfl [] rfl hl.1 rfl (Nat.le_of_ble_eq_true rfl) dX4_renew_4 ⟨Nat.zero_le _, Nat.zero_le _⟩ ?_
  refine lv_bipush (v := 20) (pc := 7) hx hb dX4_renew_7 (by decide) ?_
  refine lv_icmp_lt (pc := 9) (tgt := 15) hx hb dX4_renew_9 (by decide) (fun cc => ?_) (fun cc => ?_)
  · replace h := am_t cc h
    refine lv_aload_n (pc := 15) hx hb dX4_renew_15 rfl (lv_at hl 0 rfl) ?_
    refine va_get (pc := 16) (D := D) (ci := 4) (v := .ref sself) (C := RX4) (T := TX4) (N := 7) hx hb hts hnX4 hown hK.1 hP 0 rfl rfl 2 (Nat.le_of_ble_eq_true rfl) hk52 (fun _ h9 => h9) rfl dX4_renew_16 ?_
    refine lv_iconst (v := 1) (pc := 19) hx hb dX4_renew_19 (by decide) ?_
    obtain ⟨r2, hc2, h⟩ := am_bind_s h
    refine kc_Vi (pc := 20) (ci := 2) ⟨hx, hb, hml, hown, hts⟩ hP hK [.int (1 : Int32)] (c_X2_at l D cI cJ sself sa 3 sf (1 : Int32) r2 hc2) [16, 17] rfl (cwV 1 hts (gzV wl232 wl168 wl169 wl51 wl170) rfl rfl rfl ⟨rfl, hdX2_at⟩ ⟨Nat.le_of_ble_eq_true rfl, Nat.le_of_ble_eq_true rfl⟩) rfl rfl [] rfl hl.1 rfl (Nat.le_of_ble_eq_true rfl) dX4_renew_20 ⟨Nat.zero_le _, Nat.zero_le _⟩ ?_
    refine lv_istore_n (lv' := [(1, .int r2), (0, .ref self)]) (pc := 23) hx hb dX4_renew_23 rfl hl (by decide) rfl (fun ls hl => ?_)
    refine lv_aload_n (pc := 24) hx hb dX4_renew_24 rfl (lv_at hl 1 rfl) ?_
    refine va_get (pc := 25) (D := D) (ci := 4) (v := .ref cself) (C := RX4) (T := TX4) (N := 7) hx hb hts hnX4 hown hK.1 hP 0 rfl rfl 3 (Nat.le_of_ble_eq_true rfl) hk53 (fun _ h9 => h9) rfl dX4_renew_25 ?_
    refine lv_iload_n (pc := 28) hx hb dX4_renew_28 rfl (lv_at hl 0 rfl) ?_
    refine lv_aload_n (pc := 29) hx hb dX4_renew_29 rfl (lv_at hl 1 rfl) ?_
    refine va_get (pc := 30) (D := D) (ci := 4) (v := .ref wself) (C := RX4) (T := TX4) (N := 7) hx hb hts hnX4 hown hK.1 hP 0 rfl rfl 1 (Nat.le_of_ble_eq_true rfl) hk48 (fun _ h9 => h9) rfl dX4_renew_30 ?_
    refine lv_aload_n (pc := 33) hx hb dX4_renew_33 rfl (lv_at hl 1 rfl) ?_
    refine va_get (pc := 34) (D := D) (ci := 4) (v := .ref sself) (C := RX4) (T := TX4) (N := 7) hx hb hts hnX4 hown hK.1 hP 0 rfl rfl 2 (Nat.le_of_ble_eq_true rfl) hk52 (fun _ h9 => h9) rfl dX4_renew_34 ?_
    refine lv_iconst (v := 2) (pc := 37) hx hb dX4_renew_37 (by decide) ?_
    obtain ⟨r3, hc3, h⟩ := am_bind_s h
    refine kc_Vi (pc := 38) (ci := 2) ⟨hx, hb, hml, hown, hts⟩ hP hK [.int (2 : Int32)] (c_X2_at l D cI cJ sself sa 3 sf (2 : Int32) r3 hc3) [16, 17] rfl (cwV 1 hts (gzV wl232 wl168 wl169 wl51 wl170) rfl rfl rfl ⟨rfl, hdX2_at⟩ ⟨Nat.le_of_ble_eq_true rfl, Nat.le_of_ble_eq_true rfl⟩) rfl rfl [.ref wself, .int r2, .ref cself] rfl hl.1 rfl (Nat.le_of_ble_eq_true rfl) dX4_renew_38 ⟨Nat.zero_le _, Nat.zero_le _⟩ ?_
    refine lv_aload_n (pc := 41) hx hb dX4_renew_41 rfl (lv_at hl 1 rfl) ?_
    refine va_get (pc := 42) (D := D) (ci := 4) (v := .int noi) (C := RX4) (T := TX4) (N := 7) hx hb hts hnX4 hown hK.1 hP 0 rfl rfl 4 (Nat.le_of_ble_eq_true rfl) hk91 (fun _ h9 => h9) rfl dX4_renew_42 ?_
    obtain ⟨u4, f5, f6, hc6, h⟩ := am_call3_s h
    refine kc_Wv (pc := 45) (ci := 0) ⟨hx, hb, hml, hown, hts⟩ hP hK hD hS hA [.int r2, .ref wself, .int r3, .int noi] (c_X0_choose l D cI cJ cself ca cb wself wa cnoi canc crst wmany wf r2 r3 noi u4 f5 f6 hc6 _) [18, 19, 20, 14, 15] rfl rfl rfl (cwV 4 hts (gzV wl390 wl391 wl392 wl15 wl393) rfl rfl rfl ⟨rfl, hdX0_choose⟩ ⟨Nat.le_of_ble_eq_true rfl, Nat.le_of_ble_eq_true rfl⟩) rfl rfl [] rfl hl.1 rfl (Nat.le_of_ble_eq_true rfl) dX4_renew_45 ⟨Nat.zero_le _, Nat.zero_le _⟩ (fun H locs hP hD hS => ?_)
    replace hP : va_P D vwCl [(self, .inr (4, [.ref lself, .ref wself, .ref sself, .ref cself, .int noi, .int obs, .int res])), (lself, .inr (1, [.ref lplself, .ref lpaself, .ref logself, .ref ldrself, .ref lspself, .ref lscself, .int lmany, .int lgens])), (lplself, .inr (2, [.ref lpla])), (lpla, .inl (cI, 240, .inl lplf)), (lpaself, .inr (2, [.ref lpaa])), (lpaa, .inl (cI, 240, .inl lpaf)), (logself, .inr (2, [.ref loga])), (loga, .inl (cI, 20, .inl logf)), (ldrself, .inr (2, [.ref ldra])), (ldra, .inl (cI, 20, .inl ldrf)), (lspself, .inr (2, [.ref lspa])), (lspa, .inl (cI, 20, .inl lspf)), (lscself, .inr (2, [.ref lsca])), (lsca, .inl (cI, 20, .inl lscf)), (wself, .inr (5, [.ref wa, .int wmany])), (wa, .inl (cI, 12, .inl wf)), (sself, .inr (2, [.ref sa])), (sa, .inl (cI, 3, .inl sf)), (cself, .inr (0, [.ref ca, .ref cb, .int u4])), (ca, .inl (cI, 12, .inl f5)), (cb, .inl (cJ, 12, .inr (.inl f6)))] H := hP
    replace hD : va_D A [(self, .inr (4, [.ref lself, .ref wself, .ref sself, .ref cself, .int noi, .int obs, .int res])), (lself, .inr (1, [.ref lplself, .ref lpaself, .ref logself, .ref ldrself, .ref lspself, .ref lscself, .int lmany, .int lgens])), (lplself, .inr (2, [.ref lpla])), (lpla, .inl (cI, 240, .inl lplf)), (lpaself, .inr (2, [.ref lpaa])), (lpaa, .inl (cI, 240, .inl lpaf)), (logself, .inr (2, [.ref loga])), (loga, .inl (cI, 20, .inl logf)), (ldrself, .inr (2, [.ref ldra])), (ldra, .inl (cI, 20, .inl ldrf)), (lspself, .inr (2, [.ref lspa])), (lspa, .inl (cI, 20, .inl lspf)), (lscself, .inr (2, [.ref lsca])), (lsca, .inl (cI, 20, .inl lscf)), (wself, .inr (5, [.ref wa, .int wmany])), (wa, .inl (cI, 12, .inl wf)), (sself, .inr (2, [.ref sa])), (sa, .inl (cI, 3, .inl sf)), (cself, .inr (0, [.ref ca, .ref cb, .int u4])), (ca, .inl (cI, 12, .inl f5)), (cb, .inl (cJ, 12, .inr (.inl f6)))] := hD
    refine lv_aload_n (pc := 48) hx hb dX4_renew_48 rfl (lv_at hl 1 rfl) ?_
    refine va_get (pc := 49) (D := D) (ci := 4) (v := .ref lself) (C := RX4) (T := TX4) (N := 7) hx hb hts hnX4 hown hK.1 hP 0 rfl rfl 0 (Nat.le_of_ble_eq_true rfl) hk44 (fun _ h9 => h9) rfl dX4_renew_49 ?_
    obtain ⟨r7, hc7, h⟩ := am_bind_s h
    refine kc_Vi (pc := 52) (ci := 1) ⟨hx, hb, hml, hown, hts⟩ hP hK [] (c_X1_latest l D cI cJ lself lplself lpla lpaself lpaa logself loga ldrself ldra lspself lspa lscself lsca lmany lgens lplf lpaf logf ldrf lspf lscf r7 hc7) [1, 2, 3, 4, 5, 6, 7, 8, 9, 10, 11, 12, 13] rfl (cwV 0 hts (gzV wl159 wl160 wl161 wl43 wl162) rfl rfl rfl ⟨rfl, hdX1_latest⟩ ⟨Nat.le_of_ble_eq_true rfl, Nat.le_of_ble_eq_true rfl⟩) rfl rfl [] rfl hl.1 rfl (Nat.le_of_ble_eq_true rfl) dX4_renew_52 ⟨Nat.zero_le _, Nat.zero_le _⟩ ?_
    refine lv_istore_n (lv' := [(2, .int r7), (1, .int r2), (0, .ref self)]) (pc := 55) hx hb dX4_renew_55 rfl hl (by decide) rfl (fun ls hl => ?_)
    refine lv_aload_n (pc := 56) hx hb dX4_renew_56 rfl (lv_at hl 2 rfl) ?_
    refine va_get (pc := 57) (D := D) (ci := 4) (v := .ref lself) (C := RX4) (T := TX4) (N := 7) hx hb hts hnX4 hown hK.1 hP 0 rfl rfl 0 (Nat.le_of_ble_eq_true rfl) hk44 (fun _ h9 => h9) rfl dX4_renew_57 ?_
    refine lv_iload_n (pc := 60) hx hb dX4_renew_60 rfl (lv_at hl 1 rfl) ?_
    obtain ⟨u8, f9, f10, hc10, h⟩ := am_call3_s h
    refine kc_Wv (pc := 61) (ci := 1) ⟨hx, hb, hml, hown, hts⟩ hP hK hD hS hA [.int r2] (c_X1_addResampled l D cI cJ lself lplself lpla lpaself lpaa logself loga ldrself ldra lspself lspa lscself lsca lmany lgens lplf lpaf logf ldrf lspf lscf r2 u8 f9 f10 hc10 _) [1, 2, 3, 4, 5, 6, 7, 8, 9, 10, 11, 12, 13] rfl rfl rfl (cwV 1 hts (gzV wl417 wl418 wl419 wl43 wl420) rfl rfl rfl ⟨rfl, hdX1_addResampled⟩ ⟨Nat.le_of_ble_eq_true rfl, Nat.le_of_ble_eq_true rfl⟩) rfl rfl [] rfl hl.1 rfl (Nat.le_of_ble_eq_true rfl) dX4_renew_61 ⟨Nat.zero_le _, Nat.zero_le _⟩ (fun H locs hP hD hS => ?_)
    replace hP : va_P D vwCl [(self, .inr (4, [.ref lself, .ref wself, .ref sself, .ref cself, .int noi, .int obs, .int res])), (lself, .inr (1, [.ref lplself, .ref lpaself, .ref logself, .ref ldrself, .ref lspself, .ref lscself, .int lmany, .int u8])), (lplself, .inr (2, [.ref lpla])), (lpla, .inl (cI, 240, .inl lplf)), (lpaself, .inr (2, [.ref lpaa])), (lpaa, .inl (cI, 240, .inl lpaf)), (logself, .inr (2, [.ref loga])), (loga, .inl (cI, 20, .inl f9)), (ldrself, .inr (2, [.ref ldra])), (ldra, .inl (cI, 20, .inl ldrf)), (lspself, .inr (2, [.ref lspa])), (lspa, .inl (cI, 20, .inl lspf)), (lscself, .inr (2, [.ref lsca])), (lsca, .inl (cI, 20, .inl f10)), (wself, .inr (5, [.ref wa, .int wmany])), (wa, .inl (cI, 12, .inl wf)), (sself, .inr (2, [.ref sa])), (sa, .inl (cI, 3, .inl sf)), (cself, .inr (0, [.ref ca, .ref cb, .int u4])), (ca, .inl (cI, 12, .inl f5)), (cb, .inl (cJ, 12, .inr (.inl f6)))] H := hP
    replace hD : va_D A [(self, .inr (4, [.ref lself, .ref wself, .ref sself, .ref cself, .int noi, .int obs, .int res])), (lself, .inr (1, [.ref lplself, .ref lpaself, .ref logself, .ref ldrself, .ref lspself, .ref lscself, .int lmany, .int u8])), (lplself, .inr (2, [.ref lpla])), (lpla, .inl (cI, 240, .inl lplf)), (lpaself, .inr (2, [.ref lpaa])), (lpaa, .inl (cI, 240, .inl lpaf)), (logself, .inr (2, [.ref loga])), (loga, .inl (cI, 20, .inl f9)), (ldrself, .inr (2, [.ref ldra])), (ldra, .inl (cI, 20, .inl ldrf)), (lspself, .inr (2, [.ref lspa])), (lspa, .inl (cI, 20, .inl lspf)), (lscself, .inr (2, [.ref lsca])), (lsca, .inl (cI, 20, .inl f10)), (wself, .inr (5, [.ref wa, .int wmany])), (wa, .inl (cI, 12, .inl wf)), (sself, .inr (2, [.ref sa])), (sa, .inl (cI, 3, .inl sf)), (cself, .inr (0, [.ref ca, .ref cb, .int u4])), (ca, .inl (cI, 12, .inl f5)), (cb, .inl (cJ, 12, .inr (.inl f6)))] := hD
    refine lv_iconst (v := 0) (pc := 64) hx hb dX4_renew_64 (by decide) ?_
    refine lv_istore_n (lv' := [(3, .int (0 : Int32)), (2, .int r7), (1, .int r2), (0, .ref self)]) (pc := 65) hx hb dX4_renew_65 rfl hl (by decide) rfl (fun ls hl => ?_)
    refine am_join2_s (fun (f11 : Nat → Int32) (f12 : Nat → Int32) => ∀ (ls : Array Slot), lv_has ls 5 [(0, .ref self), (2, .int r7)] → ∀ (H : Heap) (locs : List Loc), va_P D vwCl [(self, .inr (4, [.ref lself, .ref wself, .ref sself, .ref cself, .int noi, .int obs, .int res])), (lself, .inr (1, [.ref lplself, .ref lpaself, .ref logself, .ref ldrself, .ref lspself, .ref lscself, .int lmany, .int u8])), (lplself, .inr (2, [.ref lpla])), (lpla, .inl (cI, 240, .inl f11)), (lpaself, .inr (2, [.ref lpaa])), (lpaa, .inl (cI, 240, .inl f12)), (logself, .inr (2, [.ref loga])), (loga, .inl (cI, 20, .inl f9)), (ldrself, .inr (2, [.ref ldra])), (ldra, .inl (cI, 20, .inl ldrf)), (lspself, .inr (2, [.ref lspa])), (lspa, .inl (cI, 20, .inl lspf)), (lscself, .inr (2, [.ref lsca])), (lsca, .inl (cI, 20, .inl f10)), (wself, .inr (5, [.ref wa, .int wmany])), (wa, .inl (cI, 12, .inl wf)), (sself, .inr (2, [.ref sa])), (sa, .inl (cI, 3, .inl sf)), (cself, .inr (0, [.ref ca, .ref cb, .int u4])), (ca, .inl (cI, 12, .inl f5)), (cb, .inl (cJ, 12, .inr (.inl f6)))] H → va_D A [(self, .inr (4, [.ref lself, .ref wself, .ref sself, .ref cself, .int noi, .int obs, .int res])), (lself, .inr (1, [.ref lplself, .ref lpaself, .ref logself, .ref ldrself, .ref lspself, .ref lscself, .int lmany, .int u8])), (lplself, .inr (2, [.ref lpla])), (lpla, .inl (cI, 240, .inl f11)), (lpaself, .inr (2, [.ref lpaa])), (lpaa, .inl (cI, 240, .inl f12)), (logself, .inr (2, [.ref loga])), (loga, .inl (cI, 20, .inl f9)), (ldrself, .inr (2, [.ref ldra])), (ldra, .inl (cI, 20, .inl ldrf)), (lspself, .inr (2, [.ref lspa])), (lspa, .inl (cI, 20, .inl lspf)), (lscself, .inr (2, [.ref lsca])), (lsca, .inl (cI, 20, .inl f10)), (wself, .inr (5, [.ref wa, .int wmany])), (wa, .inl (cI, 12, .inl wf)), (sself, .inr (2, [.ref sa])), (sa, .inl (cI, 3, .inl sf)), (cself, .inr (0, [.ref ca, .ref cb, .int u4])), (ca, .inl (cI, 12, .inl f5)), (cb, .inl (cJ, 12, .inr (.inl f6)))] → va_S A s.heap H locs → W p l e rmX4_renew s m args below meth c H locs 0 0 Q (F0 m 113 ls [])) h (fun f11 f12 h ls hl H locs hP hD hS => ?_) (fun K13 hK13 h => ?_)
    · refine lv_aload_n (pc := 113) hx hb dX4_renew_113 rfl (lv_at hl 0 rfl) ?_
      refine lv_aload_n (pc := 114) hx hb dX4_renew_114 rfl (lv_at hl 0 rfl) ?_
      refine va_get (pc := 115) (D := D) (ci := 4) (v := .ref cself) (C := RX4) (T := TX4) (N := 7) hx hb hts hnX4 hown hK.1 hP 0 rfl rfl 3 (Nat.le_of_ble_eq_true rfl) hk53 (fun _ h9 => h9) rfl dX4_renew_115 ?_
      obtain ⟨r14, hc14, h⟩ := am_bind_s h
      refine kc_Vi (pc := 118) (ci := 0) ⟨hx, hb, hml, hown, hts⟩ hP hK [] (c_X0_noise l D cI cJ cself ca cb u4 f5 f6 r14 hc14) [18, 19, 20] rfl (cwV 0 hts (gzV wl425 wl426 wl427 wl15 wl428) rfl rfl rfl ⟨rfl, hdX0_noise⟩ ⟨Nat.le_of_ble_eq_true rfl, Nat.le_of_ble_eq_true rfl⟩) rfl rfl [.ref self] rfl hl.1 rfl (Nat.le_of_ble_eq_true rfl) dX4_renew_118 ⟨Nat.zero_le _, Nat.zero_le _⟩ ?_
      refine va_put (pc := 121) (D := D) (ci := 4) (v := .int r14) (ty := .int) (C := RX4) (T := TX4) (N := 7) hx hb hts hnX4 tyX4 tyX4_ok nmX4 hown hK.1 hP hD hS 0 rfl rfl 4 (Nat.le_of_ble_eq_true rfl) hk91 (fun _ h9 => h9) rfl (by decide +kernel) rfl rfl (Nat.le_of_ble_eq_true rfl) dX4_renew_121 (fun H locs hP hD hS => ?_)
      replace hP : va_P D vwCl [(self, .inr (4, [.ref lself, .ref wself, .ref sself, .ref cself, .int r14, .int obs, .int res])), (lself, .inr (1, [.ref lplself, .ref lpaself, .ref logself, .ref ldrself, .ref lspself, .ref lscself, .int lmany, .int u8])), (lplself, .inr (2, [.ref lpla])), (lpla, .inl (cI, 240, .inl f11)), (lpaself, .inr (2, [.ref lpaa])), (lpaa, .inl (cI, 240, .inl f12)), (logself, .inr (2, [.ref loga])), (loga, .inl (cI, 20, .inl f9)), (ldrself, .inr (2, [.ref ldra])), (ldra, .inl (cI, 20, .inl ldrf)), (lspself, .inr (2, [.ref lspa])), (lspa, .inl (cI, 20, .inl lspf)), (lscself, .inr (2, [.ref lsca])), (lsca, .inl (cI, 20, .inl f10)), (wself, .inr (5, [.ref wa, .int wmany])), (wa, .inl (cI, 12, .inl wf)), (sself, .inr (2, [.ref sa])), (sa, .inl (cI, 3, .inl sf)), (cself, .inr (0, [.ref ca, .ref cb, .int u4])), (ca, .inl (cI, 12, .inl f5)), (cb, .inl (cJ, 12, .inr (.inl f6)))] H := hP
      replace hD : va_D A [(self, .inr (4, [.ref lself, .ref wself, .ref sself, .ref cself, .int r14, .int obs, .int res])), (lself, .inr (1, [.ref lplself, .ref lpaself, .ref logself, .ref ldrself, .ref lspself, .ref lscself, .int lmany, .int u8])), (lplself, .inr (2, [.ref lpla])), (lpla, .inl (cI, 240, .inl f11)), (lpaself, .inr (2, [.ref lpaa])), (lpaa, .inl (cI, 240, .inl f12)), (logself, .inr (2, [.ref loga])), (loga, .inl (cI, 20, .inl f9)), (ldrself, .inr (2, [.ref ldra])), (ldra, .inl (cI, 20, .inl ldrf)), (lspself, .inr (2, [.ref lspa])), (lspa, .inl (cI, 20, .inl lspf)), (lscself, .inr (2, [.ref lsca])), (lsca, .inl (cI, 20, .inl f10)), (wself, .inr (5, [.ref wa, .int wmany])), (wa, .inl (cI, 12, .inl wf)), (sself, .inr (2, [.ref sa])), (sa, .inl (cI, 3, .inl sf)), (cself, .inr (0, [.ref ca, .ref cb, .int u4])), (ca, .inl (cI, 12, .inl f5)), (cb, .inl (cJ, 12, .inr (.inl f6)))] := hD
      refine lv_aload_n (pc := 124) hx hb dX4_renew_124 rfl (lv_at hl 0 rfl) ?_
      refine va_get (pc := 125) (D := D) (ci := 4) (v := .ref wself) (C := RX4) (T := TX4) (N := 7) hx hb hts hnX4 hown hK.1 hP 0 rfl rfl 1 (Nat.le_of_ble_eq_true rfl) hk48 (fun _ h9 => h9) rfl dX4_renew_125 ?_
      refine lv_aload_n (pc := 128) hx hb dX4_renew_128 rfl (lv_at hl 0 rfl) ?_
      refine va_get (pc := 129) (D := D) (ci := 4) (v := .ref lself) (C := RX4) (T := TX4) (N := 7) hx hb hts hnX4 hown hK.1 hP 0 rfl rfl 0 (Nat.le_of_ble_eq_true rfl) hk44 (fun _ h9 => h9) rfl dX4_renew_129 ?_
      obtain ⟨r15, hc15, h⟩ := am_bind_s h
      refine kc_Vi (pc := 132) (ci := 1) ⟨hx, hb, hml, hown, hts⟩ hP hK [] (c_X1_many l D cI cJ lself lplself lpla lpaself lpaa logself loga ldrself ldra lspself lspa lscself lsca lmany u8 f11 f12 f9 ldrf lspf f10 r15 hc15) [1, 2, 3, 4, 5, 6, 7, 8, 9, 10, 11, 12, 13] rfl (cwV 0 hts (gzV wl147 wl148 wl149 wl43 wl150) rfl rfl rfl ⟨rfl, hdX1_many⟩ ⟨Nat.le_of_ble_eq_true rfl, Nat.le_of_ble_eq_true rfl⟩) rfl rfl [.ref wself] rfl hl.1 rfl (Nat.le_of_ble_eq_true rfl) dX4_renew_132 ⟨Nat.zero_le _, Nat.zero_le _⟩ ?_
      obtain ⟨u16, f17, hc17, h⟩ := am_call2_s h
      refine kc_Wv (pc := 135) (ci := 5) ⟨hx, hb, hml, hown, hts⟩ hP hK hD hS hA [.int r15] (c_X5_makeEqual l D cI cJ wself wa wmany wf r15 u16 f17 hc17 _) [14, 15] rfl rfl rfl (cwV 1 hts (gzV wl105 wl106 wl107 wl47 wl108) rfl rfl rfl ⟨rfl, hdX5_makeEqual⟩ ⟨Nat.le_of_ble_eq_true rfl, Nat.le_of_ble_eq_true rfl⟩) rfl rfl [] rfl hl.1 rfl (Nat.le_of_ble_eq_true rfl) dX4_renew_135 ⟨Nat.zero_le _, Nat.zero_le _⟩ (fun H locs hP hD hS => ?_)
      replace hP : va_P D vwCl [(self, .inr (4, [.ref lself, .ref wself, .ref sself, .ref cself, .int r14, .int obs, .int res])), (lself, .inr (1, [.ref lplself, .ref lpaself, .ref logself, .ref ldrself, .ref lspself, .ref lscself, .int lmany, .int u8])), (lplself, .inr (2, [.ref lpla])), (lpla, .inl (cI, 240, .inl f11)), (lpaself, .inr (2, [.ref lpaa])), (lpaa, .inl (cI, 240, .inl f12)), (logself, .inr (2, [.ref loga])), (loga, .inl (cI, 20, .inl f9)), (ldrself, .inr (2, [.ref ldra])), (ldra, .inl (cI, 20, .inl ldrf)), (lspself, .inr (2, [.ref lspa])), (lspa, .inl (cI, 20, .inl lspf)), (lscself, .inr (2, [.ref lsca])), (lsca, .inl (cI, 20, .inl f10)), (wself, .inr (5, [.ref wa, .int u16])), (wa, .inl (cI, 12, .inl f17)), (sself, .inr (2, [.ref sa])), (sa, .inl (cI, 3, .inl sf)), (cself, .inr (0, [.ref ca, .ref cb, .int u4])), (ca, .inl (cI, 12, .inl f5)), (cb, .inl (cJ, 12, .inr (.inl f6)))] H := hP
      replace hD : va_D A [(self, .inr (4, [.ref lself, .ref wself, .ref sself, .ref cself, .int r14, .int obs, .int res])), (lself, .inr (1, [.ref lplself, .ref lpaself, .ref logself, .ref ldrself, .ref lspself, .ref lscself, .int lmany, .int u8])), (lplself, .inr (2, [.ref lpla])), (lpla, .inl (cI, 240, .inl f11)), (lpaself, .inr (2, [.ref lpaa])), (lpaa, .inl (cI, 240, .inl f12)), (logself, .inr (2, [.ref loga])), (loga, .inl (cI, 20, .inl f9)), (ldrself, .inr (2, [.ref ldra])), (ldra, .inl (cI, 20, .inl ldrf)), (lspself, .inr (2, [.ref lspa])), (lspa, .inl (cI, 20, .inl lspf)), (lscself, .inr (2, [.ref lsca])), (lsca, .inl (cI, 20, .inl f10)), (wself, .inr (5, [.ref wa, .int u16])), (wa, .inl (cI, 12, .inl f17)), (sself, .inr (2, [.ref sa])), (sa, .inl (cI, 3, .inl sf)), (cself, .inr (0, [.ref ca, .ref cb, .int u4])), (ca, .inl (cI, 12, .inl f5)), (cb, .inl (cJ, 12, .inr (.inl f6)))] := hD
      refine lv_aload_n (pc := 138) hx hb dX4_renew_138 rfl (lv_at hl 0 rfl) ?_
      refine lv_dup (pc := 139) hx hb dX4_renew_139 rfl ?_
      refine va_get (pc := 140) (D := D) (ci := 4) (v := .int res) (C := RX4) (T := TX4) (N := 7) hx hb hts hnX4 hown hK.1 hP 0 rfl rfl 6 (Nat.le_of_ble_eq_true rfl) hk93 (fun _ h9 => h9) rfl dX4_renew_140 ?_
      refine lv_iconst (v := 1) (pc := 143) hx hb dX4_renew_143 (by decide) ?_
      refine lv_iadd (pc := 144) hx hb dX4_renew_144 ?_
      refine lv_topi (fun x18 ex18 => ?_)
      replace h := am_let_s ex18 h
      refine va_put (pc := 145) (D := D) (ci := 4) (v := .int x18) (ty := .int) (C := RX4) (T := TX4) (N := 7) hx hb hts hnX4 tyX4 tyX4_ok nmX4 hown hK.1 hP hD hS 0 rfl rfl 6 (Nat.le_of_ble_eq_true rfl) hk93 (fun _ h9 => h9) rfl (by decide +kernel) rfl rfl (Nat.le_of_ble_eq_true rfl) dX4_renew_145 (fun H locs hP hD hS => ?_)
      replace hP : va_P D vwCl [(self, .inr (4, [.ref lself, .ref wself, .ref sself, .ref cself, .int r14, .int obs, .int x18])), (lself, .inr (1, [.ref lplself, .ref lpaself, .ref logself, .ref ldrself, .ref lspself, .ref lscself, .int lmany, .int u8])), (lplself, .inr (2, [.ref lpla])), (lpla, .inl (cI, 240, .inl f11)), (lpaself, .inr (2, [.ref lpaa])), (lpaa, .inl (cI, 240, .inl f12)), (logself, .inr (2, [.ref loga])), (loga, .inl (cI, 20, .inl f9)), (ldrself, .inr (2, [.ref ldra])), (ldra, .inl (cI, 20, .inl ldrf)), (lspself, .inr (2, [.ref lspa])), (lspa, .inl (cI, 20, .inl lspf)), (lscself, .inr (2, [.ref lsca])), (lsca, .inl (cI, 20, .inl f10)), (wself, .inr (5, [.ref wa, .int u16])), (wa, .inl (cI, 12, .inl f17)), (sself, .inr (2, [.ref sa])), (sa, .inl (cI, 3, .inl sf)), (cself, .inr (0, [.ref ca, .ref cb, .int u4])), (ca, .inl (cI, 12, .inl f5)), (cb, .inl (cJ, 12, .inr (.inl f6)))] H := hP
      replace hD : va_D A [(self, .inr (4, [.ref lself, .ref wself, .ref sself, .ref cself, .int r14, .int obs, .int x18])), (lself, .inr (1, [.ref lplself, .ref lpaself, .ref logself, .ref ldrself, .ref lspself, .ref lscself, .int lmany, .int u8])), (lplself, .inr (2, [.ref lpla])), (lpla, .inl (cI, 240, .inl f11)), (lpaself, .inr (2, [.ref lpaa])), (lpaa, .inl (cI, 240, .inl f12)), (logself, .inr (2, [.ref loga])), (loga, .inl (cI, 20, .inl f9)), (ldrself, .inr (2, [.ref ldra])), (ldra, .inl (cI, 20, .inl ldrf)), (lspself, .inr (2, [.ref lspa])), (lspa, .inl (cI, 20, .inl lspf)), (lscself, .inr (2, [.ref lsca])), (lsca, .inl (cI, 20, .inl f10)), (wself, .inr (5, [.ref wa, .int u16])), (wa, .inl (cI, 12, .inl f17)), (sself, .inr (2, [.ref sa])), (sa, .inl (cI, 3, .inl sf)), (cself, .inr (0, [.ref ca, .ref cb, .int u4])), (ca, .inl (cI, 12, .inl f5)), (cb, .inl (cJ, 12, .inr (.inl f6)))] := hD
      refine lv_aload_n (pc := 148) hx hb dX4_renew_148 rfl (lv_at hl 0 rfl) ?_
      refine va_get (pc := 149) (D := D) (ci := 4) (v := .ref lself) (C := RX4) (T := TX4) (N := 7) hx hb hts hnX4 hown hK.1 hP 0 rfl rfl 0 (Nat.le_of_ble_eq_true rfl) hk44 (fun _ h9 => h9) rfl dX4_renew_149 ?_
      refine lv_iload_n (pc := 152) hx hb dX4_renew_152 rfl (lv_at hl 1 rfl) ?_
      obtain ⟨r19, hc19, h⟩ := am_bind_s h
      refine kc_Vi (pc := 153) (ci := 1) ⟨hx, hb, hml, hown, hts⟩ hP hK [.int r7] (c_X1_howManyAreAncestors l D cI cJ lself lplself lpla lpaself lpaa logself loga ldrself ldra lspself lspa lscself lsca lmany u8 f11 f12 f9 ldrf lspf f10 r7 r19 hc19) [1, 2, 3, 4, 5, 6, 7, 8, 9, 10, 11, 12, 13] rfl (cwV 1 hts (gzV wl264 wl265 wl266 wl43 wl267) rfl rfl rfl ⟨rfl, hdX1_howManyAreAncestors⟩ ⟨Nat.le_of_ble_eq_true rfl, Nat.le_of_ble_eq_true rfl⟩) rfl rfl [] rfl hl.1 rfl (Nat.le_of_ble_eq_true rfl) dX4_renew_153 ⟨Nat.zero_le _, Nat.zero_le _⟩ ?_
      obtain ⟨e1, e2, e3, e4, e5, e6, e7, e8, e9, e10, e11, e12, e13⟩ := am_ret13 h
      exact hret _ _ _ _ _ dX4_renew_156 rfl e1 (by rw [← e2, ← e3, ← e4, ← e5, ← e6, ← e7, ← e8, ← e9, ← e10, ← e11, ← e12, ← e13]; exact hP) hS
    refine am_loop3_s (fun (x20 : Int32) (f21 : Nat → Int32) (f22 : Nat → Int32) => ∀ (ls : Array Slot), lv_has ls 5 [(0, .ref self), (2, .int r7), (3, .int x20)] → ∀ (H : Heap) (locs : List Loc), va_P D vwCl [(self, .inr (4, [.ref lself, .ref wself, .ref sself, .ref cself, .int noi, .int obs, .int res])), (lself, .inr (1, [.ref lplself, .ref lpaself, .ref logself, .ref ldrself, .ref lspself, .ref lscself, .int lmany, .int u8])), (lplself, .inr (2, [.ref lpla])), (lpla, .inl (cI, 240, .inl f21)), (lpaself, .inr (2, [.ref lpaa])), (lpaa, .inl (cI, 240, .inl f22)), (logself, .inr (2, [.ref loga])), (loga, .inl (cI, 20, .inl f9)), (ldrself, .inr (2, [.ref ldra])), (ldra, .inl (cI, 20, .inl ldrf)), (lspself, .inr (2, [.ref lspa])), (lspa, .inl (cI, 20, .inl lspf)), (lscself, .inr (2, [.ref lsca])), (lsca, .inl (cI, 20, .inl f10)), (wself, .inr (5, [.ref wa, .int wmany])), (wa, .inl (cI, 12, .inl wf)), (sself, .inr (2, [.ref sa])), (sa, .inl (cI, 3, .inl sf)), (cself, .inr (0, [.ref ca, .ref cb, .int u4])), (ca, .inl (cI, 12, .inl f5)), (cb, .inl (cJ, 12, .inr (.inl f6)))] H → va_D A [(self, .inr (4, [.ref lself, .ref wself, .ref sself, .ref cself, .int noi, .int obs, .int res])), (lself, .inr (1, [.ref lplself, .ref lpaself, .ref logself, .ref ldrself, .ref lspself, .ref lscself, .int lmany, .int u8])), (lplself, .inr (2, [.ref lpla])), (lpla, .inl (cI, 240, .inl f21)), (lpaself, .inr (2, [.ref lpaa])), (lpaa, .inl (cI, 240, .inl f22)), (logself, .inr (2, [.ref loga])), (loga, .inl (cI, 20, .inl f9)), (ldrself, .inr (2, [.ref ldra])), (ldra, .inl (cI, 20, .inl ldrf)), (lspself, .inr (2, [.ref lspa])), (lspa, .inl (cI, 20, .inl lspf)), (lscself, .inr (2, [.ref lsca])), (lsca, .inl (cI, 20, .inl f10)), (wself, .inr (5, [.ref wa, .int wmany])), (wa, .inl (cI, 12, .inl wf)), (sself, .inr (2, [.ref sa])), (sa, .inl (cI, 3, .inl sf)), (cself, .inr (0, [.ref ca, .ref cb, .int u4])), (ca, .inl (cI, 12, .inl f5)), (cb, .inl (cJ, 12, .inr (.inl f6)))] → va_S A s.heap H locs → W p l e rmX4_renew s m args below meth c H locs 0 0 Q (F0 m 66 ls [])) (fun rec23 ihrec23 x20 f21 f22 h ls hl H locs hP hD hS => ?_) _ _ _ _ h ls (lv_sub hl [3, 1, 0] rfl) H locs hP hD hS
    unfold F_X4_renew_B66 at h
    refine lv_iload_n (pc := 66) hx hb dX4_renew_66 rfl (lv_at hl 2 rfl) ?_
    refine lv_aload_n (pc := 67) hx hb dX4_renew_67 rfl (lv_at hl 0 rfl) ?_
    refine va_get (pc := 68) (D := D) (ci := 4) (v := .ref lself) (C := RX4) (T := TX4) (N := 7) hx hb hts hnX4 hown hK.1 hP 0 rfl rfl 0 (Nat.le_of_ble_eq_true rfl) hk44 (fun _ h9 => h9) rfl dX4_renew_68 ?_
    obtain ⟨r24, hc24, h⟩ := am_bind_s h
    refine kc_Vi (pc := 71) (ci := 1) ⟨hx, hb, hml, hown, hts⟩ hP hK [] (c_X1_many l D cI cJ lself lplself lpla lpaself lpaa logself loga ldrself ldra lspself lspa lscself lsca lmany u8 f21 f22 f9 ldrf lspf f10 r24 hc24) [1, 2, 3, 4, 5, 6, 7, 8, 9, 10, 11, 12, 13] rfl (cwV 0 hts (gzV wl147 wl148 wl149 wl43 wl150) rfl rfl rfl ⟨rfl, hdX1_many⟩ ⟨Nat.le_of_ble_eq_true rfl, Nat.le_of_ble_eq_true rfl⟩) rfl rfl [.int x20] rfl hl.1 rfl (Nat.le_of_ble_eq_true rfl) dX4_renew_71 ⟨Nat.zero_le _, Nat.zero_le _⟩ ?_
    refine lv_icmp_ge (pc := 74) (tgt := 113) hx hb dX4_renew_74 (by decide) (fun cc => ?_) (fun cc => ?_)
    · replace h := am_t cc h
      exact hK13 _ _ h ls (lv_sub hl [0, 1] rfl) H locs hP hD hS
    replace h := am_f cc h
    refine lv_aload_n (pc := 77) hx hb dX4_renew_77 rfl (lv_at hl 0 rfl) ?_
    refine va_get (pc := 78) (D := D) (ci := 4) (v := .ref cself) (C := RX4) (T := TX4) (N := 7) hx hb hts hnX4 hown hK.1 hP 0 rfl rfl 3 (Nat.le_of_ble_eq_true rfl) hk53 (fun _ h9 => h9) rfl dX4_renew_78 ?_
    refine lv_iload_n (pc := 81) hx hb dX4_renew_81 rfl (lv_at hl 2 rfl) ?_
    obtain ⟨r25, hc25, h⟩ := am_bind_s h
    refine kc_Vi (pc := 82) (ci := 0) ⟨hx, hb, hml, hown, hts⟩ hP hK [.int x20] (c_X0_chosenFor l D cI cJ cself ca cb u4 f5 f6 x20 r25 hc25) [18, 19, 20] rfl (cwV 1 hts (gzV wl421 wl422 wl423 wl15 wl424) rfl rfl rfl ⟨rfl, hdX0_chosenFor⟩ ⟨Nat.le_of_ble_eq_true rfl, Nat.le_of_ble_eq_true rfl⟩) rfl rfl [] rfl hl.1 rfl (Nat.le_of_ble_eq_true rfl) dX4_renew_82 ⟨Nat.zero_le _, Nat.zero_le _⟩ ?_
    refine lv_istore (lv' := [(4, .int r25), (0, .ref self), (2, .int r7), (3, .int x20)]) (pc := 85) hx hb dX4_renew_85 hl (by decide) rfl (fun ls hl => ?_)
    refine lv_aload_n (pc := 87) hx hb dX4_renew_87 rfl (lv_at hl 1 rfl) ?_
    refine va_get (pc := 88) (D := D) (ci := 4) (v := .ref lself) (C := RX4) (T := TX4) (N := 7) hx hb hts hnX4 hown hK.1 hP 0 rfl rfl 0 (Nat.le_of_ble_eq_true rfl) hk44 (fun _ h9 => h9) rfl dX4_renew_88 ?_
    refine lv_iload_n (pc := 91) hx hb dX4_renew_91 rfl (lv_at hl 3 rfl) ?_
    refine lv_iload (pc := 92) hx hb dX4_renew_92 (lv_at hl 0 rfl) ?_
    refine lv_aload_n (pc := 94) hx hb dX4_renew_94 rfl (lv_at hl 1 rfl) ?_
    refine va_get (pc := 95) (D := D) (ci := 4) (v := .ref lself) (C := RX4) (T := TX4) (N := 7) hx hb hts hnX4 hown hK.1 hP 0 rfl rfl 0 (Nat.le_of_ble_eq_true rfl) hk44 (fun _ h9 => h9) rfl dX4_renew_95 ?_
    refine lv_iload_n (pc := 98) hx hb dX4_renew_98 rfl (lv_at hl 2 rfl) ?_
    refine lv_iload (pc := 99) hx hb dX4_renew_99 (lv_at hl 0 rfl) ?_
    obtain ⟨r26, hc26, h⟩ := am_bind_s h
    refine kc_Vi (pc := 101) (ci := 1) ⟨hx, hb, hml, hown, hts⟩ hP hK [.int r7, .int r25] (c_X1_placeIn l D cI cJ lself lplself lpla lpaself lpaa logself loga ldrself ldra lspself lspa lscself lsca lmany u8 f21 f22 f9 ldrf lspf f10 r7 r25 r26 hc26) [1, 2, 3, 4, 5, 6, 7, 8, 9, 10, 11, 12, 13] rfl (cwV 2 hts (gzV wl163 wl164 wl165 wl43 wl166) rfl rfl rfl ⟨rfl, hdX1_placeIn⟩ ⟨Nat.le_of_ble_eq_true rfl, Nat.le_of_ble_eq_true rfl⟩) rfl rfl [.int r25, .int x20, .ref lself] rfl hl.1 rfl (Nat.le_of_ble_eq_true rfl) dX4_renew_101 ⟨Nat.zero_le _, Nat.zero_le _⟩ ?_
    obtain ⟨f27, f28, hc28, h⟩ := am_call2_s h
    refine kc_Wv (pc := 104) (ci := 1) ⟨hx, hb, hml, hown, hts⟩ hP hK hD hS hA [.int x20, .int r25, .int r26] (c_X1_putParticle l D cI cJ lself lplself lpla lpaself lpaa logself loga ldrself ldra lspself lspa lscself lsca lmany u8 f21 f22 f9 ldrf lspf f10 x20 r25 r26 f27 f28 hc28 _) [1, 2, 3, 4, 5, 6, 7, 8, 9, 10, 11, 12, 13] rfl rfl rfl (cwV 3 hts (gzV wl362 wl363 wl364 wl43 wl365) rfl rfl rfl ⟨rfl, hdX1_putParticle⟩ ⟨Nat.le_of_ble_eq_true rfl, Nat.le_of_ble_eq_true rfl⟩) rfl rfl [] rfl hl.1 rfl (Nat.le_of_ble_eq_true rfl) dX4_renew_104 ⟨Nat.zero_le _, Nat.zero_le _⟩ (fun H locs hP hD hS => ?_)
    replace hP : va_P D vwCl [(self, .inr (4, [.ref lself, .ref wself, .ref sself, .ref cself, .int noi, .int obs, .int res])), (lself, .inr (1, [.ref lplself, .ref lpaself, .ref logself, .ref ldrself, .ref lspself, .ref lscself, .int lmany, .int u8])), (lplself, .inr (2, [.ref lpla])), (lpla, .inl (cI, 240, .inl f27)), (lpaself, .inr (2, [.ref lpaa])), (lpaa, .inl (cI, 240, .inl f28)), (logself, .inr (2, [.ref loga])), (loga, .inl (cI, 20, .inl f9)), (ldrself, .inr (2, [.ref ldra])), (ldra, .inl (cI, 20, .inl ldrf)), (lspself, .inr (2, [.ref lspa])), (lspa, .inl (cI, 20, .inl lspf)), (lscself, .inr (2, [.ref lsca])), (lsca, .inl (cI, 20, .inl f10)), (wself, .inr (5, [.ref wa, .int wmany])), (wa, .inl (cI, 12, .inl wf)), (sself, .inr (2, [.ref sa])), (sa, .inl (cI, 3, .inl sf)), (cself, .inr (0, [.ref ca, .ref cb, .int u4])), (ca, .inl (cI, 12, .inl f5)), (cb, .inl (cJ, 12, .inr (.inl f6)))] H := hP
    replace hD : va_D A [(self, .inr (4, [.ref lself, .ref wself, .ref sself, .ref cself, .int noi, .int obs, .int res])), (lself, .inr (1, [.ref lplself, .ref lpaself, .ref logself, .ref ldrself, .ref lspself, .ref lscself, .int lmany, .int u8])), (lplself, .inr (2, [.ref lpla])), (lpla, .inl (cI, 240, .inl f27)), (lpaself, .inr (2, [.ref lpaa])), (lpaa, .inl (cI, 240, .inl f28)), (logself, .inr (2, [.ref loga])), (loga, .inl (cI, 20, .inl f9)), (ldrself, .inr (2, [.ref ldra])), (ldra, .inl (cI, 20, .inl ldrf)), (lspself, .inr (2, [.ref lspa])), (lspa, .inl (cI, 20, .inl lspf)), (lscself, .inr (2, [.ref lsca])), (lsca, .inl (cI, 20, .inl f10)), (wself, .inr (5, [.ref wa, .int wmany])), (wa, .inl (cI, 12, .inl wf)), (sself, .inr (2, [.ref sa])), (sa, .inl (cI, 3, .inl sf)), (cself, .inr (0, [.ref ca, .ref cb, .int u4])), (ca, .inl (cI, 12, .inl f5)), (cb, .inl (cJ, 12, .inr (.inl f6)))] := hD
    obtain ⟨x29, ex29⟩ : ∃ y : Int32, y = (x20 + (1 : Int32)) := ⟨_, rfl⟩
    replace h := am_let_s ex29 h
    refine lv_iinc (pc := 107) (v := x29) (lv' := [(3, .int x29), (4, .int r25), (0, .ref self), (2, .int r7)]) hx hb dX4_renew_107 hl (k := 3) rfl (by rw [ex29]; rfl) (by decide) rfl (fun ls hl => ?_)
    refine lv_goto (pc := 110) (tgt := 66) hx hb dX4_renew_110 (by decide) ?_
    exact ihrec23 _ _ _ h ls (lv_sub hl [2, 3, 0] rfl) H locs hP hD hS
  replace h := am_f cc h
  refine lv_ldc (pc := 12) hx hb hown hk354 dX4_renew_12 ?_
  obtain ⟨e1, e2, e3, e4, e5, e6, e7, e8, e9, e10, e11, e12, e13⟩ := am_ret13 h
  exact hret _ _ _ _ _ dX4_renew_14 rfl e1 (by rw [← e2, ← e3, ← e4, ← e5, ← e6, ← e7, ← e8, ← e9, ← e10, ← e11, ← e12, ← e13]; exact hP) hS
theorem hdX4_look : yX4_look.cls ≠ "java/lang/invoke/MethodHandle" ∧ yX4_look.cls ≠ "java/lang/invoke/VarHandle" ∧ (parseMethodDescriptor yX4_look.desc).map (fun d => d.parameters.length) = some 2 := by decide +kernel
abbrev rmX4_look : Room := { frames := 4, cells := 0, slots := 0, locals := 107 }
set_option maxHeartbeats 20000000 in
set_option maxRecDepth 100000 in
theorem c_X4_look (l : Launch) (D : va_G) (cI cJ : ClassId) (self : Nat) (lself : Nat) (lplself : Nat) (lpla : Nat) (lpaself : Nat) (lpaa : Nat) (logself : Nat) (loga : Nat) (ldrself : Nat) (ldra : Nat) (lspself : Nat) (lspa : Nat) (lscself : Nat) (lsca : Nat) (wself : Nat) (wa : Nat) (sself : Nat) (sa : Nat) (cself : Nat) (ca : Nat) (cb : Nat) (noi : Int32) (obs : Int32) (res : Int32) (lmany : Int32) (lgens : Int32) (lplf : Nat → Int32) (lpaf : Nat → Int32) (logf : Nat → Int32) (ldrf : Nat → Int32) (lspf : Nat → Int32) (lscf : Nat → Int32) (wmany : Int32) (wf : Nat → Int32) (sf : Nat → Int32) (cnoi : Int32) (canc : Nat → Int32) (crst : Nat → Int64) (p0 : Int32) (p1 : Int32) (r0 : Int32) (znoi : Int32) (zobs : Int32) (zres : Int32) (zlgens : Int32) (zlplf : Nat → Int32) (zlpaf : Nat → Int32) (zlogf : Nat → Int32) (zlscf : Nat → Int32) (zwmany : Int32) (zwf : Nat → Int32) (zcnoi : Int32) (zcanc : Nat → Int32) (zcrst : Nat → Int64) (hF : F_X4_look noi obs res lmany lgens lplf lpaf logf lscf wmany wf sf cnoi canc crst p0 p1 = some (r0, znoi, zobs, zres, zlgens, zlplf, zlpaf, zlogf, zlscf, zwmany, zwf, zcnoi, zcanc, zcrst)) (sz : Nat) : Met l yX4_look (wz yX4_look cX4_look 5 (some .int)) rmX4_look (kPw D cI cJ [(self, .inr (4, [.ref lself, .ref wself, .ref sself, .ref cself, .int noi, .int obs, .int res])), (lself, .inr (1, [.ref lplself, .ref lpaself, .ref logself, .ref ldrself, .ref lspself, .ref lscself, .int lmany, .int lgens])), (lplself, .inr (2, [.ref lpla])), (lpla, .inl (cI, 240, .inl lplf)), (lpaself, .inr (2, [.ref lpaa])), (lpaa, .inl (cI, 240, .inl lpaf)), (logself, .inr (2, [.ref loga])), (loga, .inl (cI, 20, .inl logf)), (ldrself, .inr (2, [.ref ldra])), (ldra, .inl (cI, 20, .inl ldrf)), (lspself, .inr (2, [.ref lspa])), (lspa, .inl (cI, 20, .inl lspf)), (lscself, .inr (2, [.ref lsca])), (lsca, .inl (cI, 20, .inl lscf)), (wself, .inr (5, [.ref wa, .int wmany])), (wa, .inl (cI, 12, .inl wf)), (sself, .inr (2, [.ref sa])), (sa, .inl (cI, 3, .inl sf)), (cself, .inr (0, [.ref ca, .ref cb, .int cnoi])), (ca, .inl (cI, 12, .inl canc)), (cb, .inl (cJ, 12, .inr (.inl crst)))] sz [.ref self, .int p0, .int p1]) (kQi D r0 [(self, .inr (4, [.ref lself, .ref wself, .ref sself, .ref cself, .int znoi, .int zobs, .int zres])), (lself, .inr (1, [.ref lplself, .ref lpaself, .ref logself, .ref ldrself, .ref lspself, .ref lscself, .int lmany, .int zlgens])), (lplself, .inr (2, [.ref lpla])), (lpla, .inl (cI, 240, .inl zlplf)), (lpaself, .inr (2, [.ref lpaa])), (lpaa, .inl (cI, 240, .inl zlpaf)), (logself, .inr (2, [.ref loga])), (loga, .inl (cI, 20, .inl zlogf)), (ldrself, .inr (2, [.ref ldra])), (ldra, .inl (cI, 20, .inl ldrf)), (lspself, .inr (2, [.ref lspa])), (lspa, .inl (cI, 20, .inl lspf)), (lscself, .inr (2, [.ref lsca])), (lsca, .inl (cI, 20, .inl zlscf)), (wself, .inr (5, [.ref wa, .int zwmany])), (wa, .inl (cI, 12, .inl zwf)), (sself, .inr (2, [.ref sa])), (sa, .inl (cI, 3, .inl sf)), (cself, .inr (0, [.ref ca, .ref cb, .int zcnoi])), (ca, .inl (cI, 12, .inl zcanc)), (cb, .inl (cJ, 12, .inr (.inl zcrst)))] (va_A [(self, .inr (4, [.ref lself, .ref wself, .ref sself, .ref cself, .int noi, .int obs, .int res])), (lself, .inr (1, [.ref lplself, .ref lpaself, .ref logself, .ref ldrself, .ref lspself, .ref lscself, .int lmany, .int lgens])), (lplself, .inr (2, [.ref lpla])), (lpla, .inl (cI, 240, .inl lplf)), (lpaself, .inr (2, [.ref lpaa])), (lpaa, .inl (cI, 240, .inl lpaf)), (logself, .inr (2, [.ref loga])), (loga, .inl (cI, 20, .inl logf)), (ldrself, .inr (2, [.ref ldra])), (ldra, .inl (cI, 20, .inl ldrf)), (lspself, .inr (2, [.ref lspa])), (lspa, .inl (cI, 20, .inl lspf)), (lscself, .inr (2, [.ref lsca])), (lsca, .inl (cI, 20, .inl lscf)), (wself, .inr (5, [.ref wa, .int wmany])), (wa, .inl (cI, 12, .inl wf)), (sself, .inr (2, [.ref sa])), (sa, .inl (cI, 3, .inl sf)), (cself, .inr (0, [.ref ca, .ref cb, .int cnoi])), (ca, .inl (cI, 12, .inl canc)), (cb, .inl (cJ, 12, .inr (.inl crst)))] sz)) 0 0 (va_A [(self, .inr (4, [.ref lself, .ref wself, .ref sself, .ref cself, .int noi, .int obs, .int res])), (lself, .inr (1, [.ref lplself, .ref lpaself, .ref logself, .ref ldrself, .ref lspself, .ref lscself, .int lmany, .int lgens])), (lplself, .inr (2, [.ref lpla])), (lpla, .inl (cI, 240, .inl lplf)), (lpaself, .inr (2, [.ref lpaa])), (lpaa, .inl (cI, 240, .inl lpaf)), (logself, .inr (2, [.ref loga])), (loga, .inl (cI, 20, .inl logf)), (ldrself, .inr (2, [.ref ldra])), (ldra, .inl (cI, 20, .inl ldrf)), (lspself, .inr (2, [.ref lspa])), (lspa, .inl (cI, 20, .inl lspf)), (lscself, .inr (2, [.ref lsca])), (lsca, .inl (cI, 20, .inl lscf)), (wself, .inr (5, [.ref wa, .int wmany])), (wa, .inl (cI, 12, .inl wf)), (sself, .inr (2, [.ref sa])), (sa, .inl (cI, 3, .inl sf)), (cself, .inr (0, [.ref ca, .ref cb, .int cnoi])), (ca, .inl (cI, 12, .inl canc)), (cb, .inl (cJ, 12, .inr (.inl crst)))] sz) := by
  refine kM_wi cX4_look 5 .int (by decide +kernel) rfl rfl (Nat.le_of_ble_eq_true rfl) ⟨rfl, rfl⟩ ?_
  intro p e s m args below meth c Q A ls hx hb hml hown hts hP hK hD hA hS hl hret
  have hk151 := hts _ (List.mem_cons_of_mem _ wl151)
  have hk2 := hts _ (List.mem_cons_of_mem _ wl2)
  have hk211 := hts _ (List.mem_cons_of_mem _ wl211)
  have hk332 := hts _ (List.mem_cons_of_mem _ wl332)
  have hk333 := hts _ (List.mem_cons_of_mem _ wl333)
  have hk354 := hts _ (List.mem_cons_of_mem _ wl354)
  have hk378 := hts _ (List.mem_cons_of_mem _ wl378)
  have hk379 := hts _ (List.mem_cons_of_mem _ wl379)
  have hk380 := hts _ (List.mem_cons_of_mem _ wl380)
  have hk381 := hts _ (List.mem_cons_of_mem _ wl381)
  have hk44 := hts _ (List.mem_cons_of_mem _ wl44)
  have hk48 := hts _ (List.mem_cons_of_mem _ wl48)
  have hk52 := hts _ (List.mem_cons_of_mem _ wl52)
  have hk72 := hts _ (List.mem_cons_of_mem _ wl72)
  have hk73 := hts _ (List.mem_cons_of_mem _ wl73)
  have hk74 := hts _ (List.mem_cons_of_mem _ wl74)
  have hk92 := hts _ (List.mem_cons_of_mem _ wl92)
  have hnX4 : ∀ w ∈ u_ws RX4 TX4 7, w ∈ wz yX4_look cX4_look 5 (some .int) := fun w h => List.mem_cons_of_mem _ (inlX4 w h)
  replace hl : lv_has ls 5 [(0, .ref self), (1, .int p0), (2, .int p1)] := hl
  have h := hF
  unfold F_X4_look at h
  refine lv_iload_n (pc := 0) hx hb dX4_look_0 rfl (lv_at hl 1 rfl) ?_
  refine lv_iconst (v := 0) (pc := 1) hx hb dX4_look_1 (by decide) ?_
  refine lv_bipush (v := 99) (pc := 2) hx hb dX4_look_2 (by decide) ?_
  obtain ⟨r1, hc1, h⟩ := am_bind_s h
  refine kc_Ni (pc := 4) ⟨hx, hb, hml, hown, hts⟩ hP hK [.int p0, .int (0 : Int32), .int (99 : Int32)] (c_X6_isWithin l D cI cJ p0 (0 : Int32) (99 : Int32) r1 hc1) [] rfl ⟨va_cnB 3 hts (gzN wl152) rfl rfl rfl hK.2.2.1 hk2 hdX6_isWithin ⟨Nat.le_of_ble_eq_true rfl, Nat.le_of_ble_eq_true rfl⟩, hk151, trivial⟩ [] rfl hl.1 rfl (Nat.le_of_ble_eq_true rfl) dX4_look_4 ⟨Nat.zero_le _, Nat.zero_le _⟩ ?_
  refine lv_if_eq (pc := 7) (tgt := 20) hx hb dX4_look_7 (by decide) (fun cc => ?_) (fun cc => ?_)
  · replace h := am_t cc h
    refine lv_ldc (pc := 20) hx hb hown hk211 dX4_look_20 ?_
    obtain ⟨e1, e2, e3, e4, e5, e6, e7, e8, e9, e10, e11, e12, e13, e14⟩ := am_ret14 h
    exact hret _ _ _ _ _ dX4_look_22 rfl e1 (by rw [← e2, ← e3, ← e4, ← e5, ← e6, ← e7, ← e8, ← e9, ← e10, ← e11, ← e12, ← e13, ← e14]; exact hP) hS
  replace h := am_f cc h
  refine lv_iload_n (pc := 10) hx hb dX4_look_10 rfl (lv_at hl 2 rfl) ?_
  refine lv_iconst (v := 1) (pc := 11) hx hb dX4_look_11 (by decide) ?_
  refine lv_bipush (v := 99) (pc := 12) hx hb dX4_look_12 (by decide) ?_
  obtain ⟨r2, hc2, h⟩ := am_bind_s h
  refine kc_Ni (pc := 14) ⟨hx, hb, hml, hown, hts⟩ hP hK [.int p1, .int (1 : Int32), .int (99 : Int32)] (c_X6_isWithin l D cI cJ p1 (1 : Int32) (99 : Int32) r2 hc2) [] rfl ⟨va_cnB 3 hts (gzN wl152) rfl rfl rfl hK.2.2.1 hk2 hdX6_isWithin ⟨Nat.le_of_ble_eq_true rfl, Nat.le_of_ble_eq_true rfl⟩, hk151, trivial⟩ [] rfl hl.1 rfl (Nat.le_of_ble_eq_true rfl) dX4_look_14 ⟨Nat.zero_le _, Nat.zero_le _⟩ ?_
  refine lv_if_ne (pc := 17) (tgt := 23) hx hb dX4_look_17 (by decide) (fun cc => ?_) (fun cc => ?_)
  · replace h := am_f cc h
    refine lv_iconst (v := 0) (pc := 23) hx hb dX4_look_23 (by decide) ?_
    refine lv_istore_n (lv' := [(3, .int (0 : Int32)), (0, .ref self), (1, .int p0), (2, .int p1)]) (pc := 24) hx hb dX4_look_24 rfl hl (by decide) rfl (fun ls hl => ?_)
    refine am_join1_s (fun (f3 : Nat → Int32) => ∀ (ls : Array Slot), lv_has ls 5 [(0, .ref self)] → ∀ (H : Heap) (locs : List Loc), va_P D vwCl [(self, .inr (4, [.ref lself, .ref wself, .ref sself, .ref cself, .int noi, .int obs, .int res])), (lself, .inr (1, [.ref lplself, .ref lpaself, .ref logself, .ref ldrself, .ref lspself, .ref lscself, .int lmany, .int lgens])), (lplself, .inr (2, [.ref lpla])), (lpla, .inl (cI, 240, .inl lplf)), (lpaself, .inr (2, [.ref lpaa])), (lpaa, .inl (cI, 240, .inl lpaf)), (logself, .inr (2, [.ref loga])), (loga, .inl (cI, 20, .inl logf)), (ldrself, .inr (2, [.ref ldra])), (ldra, .inl (cI, 20, .inl ldrf)), (lspself, .inr (2, [.ref lspa])), (lspa, .inl (cI, 20, .inl lspf)), (lscself, .inr (2, [.ref lsca])), (lsca, .inl (cI, 20, .inl lscf)), (wself, .inr (5, [.ref wa, .int wmany])), (wa, .inl (cI, 12, .inl f3)), (sself, .inr (2, [.ref sa])), (sa, .inl (cI, 3, .inl sf)), (cself, .inr (0, [.ref ca, .ref cb, .int cnoi])), (ca, .inl (cI, 12, .inl canc)), (cb, .inl (cJ, 12, .inr (.inl crst)))] H → va_D A [(self, .inr (4, [.ref lself, .ref wself, .ref sself, .ref cself, .int noi, .int obs, .int res])), (lself, .inr (1, [.ref lplself, .ref lpaself, .ref logself, .ref ldrself, .ref lspself, .ref lscself, .int lmany, .int lgens])), (lplself, .inr (2, [.ref lpla])), (lpla, .inl (cI, 240, .inl lplf)), (lpaself, .inr (2, [.ref lpaa])), (lpaa, .inl (cI, 240, .inl lpaf)), (logself, .inr (2, [.ref loga])), (loga, .inl (cI, 20, .inl logf)), (ldrself, .inr (2, [.ref ldra])), (ldra, .inl (cI, 20, .inl ldrf)), (lspself, .inr (2, [.ref lspa])), (lspa, .inl (cI, 20, .inl lspf)), (lscself, .inr (2, [.ref lsca])), (lsca, .inl (cI, 20, .inl lscf)), (wself, .inr (5, [.ref wa, .int wmany])), (wa, .inl (cI, 12, .inl f3)), (sself, .inr (2, [.ref sa])), (sa, .inl (cI, 3, .inl sf)), (cself, .inr (0, [.ref ca, .ref cb, .int cnoi])), (ca, .inl (cI, 12, .inl canc)), (cb, .inl (cJ, 12, .inr (.inl crst)))] → va_S A s.heap H locs → W p l e rmX4_look s m args below meth c H locs 0 0 Q (F0 m 89 ls [])) h (fun f3 h ls hl H locs hP hD hS => ?_) (fun K4 hK4 h => ?_)
    · refine lv_aload_n (pc := 89) hx hb dX4_look_89 rfl (lv_at hl 0 rfl) ?_
      refine va_get (pc := 90) (D := D) (ci := 4) (v := .ref wself) (C := RX4) (T := TX4) (N := 7) hx hb hts hnX4 hown hK.1 hP 0 rfl rfl 1 (Nat.le_of_ble_eq_true rfl) hk48 (fun _ h9 => h9) rfl dX4_look_90 ?_
      obtain ⟨r5, f6, hc6, h⟩ := am_call2_s h
      refine kc_Wi (pc := 93) (ci := 5) ⟨hx, hb, hml, hown, hts⟩ hP hK hD hS hA [] (c_X5_reduce l D cI cJ wself wa wmany f3 r5 f6 hc6 _) [14, 15] rfl rfl rfl (cwV 0 hts (gzV wl339 wl340 wl341 wl47 wl342) rfl rfl rfl ⟨rfl, hdX5_reduce⟩ ⟨Nat.le_of_ble_eq_true rfl, Nat.le_of_ble_eq_true rfl⟩) rfl rfl [] rfl hl.1 rfl (Nat.le_of_ble_eq_true rfl) dX4_look_93 ⟨Nat.zero_le _, Nat.zero_le _⟩ (fun H locs hP hD hS => ?_)
      replace hP : va_P D vwCl [(self, .inr (4, [.ref lself, .ref wself, .ref sself, .ref cself, .int noi, .int obs, .int res])), (lself, .inr (1, [.ref lplself, .ref lpaself, .ref logself, .ref ldrself, .ref lspself, .ref lscself, .int lmany, .int lgens])), (lplself, .inr (2, [.ref lpla])), (lpla, .inl (cI, 240, .inl lplf)), (lpaself, .inr (2, [.ref lpaa])), (lpaa, .inl (cI, 240, .inl lpaf)), (logself, .inr (2, [.ref loga])), (loga, .inl (cI, 20, .inl logf)), (ldrself, .inr (2, [.ref ldra])), (ldra, .inl (cI, 20, .inl ldrf)), (lspself, .inr (2, [.ref lspa])), (lspa, .inl (cI, 20, .inl lspf)), (lscself, .inr (2, [.ref lsca])), (lsca, .inl (cI, 20, .inl lscf)), (wself, .inr (5, [.ref wa, .int wmany])), (wa, .inl (cI, 12, .inl f6)), (sself, .inr (2, [.ref sa])), (sa, .inl (cI, 3, .inl sf)), (cself, .inr (0, [.ref ca, .ref cb, .int cnoi])), (ca, .inl (cI, 12, .inl canc)), (cb, .inl (cJ, 12, .inr (.inl crst)))] H := hP
      replace hD : va_D A [(self, .inr (4, [.ref lself, .ref wself, .ref sself, .ref cself, .int noi, .int obs, .int res])), (lself, .inr (1, [.ref lplself, .ref lpaself, .ref logself, .ref ldrself, .ref lspself, .ref lscself, .int lmany, .int lgens])), (lplself, .inr (2, [.ref lpla])), (lpla, .inl (cI, 240, .inl lplf)), (lpaself, .inr (2, [.ref lpaa])), (lpaa, .inl (cI, 240, .inl lpaf)), (logself, .inr (2, [.ref loga])), (loga, .inl (cI, 20, .inl logf)), (ldrself, .inr (2, [.ref ldra])), (ldra, .inl (cI, 20, .inl ldrf)), (lspself, .inr (2, [.ref lspa])), (lspa, .inl (cI, 20, .inl lspf)), (lscself, .inr (2, [.ref lsca])), (lsca, .inl (cI, 20, .inl lscf)), (wself, .inr (5, [.ref wa, .int wmany])), (wa, .inl (cI, 12, .inl f6)), (sself, .inr (2, [.ref sa])), (sa, .inl (cI, 3, .inl sf)), (cself, .inr (0, [.ref ca, .ref cb, .int cnoi])), (ca, .inl (cI, 12, .inl canc)), (cb, .inl (cJ, 12, .inr (.inl crst)))] := hD
      refine lv_if_ne (pc := 96) (tgt := 102) hx hb dX4_look_96 (by decide) (fun cc => ?_) (fun cc => ?_)
      · replace h := am_f cc h
        refine lv_aload_n (pc := 102) hx hb dX4_look_102 rfl (lv_at hl 0 rfl) ?_
        refine va_get (pc := 103) (D := D) (ci := 4) (v := .ref wself) (C := RX4) (T := TX4) (N := 7) hx hb hts hnX4 hown hK.1 hP 0 rfl rfl 1 (Nat.le_of_ble_eq_true rfl) hk48 (fun _ h9 => h9) rfl dX4_look_103 ?_
        obtain ⟨r7, hc7, h⟩ := am_bind_s h
        refine kc_Vi (pc := 106) (ci := 5) ⟨hx, hb, hml, hown, hts⟩ hP hK [] (c_X5_greatest l D cI cJ wself wa wmany f6 r7 hc7) [14, 15] rfl (cwV 0 hts (gzV wl382 wl383 wl384 wl47 wl385) rfl rfl rfl ⟨rfl, hdX5_greatest⟩ ⟨Nat.le_of_ble_eq_true rfl, Nat.le_of_ble_eq_true rfl⟩) rfl rfl [] rfl hl.1 rfl (Nat.le_of_ble_eq_true rfl) dX4_look_106 ⟨Nat.zero_le _, Nat.zero_le _⟩ ?_
        refine lv_ldc (pc := 109) hx hb hown hk332 dX4_look_109 ?_
        refine lv_icmp_le (pc := 111) (tgt := 117) hx hb dX4_look_111 (by decide) (fun cc => ?_) (fun cc => ?_)
        · replace h := am_t cc h
          refine lv_aload_n (pc := 117) hx hb dX4_look_117 rfl (lv_at hl 0 rfl) ?_
          refine lv_dup (pc := 118) hx hb dX4_look_118 rfl ?_
          refine va_get (pc := 119) (D := D) (ci := 4) (v := .int obs) (C := RX4) (T := TX4) (N := 7) hx hb hts hnX4 hown hK.1 hP 0 rfl rfl 5 (Nat.le_of_ble_eq_true rfl) hk92 (fun _ h9 => h9) rfl dX4_look_119 ?_
          refine lv_iconst (v := 1) (pc := 122) hx hb dX4_look_122 (by decide) ?_
          refine lv_iadd (pc := 123) hx hb dX4_look_123 ?_
          refine lv_topi (fun x8 ex8 => ?_)
          replace h := am_let_s ex8 h
          refine va_put (pc := 124) (D := D) (ci := 4) (v := .int x8) (ty := .int) (C := RX4) (T := TX4) (N := 7) hx hb hts hnX4 tyX4 tyX4_ok nmX4 hown hK.1 hP hD hS 0 rfl rfl 5 (Nat.le_of_ble_eq_true rfl) hk92 (fun _ h9 => h9) rfl (by decide +kernel) rfl rfl (Nat.le_of_ble_eq_true rfl) dX4_look_124 (fun H locs hP hD hS => ?_)
          replace hP : va_P D vwCl [(self, .inr (4, [.ref lself, .ref wself, .ref sself, .ref cself, .int noi, .int x8, .int res])), (lself, .inr (1, [.ref lplself, .ref lpaself, .ref logself, .ref ldrself, .ref lspself, .ref lscself, .int lmany, .int lgens])), (lplself, .inr (2, [.ref lpla])), (lpla, .inl (cI, 240, .inl lplf)), (lpaself, .inr (2, [.ref lpaa])), (lpaa, .inl (cI, 240, .inl lpaf)), (logself, .inr (2, [.ref loga])), (loga, .inl (cI, 20, .inl logf)), (ldrself, .inr (2, [.ref ldra])), (ldra, .inl (cI, 20, .inl ldrf)), (lspself, .inr (2, [.ref lspa])), (lspa, .inl (cI, 20, .inl lspf)), (lscself, .inr (2, [.ref lsca])), (lsca, .inl (cI, 20, .inl lscf)), (wself, .inr (5, [.ref wa, .int wmany])), (wa, .inl (cI, 12, .inl f6)), (sself, .inr (2, [.ref sa])), (sa, .inl (cI, 3, .inl sf)), (cself, .inr (0, [.ref ca, .ref cb, .int cnoi])), (ca, .inl (cI, 12, .inl canc)), (cb, .inl (cJ, 12, .inr (.inl crst)))] H := hP
          replace hD : va_D A [(self, .inr (4, [.ref lself, .ref wself, .ref sself, .ref cself, .int noi, .int x8, .int res])), (lself, .inr (1, [.ref lplself, .ref lpaself, .ref logself, .ref ldrself, .ref lspself, .ref lscself, .int lmany, .int lgens])), (lplself, .inr (2, [.ref lpla])), (lpla, .inl (cI, 240, .inl lplf)), (lpaself, .inr (2, [.ref lpaa])), (lpaa, .inl (cI, 240, .inl lpaf)), (logself, .inr (2, [.ref loga])), (loga, .inl (cI, 20, .inl logf)), (ldrself, .inr (2, [.ref ldra])), (ldra, .inl (cI, 20, .inl ldrf)), (lspself, .inr (2, [.ref lspa])), (lspa, .inl (cI, 20, .inl lspf)), (lscself, .inr (2, [.ref lsca])), (lsca, .inl (cI, 20, .inl lscf)), (wself, .inr (5, [.ref wa, .int wmany])), (wa, .inl (cI, 12, .inl f6)), (sself, .inr (2, [.ref sa])), (sa, .inl (cI, 3, .inl sf)), (cself, .inr (0, [.ref ca, .ref cb, .int cnoi])), (ca, .inl (cI, 12, .inl canc)), (cb, .inl (cJ, 12, .inr (.inl crst)))] := hD
          refine lv_aload_n (pc := 127) hx hb dX4_look_127 rfl (lv_at hl 0 rfl) ?_
          refine va_get (pc := 128) (D := D) (ci := 4) (v := .ref wself) (C := RX4) (T := TX4) (N := 7) hx hb hts hnX4 hown hK.1 hP 0 rfl rfl 1 (Nat.le_of_ble_eq_true rfl) hk48 (fun _ h9 => h9) rfl dX4_look_128 ?_
          obtain ⟨r9, hc9, h⟩ := am_bind_s h
          refine kc_Vi (pc := 131) (ci := 5) ⟨hx, hb, hml, hown, hts⟩ hP hK [] (c_X5_effectiveCount l D cI cJ wself wa wmany f6 r9 hc9) [14, 15] rfl (cwV 0 hts (gzV wl216 wl217 wl218 wl47 wl219) rfl rfl rfl ⟨rfl, hdX5_effectiveCount⟩ ⟨Nat.le_of_ble_eq_true rfl, Nat.le_of_ble_eq_true rfl⟩) rfl rfl [] rfl hl.1 rfl (Nat.le_of_ble_eq_true rfl) dX4_look_131 ⟨Nat.zero_le _, Nat.zero_le _⟩ ?_
          refine lv_istore_n (lv' := [(3, .int r9), (0, .ref self)]) (pc := 134) hx hb dX4_look_134 rfl hl (by decide) rfl (fun ls hl => ?_)
          refine lv_iload_n (pc := 135) hx hb dX4_look_135 rfl (lv_at hl 0 rfl) ?_
          refine lv_aload_n (pc := 136) hx hb dX4_look_136 rfl (lv_at hl 1 rfl) ?_
          refine va_get (pc := 137) (D := D) (ci := 4) (v := .ref sself) (C := RX4) (T := TX4) (N := 7) hx hb hts hnX4 hown hK.1 hP 0 rfl rfl 2 (Nat.le_of_ble_eq_true rfl) hk52 (fun _ h9 => h9) rfl dX4_look_137 ?_
          refine lv_iconst (v := 0) (pc := 140) hx hb dX4_look_140 (by decide) ?_
          obtain ⟨r10, hc10, h⟩ := am_bind_s h
          refine kc_Vi (pc := 141) (ci := 2) ⟨hx, hb, hml, hown, hts⟩ hP hK [.int (0 : Int32)] (c_X2_at l D cI cJ sself sa 3 sf (0 : Int32) r10 hc10) [16, 17] rfl (cwV 1 hts (gzV wl232 wl168 wl169 wl51 wl170) rfl rfl rfl ⟨rfl, hdX2_at⟩ ⟨Nat.le_of_ble_eq_true rfl, Nat.le_of_ble_eq_true rfl⟩) rfl rfl [.int r9] rfl hl.1 rfl (Nat.le_of_ble_eq_true rfl) dX4_look_141 ⟨Nat.zero_le _, Nat.zero_le _⟩ ?_
          refine lv_icmp_ge (pc := 144) (tgt := 159) hx hb dX4_look_144 (by decide) (fun cc => ?_) (fun cc => ?_)
          · replace h := am_t cc h
            refine lv_iload_n (pc := 159) hx hb dX4_look_159 rfl (lv_at hl 0 rfl) ?_
            obtain ⟨e1, e2, e3, e4, e5, e6, e7, e8, e9, e10, e11, e12, e13, e14⟩ := am_ret14 h
            exact hret _ _ _ _ _ dX4_look_160 rfl e1 (by rw [← e2, ← e3, ← e4, ← e5, ← e6, ← e7, ← e8, ← e9, ← e10, ← e11, ← e12, ← e13, ← e14]; exact hP) hS
          replace h := am_f cc h
          refine lv_aload_n (pc := 147) hx hb dX4_look_147 rfl (lv_at hl 1 rfl) ?_
          obtain ⟨r11, u12, u13, u14, f15, f16, f17, f18, u19, f20, u21, f22, f23, hc23, h⟩ := am_call13_s h
          refine kc_Wi (pc := 148) (ci := 4) ⟨hx, hb, hml, hown, hts⟩ hP hK hD hS hA [] (c_X4_renew l D cI cJ self lself lplself lpla lpaself lpaa logself loga ldrself ldra lspself lspa lscself lsca wself wa sself sa cself ca cb noi x8 res lmany lgens lplf lpaf logf ldrf lspf lscf wmany f6 sf cnoi canc crst r11 u12 u13 u14 f15 f16 f17 f18 u19 f20 u21 f22 f23 hc23 _) [0, 1, 2, 3, 4, 5, 6, 7, 8, 9, 10, 11, 12, 13, 14, 15, 16, 17, 18, 19, 20] rfl rfl rfl (cwV 0 hts (gzV wl386 wl387 wl388 wl18 wl389) rfl rfl rfl ⟨rfl, hdX4_renew⟩ ⟨Nat.le_of_ble_eq_true rfl, Nat.le_of_ble_eq_true rfl⟩) rfl rfl [] rfl hl.1 rfl (Nat.le_of_ble_eq_true rfl) dX4_look_148 ⟨Nat.zero_le _, Nat.zero_le _⟩ (fun H locs hP hD hS => ?_)
          replace hP : va_P D vwCl [(self, .inr (4, [.ref lself, .ref wself, .ref sself, .ref cself, .int u12, .int x8, .int u13])), (lself, .inr (1, [.ref lplself, .ref lpaself, .ref logself, .ref ldrself, .ref lspself, .ref lscself, .int lmany, .int u14])), (lplself, .inr (2, [.ref lpla])), (lpla, .inl (cI, 240, .inl f15)), (lpaself, .inr (2, [.ref lpaa])), (lpaa, .inl (cI, 240, .inl f16)), (logself, .inr (2, [.ref loga])), (loga, .inl (cI, 20, .inl f17)), (ldrself, .inr (2, [.ref ldra])), (ldra, .inl (cI, 20, .inl ldrf)), (lspself, .inr (2, [.ref lspa])), (lspa, .inl (cI, 20, .inl lspf)), (lscself, .inr (2, [.ref lsca])), (lsca, .inl (cI, 20, .inl f18)), (wself, .inr (5, [.ref wa, .int u19])), (wa, .inl (cI, 12, .inl f20)), (sself, .inr (2, [.ref sa])), (sa, .inl (cI, 3, .inl sf)), (cself, .inr (0, [.ref ca, .ref cb, .int u21])), (ca, .inl (cI, 12, .inl f22)), (cb, .inl (cJ, 12, .inr (.inl f23)))] H := hP
          replace hD : va_D A [(self, .inr (4, [.ref lself, .ref wself, .ref sself, .ref cself, .int u12, .int x8, .int u13])), (lself, .inr (1, [.ref lplself, .ref lpaself, .ref logself, .ref ldrself, .ref lspself, .ref lscself, .int lmany, .int u14])), (lplself, .inr (2, [.ref lpla])), (lpla, .inl (cI, 240, .inl f15)), (lpaself, .inr (2, [.ref lpaa])), (lpaa, .inl (cI, 240, .inl f16)), (logself, .inr (2, [.ref loga])), (loga, .inl (cI, 20, .inl f17)), (ldrself, .inr (2, [.ref ldra])), (ldra, .inl (cI, 20, .inl ldrf)), (lspself, .inr (2, [.ref lspa])), (lspa, .inl (cI, 20, .inl lspf)), (lscself, .inr (2, [.ref lsca])), (lsca, .inl (cI, 20, .inl f18)), (wself, .inr (5, [.ref wa, .int u19])), (wa, .inl (cI, 12, .inl f20)), (sself, .inr (2, [.ref sa])), (sa, .inl (cI, 3, .inl sf)), (cself, .inr (0, [.ref ca, .ref cb, .int u21])), (ca, .inl (cI, 12, .inl f22)), (cb, .inl (cJ, 12, .inr (.inl f23)))] := hD
          refine lv_ldc (pc := 151) hx hb hown hk354 dX4_look_151 ?_
          refine lv_icmp_ne (pc := 153) (tgt := 159) hx hb dX4_look_153 (by decide) (fun cc => ?_) (fun cc => ?_)
          · replace h := am_f cc h
            refine lv_iload_n (pc := 159) hx hb dX4_look_159 rfl (lv_at hl 0 rfl) ?_
            obtain ⟨e1, e2, e3, e4, e5, e6, e7, e8, e9, e10, e11, e12, e13, e14⟩ := am_ret14 h
            exact hret _ _ _ _ _ dX4_look_160 rfl e1 (by rw [← e2, ← e3, ← e4, ← e5, ← e6, ← e7, ← e8, ← e9, ← e10, ← e11, ← e12, ← e13, ← e14]; exact hP) hS
          replace h := am_t cc h
          refine lv_ldc (pc := 156) hx hb hown hk354 dX4_look_156 ?_
          obtain ⟨e1, e2, e3, e4, e5, e6, e7, e8, e9, e10, e11, e12, e13, e14⟩ := am_ret14 h
          exact hret _ _ _ _ _ dX4_look_158 rfl e1 (by rw [← e2, ← e3, ← e4, ← e5, ← e6, ← e7, ← e8, ← e9, ← e10, ← e11, ← e12, ← e13, ← e14]; exact hP) hS
        replace h := am_f cc h
        refine lv_ldc (pc := 114) hx hb hown hk354 dX4_look_114 ?_
        obtain ⟨e1, e2, e3, e4, e5, e6, e7, e8, e9, e10, e11, e12, e13, e14⟩ := am_ret14 h
        exact hret _ _ _ _ _ dX4_look_116 rfl e1 (by rw [← e2, ← e3, ← e4, ← e5, ← e6, ← e7, ← e8, ← e9, ← e10, ← e11, ← e12, ← e13, ← e14]; exact hP) hS
      replace h := am_t cc h
      refine lv_ldc (pc := 99) hx hb hown hk333 dX4_look_99 ?_
      obtain ⟨e1, e2, e3, e4, e5, e6, e7, e8, e9, e10, e11, e12, e13, e14⟩ := am_ret14 h
      exact hret _ _ _ _ _ dX4_look_101 rfl e1 (by rw [← e2, ← e3, ← e4, ← e5, ← e6, ← e7, ← e8, ← e9, ← e10, ← e11, ← e12, ← e13, ← e14]; exact hP) hS
    refine am_loop2_s (fun (x24 : Int32) (f25 : Nat → Int32) => ∀ (ls : Array Slot), lv_has ls 5 [(0, .ref self), (1, .int p0), (2, .int p1), (3, .int x24)] → ∀ (H : Heap) (locs : List Loc), va_P D vwCl [(self, .inr (4, [.ref lself, .ref wself, .ref sself, .ref cself, .int noi, .int obs, .int res])), (lself, .inr (1, [.ref lplself, .ref lpaself, .ref logself, .ref ldrself, .ref lspself, .ref lscself, .int lmany, .int lgens])), (lplself, .inr (2, [.ref lpla])), (lpla, .inl (cI, 240, .inl lplf)), (lpaself, .inr (2, [.ref lpaa])), (lpaa, .inl (cI, 240, .inl lpaf)), (logself, .inr (2, [.ref loga])), (loga, .inl (cI, 20, .inl logf)), (ldrself, .inr (2, [.ref ldra])), (ldra, .inl (cI, 20, .inl ldrf)), (lspself, .inr (2, [.ref lspa])), (lspa, .inl (cI, 20, .inl lspf)), (lscself, .inr (2, [.ref lsca])), (lsca, .inl (cI, 20, .inl lscf)), (wself, .inr (5, [.ref wa, .int wmany])), (wa, .inl (cI, 12, .inl f25)), (sself, .inr (2, [.ref sa])), (sa, .inl (cI, 3, .inl sf)), (cself, .inr (0, [.ref ca, .ref cb, .int cnoi])), (ca, .inl (cI, 12, .inl canc)), (cb, .inl (cJ, 12, .inr (.inl crst)))] H → va_D A [(self, .inr (4, [.ref lself, .ref wself, .ref sself, .ref cself, .int noi, .int obs, .int res])), (lself, .inr (1, [.ref lplself, .ref lpaself, .ref logself, .ref ldrself, .ref lspself, .ref lscself, .int lmany, .int lgens])), (lplself, .inr (2, [.ref lpla])), (lpla, .inl (cI, 240, .inl lplf)), (lpaself, .inr (2, [.ref lpaa])), (lpaa, .inl (cI, 240, .inl lpaf)), (logself, .inr (2, [.ref loga])), (loga, .inl (cI, 20, .inl logf)), (ldrself, .inr (2, [.ref ldra])), (ldra, .inl (cI, 20, .inl ldrf)), (lspself, .inr (2, [.ref lspa])), (lspa, .inl (cI, 20, .inl lspf)), (lscself, .inr (2, [.ref lsca])), (lsca, .inl (cI, 20, .inl lscf)), (wself, .inr (5, [.ref wa, .int wmany])), (wa, .inl (cI, 12, .inl f25)), (sself, .inr (2, [.ref sa])), (sa, .inl (cI, 3, .inl sf)), (cself, .inr (0, [.ref ca, .ref cb, .int cnoi])), (ca, .inl (cI, 12, .inl canc)), (cb, .inl (cJ, 12, .inr (.inl crst)))] → va_S A s.heap H locs → W p l e rmX4_look s m args below meth c H locs 0 0 Q (F0 m 25 ls [])) (fun rec26 ihrec26 x24 f25 h ls hl H locs hP hD hS => ?_) _ _ _ h ls (lv_sub hl [1, 2, 3, 0] rfl) s.heap [] hP hD hS
    unfold F_X4_look_B25 at h
    refine lv_iload_n (pc := 25) hx hb dX4_look_25 rfl (lv_at hl 3 rfl) ?_
    refine lv_aload_n (pc := 26) hx hb dX4_look_26 rfl (lv_at hl 0 rfl) ?_
    refine va_get (pc := 27) (D := D) (ci := 4) (v := .ref lself) (C := RX4) (T := TX4) (N := 7) hx hb hts hnX4 hown hK.1 hP 0 rfl rfl 0 (Nat.le_of_ble_eq_true rfl) hk44 (fun _ h9 => h9) rfl dX4_look_27 ?_
    obtain ⟨r27, hc27, h⟩ := am_bind_s h
    refine kc_Vi (pc := 30) (ci := 1) ⟨hx, hb, hml, hown, hts⟩ hP hK [] (c_X1_many l D cI cJ lself lplself lpla lpaself lpaa logself loga ldrself ldra lspself lspa lscself lsca lmany lgens lplf lpaf logf ldrf lspf lscf r27 hc27) [1, 2, 3, 4, 5, 6, 7, 8, 9, 10, 11, 12, 13] rfl (cwV 0 hts (gzV wl147 wl148 wl149 wl43 wl150) rfl rfl rfl ⟨rfl, hdX1_many⟩ ⟨Nat.le_of_ble_eq_true rfl, Nat.le_of_ble_eq_true rfl⟩) rfl rfl [.int x24] rfl hl.1 rfl (Nat.le_of_ble_eq_true rfl) dX4_look_30 ⟨Nat.zero_le _, Nat.zero_le _⟩ ?_
    refine lv_icmp_ge (pc := 33) (tgt := 89) hx hb dX4_look_33 (by decide) (fun cc => ?_) (fun cc => ?_)
    · replace h := am_t cc h
      exact hK4 _ h ls (lv_sub hl [0] rfl) H locs hP hD hS
    replace h := am_f cc h
    refine lv_aload_n (pc := 36) hx hb dX4_look_36 rfl (lv_at hl 0 rfl) ?_
    refine va_get (pc := 37) (D := D) (ci := 4) (v := .ref lself) (C := RX4) (T := TX4) (N := 7) hx hb hts hnX4 hown hK.1 hP 0 rfl rfl 0 (Nat.le_of_ble_eq_true rfl) hk44 (fun _ h9 => h9) rfl dX4_look_37 ?_
    refine lv_aload_n (pc := 40) hx hb dX4_look_40 rfl (lv_at hl 0 rfl) ?_
    refine va_get (pc := 41) (D := D) (ci := 4) (v := .ref lself) (C := RX4) (T := TX4) (N := 7) hx hb hts hnX4 hown hK.1 hP 0 rfl rfl 0 (Nat.le_of_ble_eq_true rfl) hk44 (fun _ h9 => h9) rfl dX4_look_41 ?_
    obtain ⟨r28, hc28, h⟩ := am_bind_s h
    refine kc_Vi (pc := 44) (ci := 1) ⟨hx, hb, hml, hown, hts⟩ hP hK [] (c_X1_latest l D cI cJ lself lplself lpla lpaself lpaa logself loga ldrself ldra lspself lspa lscself lsca lmany lgens lplf lpaf logf ldrf lspf lscf r28 hc28) [1, 2, 3, 4, 5, 6, 7, 8, 9, 10, 11, 12, 13] rfl (cwV 0 hts (gzV wl159 wl160 wl161 wl43 wl162) rfl rfl rfl ⟨rfl, hdX1_latest⟩ ⟨Nat.le_of_ble_eq_true rfl, Nat.le_of_ble_eq_true rfl⟩) rfl rfl [.ref lself] rfl hl.1 rfl (Nat.le_of_ble_eq_true rfl) dX4_look_44 ⟨Nat.zero_le _, Nat.zero_le _⟩ ?_
    refine lv_iload_n (pc := 47) hx hb dX4_look_47 rfl (lv_at hl 3 rfl) ?_
    obtain ⟨r29, hc29, h⟩ := am_bind_s h
    refine kc_Vi (pc := 48) (ci := 1) ⟨hx, hb, hml, hown, hts⟩ hP hK [.int r28, .int x24] (c_X1_placeIn l D cI cJ lself lplself lpla lpaself lpaa logself loga ldrself ldra lspself lspa lscself lsca lmany lgens lplf lpaf logf ldrf lspf lscf r28 x24 r29 hc29) [1, 2, 3, 4, 5, 6, 7, 8, 9, 10, 11, 12, 13] rfl (cwV 2 hts (gzV wl163 wl164 wl165 wl43 wl166) rfl rfl rfl ⟨rfl, hdX1_placeIn⟩ ⟨Nat.le_of_ble_eq_true rfl, Nat.le_of_ble_eq_true rfl⟩) rfl rfl [] rfl hl.1 rfl (Nat.le_of_ble_eq_true rfl) dX4_look_48 ⟨Nat.zero_le _, Nat.zero_le _⟩ ?_
    refine lv_iload_n (pc := 51) hx hb dX4_look_51 rfl (lv_at hl 1 rfl) ?_
    refine lv_isub (pc := 52) hx hb dX4_look_52 ?_
    refine va_mabs hx hb (hml.trans hl.1.symm) (pc := 53) hown hk378 hk379 hk73 hk380 (Nat.le_of_ble_eq_true rfl) (Nat.le_of_ble_eq_true rfl) (Nat.zero_le _) (Nat.zero_le _) dX4_look_53 ?_
    refine lv_topi (fun x30 ex30 => ?_)
    replace h := am_let_s ex30 h
    refine lv_istore (lv' := [(4, .int x30), (0, .ref self), (1, .int p0), (2, .int p1), (3, .int x24)]) (pc := 56) hx hb dX4_look_56 hl (by decide) rfl (fun ls hl => ?_)
    refine lv_aload_n (pc := 58) hx hb dX4_look_58 rfl (lv_at hl 1 rfl) ?_
    refine va_get (pc := 59) (D := D) (ci := 4) (v := .ref wself) (C := RX4) (T := TX4) (N := 7) hx hb hts hnX4 hown hK.1 hP 0 rfl rfl 1 (Nat.le_of_ble_eq_true rfl) hk48 (fun _ h9 => h9) rfl dX4_look_59 ?_
    refine lv_iload_n (pc := 62) hx hb dX4_look_62 rfl (lv_at hl 4 rfl) ?_
    refine lv_aload_n (pc := 63) hx hb dX4_look_63 rfl (lv_at hl 1 rfl) ?_
    refine va_get (pc := 64) (D := D) (ci := 4) (v := .ref wself) (C := RX4) (T := TX4) (N := 7) hx hb hts hnX4 hown hK.1 hP 0 rfl rfl 1 (Nat.le_of_ble_eq_true rfl) hk48 (fun _ h9 => h9) rfl dX4_look_64 ?_
    refine lv_iload_n (pc := 67) hx hb dX4_look_67 rfl (lv_at hl 4 rfl) ?_
    obtain ⟨r31, hc31, h⟩ := am_bind_s h
    refine kc_Vi (pc := 68) (ci := 5) ⟨hx, hb, hml, hown, hts⟩ hP hK [.int x24] (c_X5_weightOf l D cI cJ wself wa wmany f25 x24 r31 hc31) [14, 15] rfl (cwV 1 hts (gzV wl171 wl172 wl173 wl47 wl174) rfl rfl rfl ⟨rfl, hdX5_weightOf⟩ ⟨Nat.le_of_ble_eq_true rfl, Nat.le_of_ble_eq_true rfl⟩) rfl rfl [.int x24, .ref wself] rfl hl.1 rfl (Nat.le_of_ble_eq_true rfl) dX4_look_68 ⟨Nat.zero_le _, Nat.zero_le _⟩ ?_
    refine lv_iconst (v := 0) (pc := 71) hx hb dX4_look_71 (by decide) ?_
    refine lv_iload_n (pc := 72) hx hb dX4_look_72 rfl (lv_at hl 3 rfl) ?_
    refine lv_iload (pc := 73) hx hb dX4_look_73 (lv_at hl 0 rfl) ?_
    refine lv_isub (pc := 75) hx hb dX4_look_75 ?_
    refine va_mmax hx hb (hml.trans hl.1.symm) (pc := 76) hown hk381 hk72 hk73 hk74 (Nat.le_of_ble_eq_true rfl) (Nat.le_of_ble_eq_true rfl) (Nat.zero_le _) (Nat.zero_le _) dX4_look_76 ?_
    refine lv_topi (fun x32 ex32 => ?_)
    replace h := am_let_s ex32 h
    refine lv_imul (pc := 79) hx hb dX4_look_79 ?_
    obtain ⟨f33, hc33, h⟩ := am_bind_s h
    refine kc_Wv (pc := 80) (ci := 5) ⟨hx, hb, hml, hown, hts⟩ hP hK hD hS hA [.int x24, .int (r31 * x32)] (c_X5_putWeight l D cI cJ wself wa wmany f25 x24 (r31 * x32) f33 hc33 _) [14, 15] rfl rfl rfl (cwV 2 hts (gzV wl335 wl336 wl337 wl47 wl338) rfl rfl rfl ⟨rfl, hdX5_putWeight⟩ ⟨Nat.le_of_ble_eq_true rfl, Nat.le_of_ble_eq_true rfl⟩) rfl rfl [] rfl hl.1 rfl (Nat.le_of_ble_eq_true rfl) dX4_look_80 ⟨Nat.zero_le _, Nat.zero_le _⟩ (fun H locs hP hD hS => ?_)
    replace hP : va_P D vwCl [(self, .inr (4, [.ref lself, .ref wself, .ref sself, .ref cself, .int noi, .int obs, .int res])), (lself, .inr (1, [.ref lplself, .ref lpaself, .ref logself, .ref ldrself, .ref lspself, .ref lscself, .int lmany, .int lgens])), (lplself, .inr (2, [.ref lpla])), (lpla, .inl (cI, 240, .inl lplf)), (lpaself, .inr (2, [.ref lpaa])), (lpaa, .inl (cI, 240, .inl lpaf)), (logself, .inr (2, [.ref loga])), (loga, .inl (cI, 20, .inl logf)), (ldrself, .inr (2, [.ref ldra])), (ldra, .inl (cI, 20, .inl ldrf)), (lspself, .inr (2, [.ref lspa])), (lspa, .inl (cI, 20, .inl lspf)), (lscself, .inr (2, [.ref lsca])), (lsca, .inl (cI, 20, .inl lscf)), (wself, .inr (5, [.ref wa, .int wmany])), (wa, .inl (cI, 12, .inl f33)), (sself, .inr (2, [.ref sa])), (sa, .inl (cI, 3, .inl sf)), (cself, .inr (0, [.ref ca, .ref cb, .int cnoi])), (ca, .inl (cI, 12, .inl canc)), (cb, .inl (cJ, 12, .inr (.inl crst)))] H := hP
    replace hD : va_D A [(self, .inr (4, [.ref lself, .ref wself, .ref sself, .ref cself, .int noi, .int obs, .int res])), (lself, .inr (1, [.ref lplself, .ref lpaself, .ref logself, .ref ldrself, .ref lspself, .ref lscself, .int lmany, .int lgens])), (lplself, .inr (2, [.ref lpla])), (lpla, .inl (cI, 240, .inl lplf)), (lpaself, .inr (2, [.ref lpaa])), (lpaa, .inl (cI, 240, .inl lpaf)), (logself, .inr (2, [.ref loga])), (loga, .inl (cI, 20, .inl logf)), (ldrself, .inr (2, [.ref ldra])), (ldra, .inl (cI, 20, .inl ldrf)), (lspself, .inr (2, [.ref lspa])), (lspa, .inl (cI, 20, .inl lspf)), (lscself, .inr (2, [.ref lsca])), (lsca, .inl (cI, 20, .inl lscf)), (wself, .inr (5, [.ref wa, .int wmany])), (wa, .inl (cI, 12, .inl f33)), (sself, .inr (2, [.ref sa])), (sa, .inl (cI, 3, .inl sf)), (cself, .inr (0, [.ref ca, .ref cb, .int cnoi])), (ca, .inl (cI, 12, .inl canc)), (cb, .inl (cJ, 12, .inr (.inl crst)))] := hD
    obtain ⟨x34, ex34⟩ : ∃ y : Int32, y = (x24 + (1 : Int32)) := ⟨_, rfl⟩
    replace h := am_let_s ex34 h
    refine lv_iinc (pc := 83) (v := x34) (lv' := [(3, .int x34), (4, .int x30), (0, .ref self), (1, .int p0), (2, .int p1)]) hx hb dX4_look_83 hl (k := 4) rfl (by rw [ex34]; rfl) (by decide) rfl (fun ls hl => ?_)
    refine lv_goto (pc := 86) (tgt := 25) hx hb dX4_look_86 (by decide) ?_
    exact ihrec26 _ _ h ls (lv_sub hl [2, 3, 4, 0] rfl) H locs hP hD hS
  replace h := am_t cc h
  refine lv_ldc (pc := 20) hx hb hown hk211 dX4_look_20 ?_
  obtain ⟨e1, e2, e3, e4, e5, e6, e7, e8, e9, e10, e11, e12, e13, e14⟩ := am_ret14 h
  exact hret _ _ _ _ _ dX4_look_22 rfl e1 (by rw [← e2, ← e3, ← e4, ← e5, ← e6, ← e7, ← e8, ← e9, ← e10, ← e11, ← e12, ← e13, ← e14]; exact hP) hS
theorem hdX4_greatestSetting : yX4_greatestSetting.cls ≠ "java/lang/invoke/MethodHandle" ∧ yX4_greatestSetting.cls ≠ "java/lang/invoke/VarHandle" ∧ (parseMethodDescriptor yX4_greatestSetting.desc).map (fun d => d.parameters.length) = some 1 := by decide +kernel
abbrev rmX4_greatestSetting : Room := { frames := 0, cells := 0, slots := 0, locals := 0 }
set_option maxHeartbeats 20000000 in
set_option maxRecDepth 100000 in
theorem c_X4_greatestSetting (l : Launch) (D : va_G) (cI cJ : ClassId)   (p0 : Int32) (r0 : Int32) (hF : F_X4_greatestSetting p0 = some r0) : Met l yX4_greatestSetting (wz yX4_greatestSetting cX4_greatestSetting 1 (some .int)) rmX4_greatestSetting (kPc D cI cJ [] [.int p0]) (vp_Si (fun r => r = r0)) 0 0 (fun _ => False) := by
  refine kM_ri cX4_greatestSetting 1 .int (by decide +kernel) rfl rfl (Nat.le_of_ble_eq_true rfl) ⟨rfl, rfl⟩ ?_
  intro p e s m args below meth c Q ls hx hb hml hown hts hP hK hl hret
  replace hl : lv_has ls 1 [(0, .int p0)] := hl
  have h := hF
  unfold F_X4_greatestSetting at h
  refine lv_iload_n (pc := 0) hx hb dX4_greatestSetting_0 rfl (lv_at hl 0 rfl) ?_
  by_cases cc : p0 = (0 : Int32)
  · replace h := am_t cc h
    refine lv_lookup (pc := 1) (tgt := 28) hx hb dX4_greatestSetting_1 rfl (by rw [cc] <;> rfl) (by decide) ?_
    refine lv_bipush (v := 12) (pc := 28) hx hb dX4_greatestSetting_28 (by decide) ?_
    obtain e1 := am_ret1 h
    exact hret _ _ _ dX4_greatestSetting_30 rfl e1
  replace h := am_f cc h
  have n0 := cc
  by_cases cc : p0 = (1 : Int32)
  · replace h := am_t cc h
    refine lv_lookup (pc := 1) (tgt := 31) hx hb dX4_greatestSetting_1 rfl (by rw [cc] <;> rfl) (by decide) ?_
    refine lv_iconst (v := 2) (pc := 31) hx hb dX4_greatestSetting_31 (by decide) ?_
    obtain e1 := am_ret1 h
    exact hret _ _ _ dX4_greatestSetting_32 rfl e1
  replace h := am_f cc h
  have n1 := cc
  refine lv_lookup (pc := 1) (tgt := 33) hx hb dX4_greatestSetting_1 rfl (am_look_X4_greatestSetting_1 n0 n1) (by decide) ?_
  refine lv_bipush (v := 99) (pc := 33) hx hb dX4_greatestSetting_33 (by decide) ?_
  obtain e1 := am_ret1 h
  exact hret _ _ _ dX4_greatestSetting_35 rfl e1
theorem hdX4_putSetting : yX4_putSetting.cls ≠ "java/lang/invoke/MethodHandle" ∧ yX4_putSetting.cls ≠ "java/lang/invoke/VarHandle" ∧ (parseMethodDescriptor yX4_putSetting.desc).map (fun d => d.parameters.length) = some 2 := by decide +kernel
abbrev rmX4_putSetting : Room := { frames := 1, cells := 0, slots := 0, locals := 22 }
set_option maxHeartbeats 20000000 in
set_option maxRecDepth 100000 in
theorem c_X4_putSetting (l : Launch) (D : va_G) (cI cJ : ClassId) (self : Nat) (ch : Nat) (lself : Nat) (lplself : Nat) (lpla : Nat) (lpaself : Nat) (lpaa : Nat) (logself : Nat) (loga : Nat) (ldrself : Nat) (ldra : Nat) (lspself : Nat) (lspa : Nat) (lscself : Nat) (lsca : Nat) (wself : Nat) (wa : Nat) (sself : Nat) (sa : Nat) (noi : Int32) (obs : Int32) (res : Int32) (lmany : Int32) (lgens : Int32) (lplf : Nat → Int32) (lpaf : Nat → Int32) (logf : Nat → Int32) (ldrf : Nat → Int32) (lspf : Nat → Int32) (lscf : Nat → Int32) (wmany : Int32) (wf : Nat → Int32) (sf : Nat → Int32) (p0 : Int32) (p1 : Int32) (r0 : Int32) (zsf : Nat → Int32) (hF : F_X4_putSetting sf p0 p1 = some (r0, zsf)) (sz : Nat) : Met l yX4_putSetting (wz yX4_putSetting cX4_putSetting 4 (some .int)) rmX4_putSetting (kPw D cI cJ [(self, .inr (4, [.ref lself, .ref wself, .ref sself, .ref ch, .int noi, .int obs, .int res])), (lself, .inr (1, [.ref lplself, .ref lpaself, .ref logself, .ref ldrself, .ref lspself, .ref lscself, .int lmany, .int lgens])), (lplself, .inr (2, [.ref lpla])), (lpla, .inl (cI, 240, .inl lplf)), (lpaself, .inr (2, [.ref lpaa])), (lpaa, .inl (cI, 240, .inl lpaf)), (logself, .inr (2, [.ref loga])), (loga, .inl (cI, 20, .inl logf)), (ldrself, .inr (2, [.ref ldra])), (ldra, .inl (cI, 20, .inl ldrf)), (lspself, .inr (2, [.ref lspa])), (lspa, .inl (cI, 20, .inl lspf)), (lscself, .inr (2, [.ref lsca])), (lsca, .inl (cI, 20, .inl lscf)), (wself, .inr (5, [.ref wa, .int wmany])), (wa, .inl (cI, 12, .inl wf)), (sself, .inr (2, [.ref sa])), (sa, .inl (cI, 3, .inl sf))] sz [.ref self, .int p0, .int p1]) (kQi D r0 [(self, .inr (4, [.ref lself, .ref wself, .ref sself, .ref ch, .int noi, .int obs, .int res])), (lself, .inr (1, [.ref lplself, .ref lpaself, .ref logself, .ref ldrself, .ref lspself, .ref lscself, .int lmany, .int lgens])), (lplself, .inr (2, [.ref lpla])), (lpla, .inl (cI, 240, .inl lplf)), (lpaself, .inr (2, [.ref lpaa])), (lpaa, .inl (cI, 240, .inl lpaf)), (logself, .inr (2, [.ref loga])), (loga, .inl (cI, 20, .inl logf)), (ldrself, .inr (2, [.ref ldra])), (ldra, .inl (cI, 20, .inl ldrf)), (lspself, .inr (2, [.ref lspa])), (lspa, .inl (cI, 20, .inl lspf)), (lscself, .inr (2, [.ref lsca])), (lsca, .inl (cI, 20, .inl lscf)), (wself, .inr (5, [.ref wa, .int wmany])), (wa, .inl (cI, 12, .inl wf)), (sself, .inr (2, [.ref sa])), (sa, .inl (cI, 3, .inl zsf))] (va_A [(self, .inr (4, [.ref lself, .ref wself, .ref sself, .ref ch, .int noi, .int obs, .int res])), (lself, .inr (1, [.ref lplself, .ref lpaself, .ref logself, .ref ldrself, .ref lspself, .ref lscself, .int lmany, .int lgens])), (lplself, .inr (2, [.ref lpla])), (lpla, .inl (cI, 240, .inl lplf)), (lpaself, .inr (2, [.ref lpaa])), (lpaa, .inl (cI, 240, .inl lpaf)), (logself, .inr (2, [.ref loga])), (loga, .inl (cI, 20, .inl logf)), (ldrself, .inr (2, [.ref ldra])), (ldra, .inl (cI, 20, .inl ldrf)), (lspself, .inr (2, [.ref lspa])), (lspa, .inl (cI, 20, .inl lspf)), (lscself, .inr (2, [.ref lsca])), (lsca, .inl (cI, 20, .inl lscf)), (wself, .inr (5, [.ref wa, .int wmany])), (wa, .inl (cI, 12, .inl wf)), (sself, .inr (2, [.ref sa])), (sa, .inl (cI, 3, .inl sf))] sz)) 0 0 (va_A [(self, .inr (4, [.ref lself, .ref wself, .ref sself, .ref ch, .int noi, .int obs, .int res])), (lself, .inr (1, [.ref lplself, .ref lpaself, .ref logself, .ref ldrself, .ref lspself, .ref lscself, .int lmany, .int lgens])), (lplself, .inr (2, [.ref lpla])), (lpla, .inl (cI, 240, .inl lplf)), (lpaself, .inr (2, [.ref lpaa])), (lpaa, .inl (cI, 240, .inl lpaf)), (logself, .inr (2, [.ref loga])), (loga, .inl (cI, 20, .inl logf)), (ldrself, .inr (2, [.ref ldra])), (ldra, .inl (cI, 20, .inl ldrf)), (lspself, .inr (2, [.ref lspa])), (lspa, .inl (cI, 20, .inl lspf)), (lscself, .inr (2, [.ref lsca])), (lsca, .inl (cI, 20, .inl lscf)), (wself, .inr (5, [.ref wa, .int wmany])), (wa, .inl (cI, 12, .inl wf)), (sself, .inr (2, [.ref sa])), (sa, .inl (cI, 3, .inl sf))] sz) := by
  refine kM_wi cX4_putSetting 4 .int (by decide +kernel) rfl rfl (Nat.le_of_ble_eq_true rfl) ⟨rfl, rfl⟩ ?_
  intro p e s m args below meth c Q A ls hx hb hml hown hts hP hK hD hA hS hl hret
  have hk151 := hts _ (List.mem_cons_of_mem _ wl151)
  have hk2 := hts _ (List.mem_cons_of_mem _ wl2)
  have hk211 := hts _ (List.mem_cons_of_mem _ wl211)
  have hk52 := hts _ (List.mem_cons_of_mem _ wl52)
  have hnX4 : ∀ w ∈ u_ws RX4 TX4 7, w ∈ wz yX4_putSetting cX4_putSetting 4 (some .int) := fun w h => List.mem_cons_of_mem _ (inlX4 w h)
  replace hl : lv_has ls 4 [(0, .ref self), (1, .int p0), (2, .int p1)] := hl
  have h := hF
  unfold F_X4_putSetting at h
  refine lv_iload_n (pc := 0) hx hb dX4_putSetting_0 rfl (lv_at hl 1 rfl) ?_
  refine lv_iconst (v := 0) (pc := 1) hx hb dX4_putSetting_1 (by decide) ?_
  refine lv_iconst (v := 2) (pc := 2) hx hb dX4_putSetting_2 (by decide) ?_
  obtain ⟨r1, hc1, h⟩ := am_bind_s h
  refine kc_Ni (pc := 3) ⟨hx, hb, hml, hown, hts⟩ hP hK [.int p0, .int (0 : Int32), .int (2 : Int32)] (c_X6_isWithin l D cI cJ p0 (0 : Int32) (2 : Int32) r1 hc1) [] rfl ⟨va_cnB 3 hts (gzN wl152) rfl rfl rfl hK.2.2.1 hk2 hdX6_isWithin ⟨Nat.le_of_ble_eq_true rfl, Nat.le_of_ble_eq_true rfl⟩, hk151, trivial⟩ [] rfl hl.1 rfl (Nat.le_of_ble_eq_true rfl) dX4_putSetting_3 ⟨Nat.zero_le _, Nat.zero_le _⟩ ?_
  refine lv_if_eq (pc := 6) (tgt := 21) hx hb dX4_putSetting_6 (by decide) (fun cc => ?_) (fun cc => ?_)
  · replace h := am_t cc h
    refine lv_ldc (pc := 21) hx hb hown hk211 dX4_putSetting_21 ?_
    obtain ⟨e1, e2⟩ := am_ret2 h
    exact hret _ _ _ _ _ dX4_putSetting_23 rfl e1 (by rw [← e2]; exact hP) hS
  replace h := am_f cc h
  refine lv_iload_n (pc := 9) hx hb dX4_putSetting_9 rfl (lv_at hl 2 rfl) ?_
  refine lv_iconst (v := 0) (pc := 10) hx hb dX4_putSetting_10 (by decide) ?_
  refine lv_iload_n (pc := 11) hx hb dX4_putSetting_11 rfl (lv_at hl 1 rfl) ?_
  obtain ⟨r2, hc2, h⟩ := am_bind_s h
  refine kc_Si (pc := 12) ⟨hx, hb, hml, hown, hts⟩ hP hK [.int p0] (c_X4_greatestSetting l D cI cJ p0 r2 hc2) [] rfl (cwS 1 hts (gzS wl452 wl453 wl18 wl454) rfl rfl rfl ⟨rfl, hdX4_greatestSetting⟩ ⟨Nat.le_of_ble_eq_true rfl, Nat.le_of_ble_eq_true rfl⟩) [.int (0 : Int32), .int p1] rfl hl.1 rfl (Nat.le_of_ble_eq_true rfl) dX4_putSetting_12 ⟨Nat.zero_le _, Nat.zero_le _⟩ ?_
  obtain ⟨r3, hc3, h⟩ := am_bind_s h
  refine kc_Ni (pc := 15) ⟨hx, hb, hml, hown, hts⟩ hP hK [.int p1, .int (0 : Int32), .int r2] (c_X6_isWithin l D cI cJ p1 (0 : Int32) r2 r3 hc3) [] rfl ⟨va_cnB 3 hts (gzN wl152) rfl rfl rfl hK.2.2.1 hk2 hdX6_isWithin ⟨Nat.le_of_ble_eq_true rfl, Nat.le_of_ble_eq_true rfl⟩, hk151, trivial⟩ [] rfl hl.1 rfl (Nat.le_of_ble_eq_true rfl) dX4_putSetting_15 ⟨Nat.zero_le _, Nat.zero_le _⟩ ?_
  refine lv_if_ne (pc := 18) (tgt := 24) hx hb dX4_putSetting_18 (by decide) (fun cc => ?_) (fun cc => ?_)
  · replace h := am_f cc h
    refine lv_aload_n (pc := 24) hx hb dX4_putSetting_24 rfl (lv_at hl 0 rfl) ?_
    refine va_get (pc := 25) (D := D) (ci := 4) (v := .ref sself) (C := RX4) (T := TX4) (N := 7) hx hb hts hnX4 hown hK.1 hP 0 rfl rfl 2 (Nat.le_of_ble_eq_true rfl) hk52 (fun _ h9 => h9) rfl dX4_putSetting_25 ?_
    refine lv_iload_n (pc := 28) hx hb dX4_putSetting_28 rfl (lv_at hl 1 rfl) ?_
    obtain ⟨r4, hc4, h⟩ := am_bind_s h
    refine kc_Vi (pc := 29) (ci := 2) ⟨hx, hb, hml, hown, hts⟩ hP hK [.int p0] (c_X2_at l D cI cJ sself sa 3 sf p0 r4 hc4) [16, 17] rfl (cwV 1 hts (gzV wl232 wl168 wl169 wl51 wl170) rfl rfl rfl ⟨rfl, hdX2_at⟩ ⟨Nat.le_of_ble_eq_true rfl, Nat.le_of_ble_eq_true rfl⟩) rfl rfl [] rfl hl.1 rfl (Nat.le_of_ble_eq_true rfl) dX4_putSetting_29 ⟨Nat.zero_le _, Nat.zero_le _⟩ ?_
    refine lv_istore_n (lv' := [(3, .int r4), (0, .ref self), (1, .int p0), (2, .int p1)]) (pc := 32) hx hb dX4_putSetting_32 rfl hl (by decide) rfl (fun ls hl => ?_)
    refine lv_aload_n (pc := 33) hx hb dX4_putSetting_33 rfl (lv_at hl 1 rfl) ?_
    refine va_get (pc := 34) (D := D) (ci := 4) (v := .ref sself) (C := RX4) (T := TX4) (N := 7) hx hb hts hnX4 hown hK.1 hP 0 rfl rfl 2 (Nat.le_of_ble_eq_true rfl) hk52 (fun _ h9 => h9) rfl dX4_putSetting_34 ?_
    refine lv_iload_n (pc := 37) hx hb dX4_putSetting_37 rfl (lv_at hl 2 rfl) ?_
    refine lv_iload_n (pc := 38) hx hb dX4_putSetting_38 rfl (lv_at hl 3 rfl) ?_
    obtain ⟨f5, hc5, h⟩ := am_bind_s h
    refine kc_Wv (pc := 39) (ci := 2) ⟨hx, hb, hml, hown, hts⟩ hP hK hD hS hA [.int p0, .int p1] (c_X2_put l D cI cJ sself sa 3 sf p0 p1 f5 hc5 _) [16, 17] rfl rfl rfl (cwV 2 hts (gzV wl83 wl84 wl85 wl51 wl86) rfl rfl rfl ⟨rfl, hdX2_put⟩ ⟨Nat.le_of_ble_eq_true rfl, Nat.le_of_ble_eq_true rfl⟩) rfl rfl [] rfl hl.1 rfl (Nat.le_of_ble_eq_true rfl) dX4_putSetting_39 ⟨Nat.zero_le _, Nat.zero_le _⟩ (fun H locs hP hD hS => ?_)
    replace hP : va_P D vwCl [(self, .inr (4, [.ref lself, .ref wself, .ref sself, .ref ch, .int noi, .int obs, .int res])), (lself, .inr (1, [.ref lplself, .ref lpaself, .ref logself, .ref ldrself, .ref lspself, .ref lscself, .int lmany, .int lgens])), (lplself, .inr (2, [.ref lpla])), (lpla, .inl (cI, 240, .inl lplf)), (lpaself, .inr (2, [.ref lpaa])), (lpaa, .inl (cI, 240, .inl lpaf)), (logself, .inr (2, [.ref loga])), (loga, .inl (cI, 20, .inl logf)), (ldrself, .inr (2, [.ref ldra])), (ldra, .inl (cI, 20, .inl ldrf)), (lspself, .inr (2, [.ref lspa])), (lspa, .inl (cI, 20, .inl lspf)), (lscself, .inr (2, [.ref lsca])), (lsca, .inl (cI, 20, .inl lscf)), (wself, .inr (5, [.ref wa, .int wmany])), (wa, .inl (cI, 12, .inl wf)), (sself, .inr (2, [.ref sa])), (sa, .inl (cI, 3, .inl f5))] H := hP
    replace hD : va_D A [(self, .inr (4, [.ref lself, .ref wself, .ref sself, .ref ch, .int noi, .int obs, .int res])), (lself, .inr (1, [.ref lplself, .ref lpaself, .ref logself, .ref ldrself, .ref lspself, .ref lscself, .int lmany, .int lgens])), (lplself, .inr (2, [.ref lpla])), (lpla, .inl (cI, 240, .inl lplf)), (lpaself, .inr (2, [.ref lpaa])), (lpaa, .inl (cI, 240, .inl lpaf)), (logself, .inr (2, [.ref loga])), (loga, .inl (cI, 20, .inl logf)), (ldrself, .inr (2, [.ref ldra])), (ldra, .inl (cI, 20, .inl ldrf)), (lspself, .inr (2, [.ref lspa])), (lspa, .inl (cI, 20, .inl lspf)), (lscself, .inr (2, [.ref lsca])), (lsca, .inl (cI, 20, .inl lscf)), (wself, .inr (5, [.ref wa, .int wmany])), (wa, .inl (cI, 12, .inl wf)), (sself, .inr (2, [.ref sa])), (sa, .inl (cI, 3, .inl f5))] := hD
    refine lv_iload_n (pc := 42) hx hb dX4_putSetting_42 rfl (lv_at hl 0 rfl) ?_
    obtain ⟨e1, e2⟩ := am_ret2 h
    exact hret _ _ _ _ _ dX4_putSetting_43 rfl e1 (by rw [← e2]; exact hP) hS
  replace h := am_t cc h
  refine lv_ldc (pc := 21) hx hb hown hk211 dX4_putSetting_21 ?_
  obtain ⟨e1, e2⟩ := am_ret2 h
  exact hret _ _ _ _ _ dX4_putSetting_23 rfl e1 (by rw [← e2]; exact hP) hS
theorem hdX4_hasGeneration : yX4_hasGeneration.cls ≠ "java/lang/invoke/MethodHandle" ∧ yX4_hasGeneration.cls ≠ "java/lang/invoke/VarHandle" ∧ (parseMethodDescriptor yX4_hasGeneration.desc).map (fun d => d.parameters.length) = some 1 := by decide +kernel
abbrev rmX4_hasGeneration : Room := { frames := 1, cells := 0, slots := 0, locals := 22 }
set_option maxHeartbeats 20000000 in
set_option maxRecDepth 100000 in
theorem c_X4_hasGeneration (l : Launch) (D : va_G) (cI cJ : ClassId) (self : Nat) (ch : Nat) (lself : Nat) (lplself : Nat) (lpla : Nat) (lpaself : Nat) (lpaa : Nat) (logself : Nat) (loga : Nat) (ldrself : Nat) (ldra : Nat) (lspself : Nat) (lspa : Nat) (lscself : Nat) (lsca : Nat) (wself : Nat) (wa : Nat) (sself : Nat) (sa : Nat) (noi : Int32) (obs : Int32) (res : Int32) (lmany : Int32) (lgens : Int32) (lplf : Nat → Int32) (lpaf : Nat → Int32) (logf : Nat → Int32) (ldrf : Nat → Int32) (lspf : Nat → Int32) (lscf : Nat → Int32) (wmany : Int32) (wf : Nat → Int32) (sf : Nat → Int32) (p0 : Int32) (r0 : Int32) (hF : F_X4_hasGeneration lgens p0 = some r0) : Met l yX4_hasGeneration (wz yX4_hasGeneration cX4_hasGeneration 2 (some .boolean)) rmX4_hasGeneration (kPc D cI cJ [(self, .inr (4, [.ref lself, .ref wself, .ref sself, .ref ch, .int noi, .int obs, .int res])), (lself, .inr (1, [.ref lplself, .ref lpaself, .ref logself, .ref ldrself, .ref lspself, .ref lscself, .int lmany, .int lgens])), (lplself, .inr (2, [.ref lpla])), (lpla, .inl (cI, 240, .inl lplf)), (lpaself, .inr (2, [.ref lpaa])), (lpaa, .inl (cI, 240, .inl lpaf)), (logself, .inr (2, [.ref loga])), (loga, .inl (cI, 20, .inl logf)), (ldrself, .inr (2, [.ref ldra])), (ldra, .inl (cI, 20, .inl ldrf)), (lspself, .inr (2, [.ref lspa])), (lspa, .inl (cI, 20, .inl lspf)), (lscself, .inr (2, [.ref lsca])), (lsca, .inl (cI, 20, .inl lscf)), (wself, .inr (5, [.ref wa, .int wmany])), (wa, .inl (cI, 12, .inl wf)), (sself, .inr (2, [.ref sa])), (sa, .inl (cI, 3, .inl sf))] [.ref self, .int p0]) (vp_Si (fun r => r = r0)) 0 0 (fun _ => False) := by
  refine kM_ri cX4_hasGeneration 2 .boolean (by decide +kernel) rfl rfl (Nat.le_of_ble_eq_true rfl) ⟨rfl, rfl⟩ ?_
  intro p e s m args below meth c Q ls hx hb hml hown hts hP hK hl hret
  have hk151 := hts _ (List.mem_cons_of_mem _ wl151)
  have hk2 := hts _ (List.mem_cons_of_mem _ wl2)
  have hk44 := hts _ (List.mem_cons_of_mem _ wl44)
  have hnX4 : ∀ w ∈ u_ws RX4 TX4 7, w ∈ wz yX4_hasGeneration cX4_hasGeneration 2 (some .boolean) := fun w h => List.mem_cons_of_mem _ (inlX4 w h)
  replace hl : lv_has ls 2 [(0, .ref self), (1, .int p0)] := hl
  have h := hF
  unfold F_X4_hasGeneration at h
  refine lv_iload_n (pc := 0) hx hb dX4_hasGeneration_0 rfl (lv_at hl 1 rfl) ?_
  refine lv_iconst (v := 0) (pc := 1) hx hb dX4_hasGeneration_1 (by decide) ?_
  refine lv_aload_n (pc := 2) hx hb dX4_hasGeneration_2 rfl (lv_at hl 0 rfl) ?_
  refine va_get (pc := 3) (D := D) (ci := 4) (v := .ref lself) (C := RX4) (T := TX4) (N := 7) hx hb hts hnX4 hown hK.1 hP 0 rfl rfl 0 (Nat.le_of_ble_eq_true rfl) hk44 (fun _ h9 => h9) rfl dX4_hasGeneration_3 ?_
  obtain ⟨r1, hc1, h⟩ := am_bind_s h
  refine kc_Vi (pc := 6) (ci := 1) ⟨hx, hb, hml, hown, hts⟩ hP hK [] (c_X1_latest l D cI cJ lself lplself lpla lpaself lpaa logself loga ldrself ldra lspself lspa lscself lsca lmany lgens lplf lpaf logf ldrf lspf lscf r1 hc1) [1, 2, 3, 4, 5, 6, 7, 8, 9, 10, 11, 12, 13] rfl (cwV 0 hts (gzV wl159 wl160 wl161 wl43 wl162) rfl rfl rfl ⟨rfl, hdX1_latest⟩ ⟨Nat.le_of_ble_eq_true rfl, Nat.le_of_ble_eq_true rfl⟩) rfl rfl [.int (0 : Int32), .int p0] rfl hl.1 rfl (Nat.le_of_ble_eq_true rfl) dX4_hasGeneration_6 ⟨Nat.zero_le _, Nat.zero_le _⟩ ?_
  obtain ⟨r2, hc2, h⟩ := am_bind_s h
  refine kc_Ni (pc := 9) ⟨hx, hb, hml, hown, hts⟩ hP hK [.int p0, .int (0 : Int32), .int r1] (c_X6_isWithin l D cI cJ p0 (0 : Int32) r1 r2 hc2) [] rfl ⟨va_cnB 3 hts (gzN wl152) rfl rfl rfl hK.2.2.1 hk2 hdX6_isWithin ⟨Nat.le_of_ble_eq_true rfl, Nat.le_of_ble_eq_true rfl⟩, hk151, trivial⟩ [] rfl hl.1 rfl (Nat.le_of_ble_eq_true rfl) dX4_hasGeneration_9 ⟨Nat.zero_le _, Nat.zero_le _⟩ ?_
  obtain ⟨hbo, h⟩ := am_bool_s h
  obtain e1 := am_ret1 h
  exact hret _ _ _ dX4_hasGeneration_12 (am_bool_n hbo) e1
theorem hdX4_tellOfParticle : yX4_tellOfParticle.cls ≠ "java/lang/invoke/MethodHandle" ∧ yX4_tellOfParticle.cls ≠ "java/lang/invoke/VarHandle" ∧ (parseMethodDescriptor yX4_tellOfParticle.desc).map (fun d => d.parameters.length) = some 2 := by decide +kernel
abbrev rmX4_tellOfParticle : Room := { frames := 3, cells := 0, slots := 0, locals := 67 }
set_option maxHeartbeats 20000000 in
set_option maxRecDepth 100000 in
theorem c_X4_tellOfParticle (l : Launch) (D : va_G) (cI cJ : ClassId) (self : Nat) (ch : Nat) (lself : Nat) (lplself : Nat) (lpla : Nat) (lpaself : Nat) (lpaa : Nat) (logself : Nat) (loga : Nat) (ldrself : Nat) (ldra : Nat) (lspself : Nat) (lspa : Nat) (lscself : Nat) (lsca : Nat) (wself : Nat) (wa : Nat) (sself : Nat) (sa : Nat) (noi : Int32) (obs : Int32) (res : Int32) (lmany : Int32) (lgens : Int32) (lplf : Nat → Int32) (lpaf : Nat → Int32) (logf : Nat → Int32) (ldrf : Nat → Int32) (lspf : Nat → Int32) (lscf : Nat → Int32) (wmany : Int32) (wf : Nat → Int32) (sf : Nat → Int32) (p0 : Int32) (p1 : Int32) (r0 : Int32) (hF : F_X4_tellOfParticle lmany lgens lplf lpaf wmany wf p0 p1 = some r0) : Met l yX4_tellOfParticle (wz yX4_tellOfParticle cX4_tellOfParticle 6 (some .int)) rmX4_tellOfParticle (kPc D cI cJ [(self, .inr (4, [.ref lself, .ref wself, .ref sself, .ref ch, .int noi, .int obs, .int res])), (lself, .inr (1, [.ref lplself, .ref lpaself, .ref logself, .ref ldrself, .ref lspself, .ref lscself, .int lmany, .int lgens])), (lplself, .inr (2, [.ref lpla])), (lpla, .inl (cI, 240, .inl lplf)), (lpaself, .inr (2, [.ref lpaa])), (lpaa, .inl (cI, 240, .inl lpaf)), (logself, .inr (2, [.ref loga])), (loga, .inl (cI, 20, .inl logf)), (ldrself, .inr (2, [.ref ldra])), (ldra, .inl (cI, 20, .inl ldrf)), (lspself, .inr (2, [.ref lspa])), (lspa, .inl (cI, 20, .inl lspf)), (lscself, .inr (2, [.ref lsca])), (lsca, .inl (cI, 20, .inl lscf)), (wself, .inr (5, [.ref wa, .int wmany])), (wa, .inl (cI, 12, .inl wf)), (sself, .inr (2, [.ref sa])), (sa, .inl (cI, 3, .inl sf))] [.ref self, .int p0, .int p1]) (vp_Si (fun r => r = r0)) 0 0 (fun _ => False) := by
  refine kM_ri cX4_tellOfParticle 6 .int (by decide +kernel) rfl rfl (Nat.le_of_ble_eq_true rfl) ⟨rfl, rfl⟩ ?_
  intro p e s m args below meth c Q ls hx hb hml hown hts hP hK hl hret
  have hk158 := hts _ (List.mem_cons_of_mem _ wl158)
  have hk188 := hts _ (List.mem_cons_of_mem _ wl188)
  have hk2 := hts _ (List.mem_cons_of_mem _ wl2)
  have hk44 := hts _ (List.mem_cons_of_mem _ wl44)
  have hk48 := hts _ (List.mem_cons_of_mem _ wl48)
  have hnX4 : ∀ w ∈ u_ws RX4 TX4 7, w ∈ wz yX4_tellOfParticle cX4_tellOfParticle 6 (some .int) := fun w h => List.mem_cons_of_mem _ (inlX4 w h)
  replace hl : lv_has ls 6 [(0, .ref self), (1, .int p0), (2, .int p1)] := hl
  have h := hF
  unfold F_X4_tellOfParticle at h
  refine lv_aload_n (pc := 0) hx hb dX4_tellOfParticle_0 rfl (lv_at hl 0 rfl) ?_
  refine va_get (pc := 1) (D := D) (ci := 4) (v := .ref lself) (C := RX4) (T := TX4) (N := 7) hx hb hts hnX4 hown hK.1 hP 0 rfl rfl 0 (Nat.le_of_ble_eq_true rfl) hk44 (fun _ h9 => h9) rfl dX4_tellOfParticle_1 ?_
  obtain ⟨r1, hc1, h⟩ := am_bind_s h
  refine kc_Vi (pc := 4) (ci := 1) ⟨hx, hb, hml, hown, hts⟩ hP hK [] (c_X1_latest l D cI cJ lself lplself lpla lpaself lpaa logself loga ldrself ldra lspself lspa lscself lsca lmany lgens lplf lpaf logf ldrf lspf lscf r1 hc1) [1, 2, 3, 4, 5, 6, 7, 8, 9, 10, 11, 12, 13] rfl (cwV 0 hts (gzV wl159 wl160 wl161 wl43 wl162) rfl rfl rfl ⟨rfl, hdX1_latest⟩ ⟨Nat.le_of_ble_eq_true rfl, Nat.le_of_ble_eq_true rfl⟩) rfl rfl [] rfl hl.1 rfl (Nat.le_of_ble_eq_true rfl) dX4_tellOfParticle_4 ⟨Nat.zero_le _, Nat.zero_le _⟩ ?_
  refine lv_istore_n (lv' := [(3, .int r1), (0, .ref self), (1, .int p0), (2, .int p1)]) (pc := 7) hx hb dX4_tellOfParticle_7 rfl hl (by decide) rfl (fun ls hl => ?_)
  refine lv_aload_n (pc := 8) hx hb dX4_tellOfParticle_8 rfl (lv_at hl 1 rfl) ?_
  refine va_get (pc := 9) (D := D) (ci := 4) (v := .ref lself) (C := RX4) (T := TX4) (N := 7) hx hb hts hnX4 hown hK.1 hP 0 rfl rfl 0 (Nat.le_of_ble_eq_true rfl) hk44 (fun _ h9 => h9) rfl dX4_tellOfParticle_9 ?_
  refine lv_iload_n (pc := 12) hx hb dX4_tellOfParticle_12 rfl (lv_at hl 0 rfl) ?_
  refine lv_iload_n (pc := 13) hx hb dX4_tellOfParticle_13 rfl (lv_at hl 2 rfl) ?_
  obtain ⟨r2, hc2, h⟩ := am_bind_s h
  refine kc_Vi (pc := 14) (ci := 1) ⟨hx, hb, hml, hown, hts⟩ hP hK [.int r1, .int p0] (c_X1_placeIn l D cI cJ lself lplself lpla lpaself lpaa logself loga ldrself ldra lspself lspa lscself lsca lmany lgens lplf lpaf logf ldrf lspf lscf r1 p0 r2 hc2) [1, 2, 3, 4, 5, 6, 7, 8, 9, 10, 11, 12, 13] rfl (cwV 2 hts (gzV wl163 wl164 wl165 wl43 wl166) rfl rfl rfl ⟨rfl, hdX1_placeIn⟩ ⟨Nat.le_of_ble_eq_true rfl, Nat.le_of_ble_eq_true rfl⟩) rfl rfl [] rfl hl.1 rfl (Nat.le_of_ble_eq_true rfl) dX4_tellOfParticle_14 ⟨Nat.zero_le _, Nat.zero_le _⟩ ?_
  refine lv_istore (lv' := [(4, .int r2), (3, .int r1), (0, .ref self), (1, .int p0), (2, .int p1)]) (pc := 17) hx hb dX4_tellOfParticle_17 hl (by decide) rfl (fun ls hl => ?_)
  refine lv_aload_n (pc := 19) hx hb dX4_tellOfParticle_19 rfl (lv_at hl 2 rfl) ?_
  refine va_get (pc := 20) (D := D) (ci := 4) (v := .ref wself) (C := RX4) (T := TX4) (N := 7) hx hb hts hnX4 hown hK.1 hP 0 rfl rfl 1 (Nat.le_of_ble_eq_true rfl) hk48 (fun _ h9 => h9) rfl dX4_tellOfParticle_20 ?_
  refine lv_iload_n (pc := 23) hx hb dX4_tellOfParticle_23 rfl (lv_at hl 3 rfl) ?_
  obtain ⟨r3, hc3, h⟩ := am_bind_s h
  refine kc_Vi (pc := 24) (ci := 5) ⟨hx, hb, hml, hown, hts⟩ hP hK [.int p0] (c_X5_weightOf l D cI cJ wself wa wmany wf p0 r3 hc3) [14, 15] rfl (cwV 1 hts (gzV wl171 wl172 wl173 wl47 wl174) rfl rfl rfl ⟨rfl, hdX5_weightOf⟩ ⟨Nat.le_of_ble_eq_true rfl, Nat.le_of_ble_eq_true rfl⟩) rfl rfl [] rfl hl.1 rfl (Nat.le_of_ble_eq_true rfl) dX4_tellOfParticle_24 ⟨Nat.zero_le _, Nat.zero_le _⟩ ?_
  refine lv_istore (lv' := [(5, .int r3), (4, .int r2), (3, .int r1), (0, .ref self), (1, .int p0), (2, .int p1)]) (pc := 27) hx hb dX4_tellOfParticle_27 hl (by decide) rfl (fun ls hl => ?_)
  refine lv_iload_n (pc := 29) hx hb dX4_tellOfParticle_29 rfl (lv_at hl 5 rfl) ?_
  by_cases cc : p1 = (0 : Int32)
  · replace h := am_t cc h
    refine lv_tableIn (pc := 30) (tgt := 68) hx hb dX4_tellOfParticle_30 (by rw [cc]; decide) (by rw [cc]; decide) (by rw [cc]; rfl) (by decide) ?_
    refine lv_iload (pc := 68) hx hb dX4_tellOfParticle_68 (lv_at hl 1 rfl) ?_
    obtain e1 := am_ret1 h
    exact hret _ _ _ dX4_tellOfParticle_70 rfl e1
  replace h := am_f cc h
  have n0 := cc
  by_cases cc : p1 = (1 : Int32)
  · replace h := am_t cc h
    refine lv_tableIn (pc := 30) (tgt := 71) hx hb dX4_tellOfParticle_30 (by rw [cc]; decide) (by rw [cc]; decide) (by rw [cc]; rfl) (by decide) ?_
    refine lv_iload (pc := 71) hx hb dX4_tellOfParticle_71 (lv_at hl 0 rfl) ?_
    obtain e1 := am_ret1 h
    exact hret _ _ _ dX4_tellOfParticle_73 rfl e1
  replace h := am_f cc h
  have n1 := cc
  by_cases cc : p1 = (2 : Int32)
  · replace h := am_t cc h
    refine lv_tableIn (pc := 30) (tgt := 74) hx hb dX4_tellOfParticle_30 (by rw [cc]; decide) (by rw [cc]; decide) (by rw [cc]; rfl) (by decide) ?_
    refine lv_iload_n (pc := 74) hx hb dX4_tellOfParticle_74 rfl (lv_at hl 2 rfl) ?_
    refine lv_if_ne (pc := 75) (tgt := 83) hx hb dX4_tellOfParticle_75 (by decide) (fun cc => ?_) (fun cc => ?_)
    · replace h := am_f cc h
      refine lv_aload_n (pc := 83) hx hb dX4_tellOfParticle_83 rfl (lv_at hl 3 rfl) ?_
      refine va_get (pc := 84) (D := D) (ci := 4) (v := .ref lself) (C := RX4) (T := TX4) (N := 7) hx hb hts hnX4 hown hK.1 hP 0 rfl rfl 0 (Nat.le_of_ble_eq_true rfl) hk44 (fun _ h9 => h9) rfl dX4_tellOfParticle_84 ?_
      refine lv_iload_n (pc := 87) hx hb dX4_tellOfParticle_87 rfl (lv_at hl 2 rfl) ?_
      refine lv_iload_n (pc := 88) hx hb dX4_tellOfParticle_88 rfl (lv_at hl 4 rfl) ?_
      obtain ⟨r4, hc4, h⟩ := am_bind_s h
      refine kc_Vi (pc := 89) (ci := 1) ⟨hx, hb, hml, hown, hts⟩ hP hK [.int r1, .int p0] (c_X1_parentIn l D cI cJ lself lplself lpla lpaself lpaa logself loga ldrself ldra lspself lspa lscself lsca lmany lgens lplf lpaf logf ldrf lspf lscf r1 p0 r4 hc4) [1, 2, 3, 4, 5, 6, 7, 8, 9, 10, 11, 12, 13] rfl (cwV 2 hts (gzV wl175 wl176 wl177 wl43 wl178) rfl rfl rfl ⟨rfl, hdX1_parentIn⟩ ⟨Nat.le_of_ble_eq_true rfl, Nat.le_of_ble_eq_true rfl⟩) rfl rfl [] rfl hl.1 rfl (Nat.le_of_ble_eq_true rfl) dX4_tellOfParticle_89 ⟨Nat.zero_le _, Nat.zero_le _⟩ ?_
      obtain e1 := am_ret1 h
      exact hret _ _ _ dX4_tellOfParticle_92 rfl e1
    replace h := am_t cc h
    refine lv_ldc (pc := 78) hx hb hown hk158 dX4_tellOfParticle_78 ?_
    refine lv_goto (pc := 80) (tgt := 92) hx hb dX4_tellOfParticle_80 (by decide) ?_
    obtain e1 := am_ret1 h
    exact hret _ _ _ dX4_tellOfParticle_92 rfl e1
  replace h := am_f cc h
  have n2 := cc
  by_cases cc : p1 = (3 : Int32)
  · replace h := am_t cc h
    refine lv_tableIn (pc := 30) (tgt := 93) hx hb dX4_tellOfParticle_30 (by rw [cc]; decide) (by rw [cc]; decide) (by rw [cc]; rfl) (by decide) ?_
    refine lv_aload_n (pc := 93) hx hb dX4_tellOfParticle_93 rfl (lv_at hl 3 rfl) ?_
    refine va_get (pc := 94) (D := D) (ci := 4) (v := .ref lself) (C := RX4) (T := TX4) (N := 7) hx hb hts hnX4 hown hK.1 hP 0 rfl rfl 0 (Nat.le_of_ble_eq_true rfl) hk44 (fun _ h9 => h9) rfl dX4_tellOfParticle_94 ?_
    refine lv_iload_n (pc := 97) hx hb dX4_tellOfParticle_97 rfl (lv_at hl 2 rfl) ?_
    refine lv_iload (pc := 98) hx hb dX4_tellOfParticle_98 (lv_at hl 1 rfl) ?_
    obtain ⟨r5, hc5, h⟩ := am_bind_s h
    refine kc_Vi (pc := 100) (ci := 1) ⟨hx, hb, hml, hown, hts⟩ hP hK [.int r1, .int r2] (c_X1_howManyAt l D cI cJ lself lplself lpla lpaself lpaa logself loga ldrself ldra lspself lspa lscself lsca lmany lgens lplf lpaf logf ldrf lspf lscf r1 r2 r5 hc5) [1, 2, 3, 4, 5, 6, 7, 8, 9, 10, 11, 12, 13] rfl (cwV 2 hts (gzV wl179 wl180 wl181 wl43 wl182) rfl rfl rfl ⟨rfl, hdX1_howManyAt⟩ ⟨Nat.le_of_ble_eq_true rfl, Nat.le_of_ble_eq_true rfl⟩) rfl rfl [] rfl hl.1 rfl (Nat.le_of_ble_eq_true rfl) dX4_tellOfParticle_100 ⟨Nat.zero_le _, Nat.zero_le _⟩ ?_
    obtain e1 := am_ret1 h
    exact hret _ _ _ dX4_tellOfParticle_103 rfl e1
  replace h := am_f cc h
  have n3 := cc
  by_cases cc : p1 = (4 : Int32)
  · replace h := am_t cc h
    refine lv_tableIn (pc := 30) (tgt := 104) hx hb dX4_tellOfParticle_30 (by rw [cc]; decide) (by rw [cc]; decide) (by rw [cc]; rfl) (by decide) ?_
    refine lv_iload (pc := 104) hx hb dX4_tellOfParticle_104 (lv_at hl 0 rfl) ?_
    refine lv_i2l (pc := 106) hx hb dX4_tellOfParticle_106 rfl ?_
    refine lv_aload_n (pc := 107) hx hb dX4_tellOfParticle_107 rfl (lv_at hl 3 rfl) ?_
    refine va_get (pc := 108) (D := D) (ci := 4) (v := .ref wself) (C := RX4) (T := TX4) (N := 7) hx hb hts hnX4 hown hK.1 hP 0 rfl rfl 1 (Nat.le_of_ble_eq_true rfl) hk48 (fun _ h9 => h9) rfl dX4_tellOfParticle_108 ?_
    obtain ⟨r6, hc6, h⟩ := am_bind_s h
    refine kc_Vl (pc := 111) (ci := 5) ⟨hx, hb, hml, hown, hts⟩ hP hK [] (c_X5_sum l D cI cJ wself wa wmany wf r6 hc6) [14, 15] rfl (cwV 0 hts (gzV wl184 wl185 wl186 wl47 wl187) rfl rfl rfl ⟨rfl, hdX5_sum⟩ ⟨Nat.le_of_ble_eq_true rfl, Nat.le_of_ble_eq_true rfl⟩) rfl rfl [.long r3.toInt64] rfl hl.1 rfl (Nat.le_of_ble_eq_true rfl) dX4_tellOfParticle_111 ⟨Nat.zero_le _, Nat.zero_le _⟩ ?_
    refine lv_iconst (v := 0) (pc := 114) hx hb dX4_tellOfParticle_114 (by decide) ?_
    obtain ⟨r7, hc7, h⟩ := am_bind_s h
    refine kc_Ni (pc := 115) ⟨hx, hb, hml, hown, hts⟩ hP hK [.long r3.toInt64, .long r6, .int (0 : Int32)] (c_X6_partInLowestTerms l D cI cJ r3.toInt64 r6 (0 : Int32) r7 hc7) [] rfl ⟨va_cnB 3 hts (gzN wl189) rfl rfl rfl hK.2.2.2.2.2.2.2.1 hk2 hdX6_partInLowestTerms ⟨Nat.le_of_ble_eq_true rfl, Nat.le_of_ble_eq_true rfl⟩, hk188, trivial⟩ [] rfl hl.1 rfl (Nat.le_of_ble_eq_true rfl) dX4_tellOfParticle_115 ⟨Nat.zero_le _, Nat.zero_le _⟩ ?_
    obtain e1 := am_ret1 h
    exact hret _ _ _ dX4_tellOfParticle_118 rfl e1
  replace h := am_f cc h
  have n4 := cc
  by_cases cc : p1 = (5 : Int32)
  · replace h := am_t cc h
    refine lv_tableIn (pc := 30) (tgt := 119) hx hb dX4_tellOfParticle_30 (by rw [cc]; decide) (by rw [cc]; decide) (by rw [cc]; rfl) (by decide) ?_
    refine lv_iload (pc := 119) hx hb dX4_tellOfParticle_119 (lv_at hl 0 rfl) ?_
    refine lv_i2l (pc := 121) hx hb dX4_tellOfParticle_121 rfl ?_
    refine lv_aload_n (pc := 122) hx hb dX4_tellOfParticle_122 rfl (lv_at hl 3 rfl) ?_
    refine va_get (pc := 123) (D := D) (ci := 4) (v := .ref wself) (C := RX4) (T := TX4) (N := 7) hx hb hts hnX4 hown hK.1 hP 0 rfl rfl 1 (Nat.le_of_ble_eq_true rfl) hk48 (fun _ h9 => h9) rfl dX4_tellOfParticle_123 ?_
    obtain ⟨r8, hc8, h⟩ := am_bind_s h
    refine kc_Vl (pc := 126) (ci := 5) ⟨hx, hb, hml, hown, hts⟩ hP hK [] (c_X5_sum l D cI cJ wself wa wmany wf r8 hc8) [14, 15] rfl (cwV 0 hts (gzV wl184 wl185 wl186 wl47 wl187) rfl rfl rfl ⟨rfl, hdX5_sum⟩ ⟨Nat.le_of_ble_eq_true rfl, Nat.le_of_ble_eq_true rfl⟩) rfl rfl [.long r3.toInt64] rfl hl.1 rfl (Nat.le_of_ble_eq_true rfl) dX4_tellOfParticle_126 ⟨Nat.zero_le _, Nat.zero_le _⟩ ?_
    refine lv_iconst (v := 1) (pc := 129) hx hb dX4_tellOfParticle_129 (by decide) ?_
    obtain ⟨r9, hc9, h⟩ := am_bind_s h
    refine kc_Ni (pc := 130) ⟨hx, hb, hml, hown, hts⟩ hP hK [.long r3.toInt64, .long r8, .int (1 : Int32)] (c_X6_partInLowestTerms l D cI cJ r3.toInt64 r8 (1 : Int32) r9 hc9) [] rfl ⟨va_cnB 3 hts (gzN wl189) rfl rfl rfl hK.2.2.2.2.2.2.2.1 hk2 hdX6_partInLowestTerms ⟨Nat.le_of_ble_eq_true rfl, Nat.le_of_ble_eq_true rfl⟩, hk188, trivial⟩ [] rfl hl.1 rfl (Nat.le_of_ble_eq_true rfl) dX4_tellOfParticle_130 ⟨Nat.zero_le _, Nat.zero_le _⟩ ?_
    obtain e1 := am_ret1 h
    exact hret _ _ _ dX4_tellOfParticle_133 rfl e1
  replace h := am_f cc h
  have n5 := cc
  refine lv_tableOut (pc := 30) (tgt := 134) hx hb dX4_tellOfParticle_30 (am_out_0_5 n0 n1 n2 n3 n4 n5) (by decide) ?_
  refine lv_aload_n (pc := 134) hx hb dX4_tellOfParticle_134 rfl (lv_at hl 3 rfl) ?_
  refine va_get (pc := 135) (D := D) (ci := 4) (v := .ref wself) (C := RX4) (T := TX4) (N := 7) hx hb hts hnX4 hown hK.1 hP 0 rfl rfl 1 (Nat.le_of_ble_eq_true rfl) hk48 (fun _ h9 => h9) rfl dX4_tellOfParticle_135 ?_
  refine lv_iload_n (pc := 138) hx hb dX4_tellOfParticle_138 rfl (lv_at hl 4 rfl) ?_
  obtain ⟨r10, hc10, h⟩ := am_bind_s h
  refine kc_Vi (pc := 139) (ci := 5) ⟨hx, hb, hml, hown, hts⟩ hP hK [.int p0] (c_X5_howManyAheadOf l D cI cJ wself wa wmany wf p0 r10 hc10) [14, 15] rfl (cwV 1 hts (gzV wl193 wl194 wl195 wl47 wl196) rfl rfl rfl ⟨rfl, hdX5_howManyAheadOf⟩ ⟨Nat.le_of_ble_eq_true rfl, Nat.le_of_ble_eq_true rfl⟩) rfl rfl [] rfl hl.1 rfl (Nat.le_of_ble_eq_true rfl) dX4_tellOfParticle_139 ⟨Nat.zero_le _, Nat.zero_le _⟩ ?_
  obtain e1 := am_ret1 h
  exact hret _ _ _ dX4_tellOfParticle_142 rfl e1
theorem hdX4_tellOfGeneration : yX4_tellOfGeneration.cls ≠ "java/lang/invoke/MethodHandle" ∧ yX4_tellOfGeneration.cls ≠ "java/lang/invoke/VarHandle" ∧ (parseMethodDescriptor yX4_tellOfGeneration.desc).map (fun d => d.parameters.length) = some 2 := by decide +kernel
abbrev rmX4_tellOfGeneration : Room := { frames := 4, cells := 0, slots := 0, locals := 90 }
set_option maxHeartbeats 20000000 in
set_option maxRecDepth 100000 in
theorem c_X4_tellOfGeneration (l : Launch) (D : va_G) (cI cJ : ClassId) (self : Nat) (ch : Nat) (lself : Nat) (lplself : Nat) (lpla : Nat) (lpaself : Nat) (lpaa : Nat) (logself : Nat) (loga : Nat) (ldrself : Nat) (ldra : Nat) (lspself : Nat) (lspa : Nat) (lscself : Nat) (lsca : Nat) (wself : Nat) (wa : Nat) (sself : Nat) (sa : Nat) (noi : Int32) (obs : Int32) (res : Int32) (lmany : Int32) (lgens : Int32) (lplf : Nat → Int32) (lpaf : Nat → Int32) (logf : Nat → Int32) (ldrf : Nat → Int32) (lspf : Nat → Int32) (lscf : Nat → Int32) (wmany : Int32) (wf : Nat → Int32) (sf : Nat → Int32) (p0 : Int32) (p1 : Int32) (r0 : Int32) (hF : F_X4_tellOfGeneration lmany lgens lplf lpaf logf ldrf lspf lscf p0 p1 = some r0) : Met l yX4_tellOfGeneration (wz yX4_tellOfGeneration cX4_tellOfGeneration 4 (some .int)) rmX4_tellOfGeneration (kPc D cI cJ [(self, .inr (4, [.ref lself, .ref wself, .ref sself, .ref ch, .int noi, .int obs, .int res])), (lself, .inr (1, [.ref lplself, .ref lpaself, .ref logself, .ref ldrself, .ref lspself, .ref lscself, .int lmany, .int lgens])), (lplself, .inr (2, [.ref lpla])), (lpla, .inl (cI, 240, .inl lplf)), (lpaself, .inr (2, [.ref lpaa])), (lpaa, .inl (cI, 240, .inl lpaf)), (logself, .inr (2, [.ref loga])), (loga, .inl (cI, 20, .inl logf)), (ldrself, .inr (2, [.ref ldra])), (ldra, .inl (cI, 20, .inl ldrf)), (lspself, .inr (2, [.ref lspa])), (lspa, .inl (cI, 20, .inl lspf)), (lscself, .inr (2, [.ref lsca])), (lsca, .inl (cI, 20, .inl lscf)), (wself, .inr (5, [.ref wa, .int wmany])), (wa, .inl (cI, 12, .inl wf)), (sself, .inr (2, [.ref sa])), (sa, .inl (cI, 3, .inl sf))] [.ref self, .int p0, .int p1]) (vp_Si (fun r => r = r0)) 0 0 (fun _ => False) := by
  refine kM_ri cX4_tellOfGeneration 4 .int (by decide +kernel) rfl rfl (Nat.le_of_ble_eq_true rfl) ⟨rfl, rfl⟩ ?_
  intro p e s m args below meth c Q ls hx hb hml hown hts hP hK hl hret
  have hk158 := hts _ (List.mem_cons_of_mem _ wl158)
  have hk44 := hts _ (List.mem_cons_of_mem _ wl44)
  have hnX4 : ∀ w ∈ u_ws RX4 TX4 7, w ∈ wz yX4_tellOfGeneration cX4_tellOfGeneration 4 (some .int) := fun w h => List.mem_cons_of_mem _ (inlX4 w h)
  replace hl : lv_has ls 4 [(0, .ref self), (1, .int p0), (2, .int p1)] := hl
  have h := hF
  unfold F_X4_tellOfGeneration at h
  refine lv_aload_n (pc := 0) hx hb dX4_tellOfGeneration_0 rfl (lv_at hl 0 rfl) ?_
  refine va_get (pc := 1) (D := D) (ci := 4) (v := .ref lself) (C := RX4) (T := TX4) (N := 7) hx hb hts hnX4 hown hK.1 hP 0 rfl rfl 0 (Nat.le_of_ble_eq_true rfl) hk44 (fun _ h9 => h9) rfl dX4_tellOfGeneration_1 ?_
  refine lv_iload_n (pc := 4) hx hb dX4_tellOfGeneration_4 rfl (lv_at hl 1 rfl) ?_
  obtain ⟨r1, hc1, h⟩ := am_bind_s h
  refine kc_Vi (pc := 5) (ci := 1) ⟨hx, hb, hml, hown, hts⟩ hP hK [.int p0] (c_X1_originOf l D cI cJ lself lplself lpla lpaself lpaa logself loga ldrself ldra lspself lspa lscself lsca lmany lgens lplf lpaf logf ldrf lspf lscf p0 r1 hc1) [1, 2, 3, 4, 5, 6, 7, 8, 9, 10, 11, 12, 13] rfl (cwV 1 hts (gzV wl248 wl249 wl250 wl43 wl251) rfl rfl rfl ⟨rfl, hdX1_originOf⟩ ⟨Nat.le_of_ble_eq_true rfl, Nat.le_of_ble_eq_true rfl⟩) rfl rfl [] rfl hl.1 rfl (Nat.le_of_ble_eq_true rfl) dX4_tellOfGeneration_5 ⟨Nat.zero_le _, Nat.zero_le _⟩ ?_
  refine lv_istore_n (lv' := [(3, .int r1), (0, .ref self), (1, .int p0), (2, .int p1)]) (pc := 8) hx hb dX4_tellOfGeneration_8 rfl hl (by decide) rfl (fun ls hl => ?_)
  refine lv_iload_n (pc := 9) hx hb dX4_tellOfGeneration_9 rfl (lv_at hl 3 rfl) ?_
  by_cases cc : p1 = (0 : Int32)
  · replace h := am_t cc h
    refine lv_tableIn (pc := 10) (tgt := 44) hx hb dX4_tellOfGeneration_10 (by rw [cc]; decide) (by rw [cc]; decide) (by rw [cc]; rfl) (by decide) ?_
    refine lv_iload_n (pc := 44) hx hb dX4_tellOfGeneration_44 rfl (lv_at hl 0 rfl) ?_
    obtain e1 := am_ret1 h
    exact hret _ _ _ dX4_tellOfGeneration_45 rfl e1
  replace h := am_f cc h
  have n0 := cc
  by_cases cc : p1 = (1 : Int32)
  · replace h := am_t cc h
    refine lv_tableIn (pc := 10) (tgt := 46) hx hb dX4_tellOfGeneration_10 (by rw [cc]; decide) (by rw [cc]; decide) (by rw [cc]; rfl) (by decide) ?_
    refine lv_iload_n (pc := 46) hx hb dX4_tellOfGeneration_46 rfl (lv_at hl 0 rfl) ?_
    refine lv_iconst (v := 1) (pc := 47) hx hb dX4_tellOfGeneration_47 (by decide) ?_
    refine lv_icmp_ne (pc := 48) (tgt := 65) hx hb dX4_tellOfGeneration_48 (by decide) (fun cc => ?_) (fun cc => ?_)
    · replace h := am_f cc h
      refine lv_ldc (pc := 65) hx hb hown hk158 dX4_tellOfGeneration_65 ?_
      obtain e1 := am_ret1 h
      exact hret _ _ _ dX4_tellOfGeneration_67 rfl e1
    replace h := am_t cc h
    refine lv_aload_n (pc := 51) hx hb dX4_tellOfGeneration_51 rfl (lv_at hl 1 rfl) ?_
    refine va_get (pc := 52) (D := D) (ci := 4) (v := .ref lself) (C := RX4) (T := TX4) (N := 7) hx hb hts hnX4 hown hK.1 hP 0 rfl rfl 0 (Nat.le_of_ble_eq_true rfl) hk44 (fun _ h9 => h9) rfl dX4_tellOfGeneration_52 ?_
    refine lv_iload_n (pc := 55) hx hb dX4_tellOfGeneration_55 rfl (lv_at hl 2 rfl) ?_
    obtain ⟨r2, hc2, h⟩ := am_bind_s h
    refine kc_Vi (pc := 56) (ci := 1) ⟨hx, hb, hml, hown, hts⟩ hP hK [.int p0] (c_X1_driftOf l D cI cJ lself lplself lpla lpaself lpaa logself loga ldrself ldra lspself lspa lscself lsca lmany lgens lplf lpaf logf ldrf lspf lscf p0 r2 hc2) [1, 2, 3, 4, 5, 6, 7, 8, 9, 10, 11, 12, 13] rfl (cwV 1 hts (gzV wl252 wl253 wl254 wl43 wl255) rfl rfl rfl ⟨rfl, hdX1_driftOf⟩ ⟨Nat.le_of_ble_eq_true rfl, Nat.le_of_ble_eq_true rfl⟩) rfl rfl [] rfl hl.1 rfl (Nat.le_of_ble_eq_true rfl) dX4_tellOfGeneration_56 ⟨Nat.zero_le _, Nat.zero_le _⟩ ?_
    refine lv_bipush (v := 100) (pc := 59) hx hb dX4_tellOfGeneration_59 (by decide) ?_
    refine lv_iadd (pc := 61) hx hb dX4_tellOfGeneration_61 ?_
    refine lv_goto (pc := 62) (tgt := 67) hx hb dX4_tellOfGeneration_62 (by decide) ?_
    obtain e1 := am_ret1 h
    exact hret _ _ _ dX4_tellOfGeneration_67 rfl e1
  replace h := am_f cc h
  have n1 := cc
  by_cases cc : p1 = (2 : Int32)
  · replace h := am_t cc h
    refine lv_tableIn (pc := 10) (tgt := 68) hx hb dX4_tellOfGeneration_10 (by rw [cc]; decide) (by rw [cc]; decide) (by rw [cc]; rfl) (by decide) ?_
    refine lv_iload_n (pc := 68) hx hb dX4_tellOfGeneration_68 rfl (lv_at hl 0 rfl) ?_
    refine lv_iconst (v := 1) (pc := 69) hx hb dX4_tellOfGeneration_69 (by decide) ?_
    refine lv_icmp_ne (pc := 70) (tgt := 84) hx hb dX4_tellOfGeneration_70 (by decide) (fun cc => ?_) (fun cc => ?_)
    · replace h := am_f cc h
      refine lv_ldc (pc := 84) hx hb hown hk158 dX4_tellOfGeneration_84 ?_
      obtain e1 := am_ret1 h
      exact hret _ _ _ dX4_tellOfGeneration_86 rfl e1
    replace h := am_t cc h
    refine lv_aload_n (pc := 73) hx hb dX4_tellOfGeneration_73 rfl (lv_at hl 1 rfl) ?_
    refine va_get (pc := 74) (D := D) (ci := 4) (v := .ref lself) (C := RX4) (T := TX4) (N := 7) hx hb hts hnX4 hown hK.1 hP 0 rfl rfl 0 (Nat.le_of_ble_eq_true rfl) hk44 (fun _ h9 => h9) rfl dX4_tellOfGeneration_74 ?_
    refine lv_iload_n (pc := 77) hx hb dX4_tellOfGeneration_77 rfl (lv_at hl 2 rfl) ?_
    obtain ⟨r3, hc3, h⟩ := am_bind_s h
    refine kc_Vi (pc := 78) (ci := 1) ⟨hx, hb, hml, hown, hts⟩ hP hK [.int p0] (c_X1_spreadOf l D cI cJ lself lplself lpla lpaself lpaa logself loga ldrself ldra lspself lspa lscself lsca lmany lgens lplf lpaf logf ldrf lspf lscf p0 r3 hc3) [1, 2, 3, 4, 5, 6, 7, 8, 9, 10, 11, 12, 13] rfl (cwV 1 hts (gzV wl256 wl257 wl258 wl43 wl259) rfl rfl rfl ⟨rfl, hdX1_spreadOf⟩ ⟨Nat.le_of_ble_eq_true rfl, Nat.le_of_ble_eq_true rfl⟩) rfl rfl [] rfl hl.1 rfl (Nat.le_of_ble_eq_true rfl) dX4_tellOfGeneration_78 ⟨Nat.zero_le _, Nat.zero_le _⟩ ?_
    refine lv_goto (pc := 81) (tgt := 86) hx hb dX4_tellOfGeneration_81 (by decide) ?_
    obtain e1 := am_ret1 h
    exact hret _ _ _ dX4_tellOfGeneration_86 rfl e1
  replace h := am_f cc h
  have n2 := cc
  by_cases cc : p1 = (3 : Int32)
  · replace h := am_t cc h
    refine lv_tableIn (pc := 10) (tgt := 87) hx hb dX4_tellOfGeneration_10 (by rw [cc]; decide) (by rw [cc]; decide) (by rw [cc]; rfl) (by decide) ?_
    refine lv_iload_n (pc := 87) hx hb dX4_tellOfGeneration_87 rfl (lv_at hl 0 rfl) ?_
    refine lv_iconst (v := 2) (pc := 88) hx hb dX4_tellOfGeneration_88 (by decide) ?_
    refine lv_icmp_ne (pc := 89) (tgt := 103) hx hb dX4_tellOfGeneration_89 (by decide) (fun cc => ?_) (fun cc => ?_)
    · replace h := am_f cc h
      refine lv_ldc (pc := 103) hx hb hown hk158 dX4_tellOfGeneration_103 ?_
      obtain e1 := am_ret1 h
      exact hret _ _ _ dX4_tellOfGeneration_105 rfl e1
    replace h := am_t cc h
    refine lv_aload_n (pc := 92) hx hb dX4_tellOfGeneration_92 rfl (lv_at hl 1 rfl) ?_
    refine va_get (pc := 93) (D := D) (ci := 4) (v := .ref lself) (C := RX4) (T := TX4) (N := 7) hx hb hts hnX4 hown hK.1 hP 0 rfl rfl 0 (Nat.le_of_ble_eq_true rfl) hk44 (fun _ h9 => h9) rfl dX4_tellOfGeneration_93 ?_
    refine lv_iload_n (pc := 96) hx hb dX4_tellOfGeneration_96 rfl (lv_at hl 2 rfl) ?_
    obtain ⟨r4, hc4, h⟩ := am_bind_s h
    refine kc_Vi (pc := 97) (ci := 1) ⟨hx, hb, hml, hown, hts⟩ hP hK [.int p0] (c_X1_schemeOf l D cI cJ lself lplself lpla lpaself lpaa logself loga ldrself ldra lspself lspa lscself lsca lmany lgens lplf lpaf logf ldrf lspf lscf p0 r4 hc4) [1, 2, 3, 4, 5, 6, 7, 8, 9, 10, 11, 12, 13] rfl (cwV 1 hts (gzV wl260 wl261 wl262 wl43 wl263) rfl rfl rfl ⟨rfl, hdX1_schemeOf⟩ ⟨Nat.le_of_ble_eq_true rfl, Nat.le_of_ble_eq_true rfl⟩) rfl rfl [] rfl hl.1 rfl (Nat.le_of_ble_eq_true rfl) dX4_tellOfGeneration_97 ⟨Nat.zero_le _, Nat.zero_le _⟩ ?_
    refine lv_goto (pc := 100) (tgt := 105) hx hb dX4_tellOfGeneration_100 (by decide) ?_
    obtain e1 := am_ret1 h
    exact hret _ _ _ dX4_tellOfGeneration_105 rfl e1
  replace h := am_f cc h
  have n3 := cc
  by_cases cc : p1 = (4 : Int32)
  · replace h := am_t cc h
    refine lv_tableIn (pc := 10) (tgt := 106) hx hb dX4_tellOfGeneration_10 (by rw [cc]; decide) (by rw [cc]; decide) (by rw [cc]; rfl) (by decide) ?_
    refine lv_aload_n (pc := 106) hx hb dX4_tellOfGeneration_106 rfl (lv_at hl 1 rfl) ?_
    refine va_get (pc := 107) (D := D) (ci := 4) (v := .ref lself) (C := RX4) (T := TX4) (N := 7) hx hb hts hnX4 hown hK.1 hP 0 rfl rfl 0 (Nat.le_of_ble_eq_true rfl) hk44 (fun _ h9 => h9) rfl dX4_tellOfGeneration_107 ?_
    refine lv_iload_n (pc := 110) hx hb dX4_tellOfGeneration_110 rfl (lv_at hl 2 rfl) ?_
    obtain ⟨r5, hc5, h⟩ := am_bind_s h
    refine kc_Vi (pc := 111) (ci := 1) ⟨hx, hb, hml, hown, hts⟩ hP hK [.int p0] (c_X1_howManyAreAncestors l D cI cJ lself lplself lpla lpaself lpaa logself loga ldrself ldra lspself lspa lscself lsca lmany lgens lplf lpaf logf ldrf lspf lscf p0 r5 hc5) [1, 2, 3, 4, 5, 6, 7, 8, 9, 10, 11, 12, 13] rfl (cwV 1 hts (gzV wl264 wl265 wl266 wl43 wl267) rfl rfl rfl ⟨rfl, hdX1_howManyAreAncestors⟩ ⟨Nat.le_of_ble_eq_true rfl, Nat.le_of_ble_eq_true rfl⟩) rfl rfl [] rfl hl.1 rfl (Nat.le_of_ble_eq_true rfl) dX4_tellOfGeneration_111 ⟨Nat.zero_le _, Nat.zero_le _⟩ ?_
    obtain e1 := am_ret1 h
    exact hret _ _ _ dX4_tellOfGeneration_114 rfl e1
  replace h := am_f cc h
  have n4 := cc
  refine lv_tableOut (pc := 10) (tgt := 115) hx hb dX4_tellOfGeneration_10 (am_out_0_4 n0 n1 n2 n3 n4) (by decide) ?_
  refine lv_aload_n (pc := 115) hx hb dX4_tellOfGeneration_115 rfl (lv_at hl 1 rfl) ?_
  refine va_get (pc := 116) (D := D) (ci := 4) (v := .ref lself) (C := RX4) (T := TX4) (N := 7) hx hb hts hnX4 hown hK.1 hP 0 rfl rfl 0 (Nat.le_of_ble_eq_true rfl) hk44 (fun _ h9 => h9) rfl dX4_tellOfGeneration_116 ?_
  refine lv_iload_n (pc := 119) hx hb dX4_tellOfGeneration_119 rfl (lv_at hl 2 rfl) ?_
  obtain ⟨r6, hc6, h⟩ := am_bind_s h
  refine kc_Vi (pc := 120) (ci := 1) ⟨hx, hb, hml, hown, hts⟩ hP hK [.int p0] (c_X1_howManyUnlikePlaces l D cI cJ lself lplself lpla lpaself lpaa logself loga ldrself ldra lspself lspa lscself lsca lmany lgens lplf lpaf logf ldrf lspf lscf p0 r6 hc6) [1, 2, 3, 4, 5, 6, 7, 8, 9, 10, 11, 12, 13] rfl (cwV 1 hts (gzV wl224 wl225 wl226 wl43 wl227) rfl rfl rfl ⟨rfl, hdX1_howManyUnlikePlaces⟩ ⟨Nat.le_of_ble_eq_true rfl, Nat.le_of_ble_eq_true rfl⟩) rfl rfl [] rfl hl.1 rfl (Nat.le_of_ble_eq_true rfl) dX4_tellOfGeneration_120 ⟨Nat.zero_le _, Nat.zero_le _⟩ ?_
  obtain e1 := am_ret1 h
  exact hret _ _ _ dX4_tellOfGeneration_123 rfl e1
theorem hdX4_number : yX4_number.cls ≠ "java/lang/invoke/MethodHandle" ∧ yX4_number.cls ≠ "java/lang/invoke/VarHandle" ∧ (parseMethodDescriptor yX4_number.desc).map (fun d => d.parameters.length) = some 1 := by decide +kernel
abbrev rmX4_number : Room := { frames := 4, cells := 0, slots := 0, locals := 90 }
set_option maxHeartbeats 20000000 in
set_option maxRecDepth 100000 in
theorem c_X4_number (l : Launch) (D : va_G) (cI cJ : ClassId) (self : Nat) (ch : Nat) (lself : Nat) (lplself : Nat) (lpla : Nat) (lpaself : Nat) (lpaa : Nat) (logself : Nat) (loga : Nat) (ldrself : Nat) (ldra : Nat) (lspself : Nat) (lspa : Nat) (lscself : Nat) (lsca : Nat) (wself : Nat) (wa : Nat) (sself : Nat) (sa : Nat) (noi : Int32) (obs : Int32) (res : Int32) (lmany : Int32) (lgens : Int32) (lplf : Nat → Int32) (lpaf : Nat → Int32) (logf : Nat → Int32) (ldrf : Nat → Int32) (lspf : Nat → Int32) (lscf : Nat → Int32) (wmany : Int32) (wf : Nat → Int32) (sf : Nat → Int32) (p0 : Int32) (r0 : Int32) (hF : F_X4_number noi obs res lmany lgens lplf wmany wf sf p0 = some r0) : Met l yX4_number (wz yX4_number cX4_number 2 (some .int)) rmX4_number (kPc D cI cJ [(self, .inr (4, [.ref lself, .ref wself, .ref sself, .ref ch, .int noi, .int obs, .int res])), (lself, .inr (1, [.ref lplself, .ref lpaself, .ref logself, .ref ldrself, .ref lspself, .ref lscself, .int lmany, .int lgens])), (lplself, .inr (2, [.ref lpla])), (lpla, .inl (cI, 240, .inl lplf)), (lpaself, .inr (2, [.ref lpaa])), (lpaa, .inl (cI, 240, .inl lpaf)), (logself, .inr (2, [.ref loga])), (loga, .inl (cI, 20, .inl logf)), (ldrself, .inr (2, [.ref ldra])), (ldra, .inl (cI, 20, .inl ldrf)), (lspself, .inr (2, [.ref lspa])), (lspa, .inl (cI, 20, .inl lspf)), (lscself, .inr (2, [.ref lsca])), (lsca, .inl (cI, 20, .inl lscf)), (wself, .inr (5, [.ref wa, .int wmany])), (wa, .inl (cI, 12, .inl wf)), (sself, .inr (2, [.ref sa])), (sa, .inl (cI, 3, .inl sf))] [.ref self, .int p0]) (vp_Si (fun r => r = r0)) 0 0 (fun _ => False) := by
  refine kM_ri cX4_number 2 .int (by decide +kernel) rfl rfl (Nat.le_of_ble_eq_true rfl) ⟨rfl, rfl⟩ ?_
  intro p e s m args below meth c Q ls hx hb hml hown hts hP hK hl hret
  have hk211 := hts _ (List.mem_cons_of_mem _ wl211)
  have hk44 := hts _ (List.mem_cons_of_mem _ wl44)
  have hk48 := hts _ (List.mem_cons_of_mem _ wl48)
  have hk52 := hts _ (List.mem_cons_of_mem _ wl52)
  have hk91 := hts _ (List.mem_cons_of_mem _ wl91)
  have hk92 := hts _ (List.mem_cons_of_mem _ wl92)
  have hk93 := hts _ (List.mem_cons_of_mem _ wl93)
  have hnX4 : ∀ w ∈ u_ws RX4 TX4 7, w ∈ wz yX4_number cX4_number 2 (some .int) := fun w h => List.mem_cons_of_mem _ (inlX4 w h)
  replace hl : lv_has ls 2 [(0, .ref self), (1, .int p0)] := hl
  have h := hF
  unfold F_X4_number at h
  refine lv_iload_n (pc := 0) hx hb dX4_number_0 rfl (lv_at hl 1 rfl) ?_
  by_cases cc : p0 = (0 : Int32)
  · replace h := am_t cc h
    refine lv_tableIn (pc := 1) (tgt := 108) hx hb dX4_number_1 (by rw [cc]; decide) (by rw [cc]; decide) (by rw [cc]; rfl) (by decide) ?_
    refine lv_aload_n (pc := 108) hx hb dX4_number_108 rfl (lv_at hl 0 rfl) ?_
    refine va_get (pc := 109) (D := D) (ci := 4) (v := .ref lself) (C := RX4) (T := TX4) (N := 7) hx hb hts hnX4 hown hK.1 hP 0 rfl rfl 0 (Nat.le_of_ble_eq_true rfl) hk44 (fun _ h9 => h9) rfl dX4_number_109 ?_
    obtain ⟨r1, hc1, h⟩ := am_bind_s h
    refine kc_Vi (pc := 112) (ci := 1) ⟨hx, hb, hml, hown, hts⟩ hP hK [] (c_X1_many l D cI cJ lself lplself lpla lpaself lpaa logself loga ldrself ldra lspself lspa lscself lsca lmany lgens lplf lpaf logf ldrf lspf lscf r1 hc1) [1, 2, 3, 4, 5, 6, 7, 8, 9, 10, 11, 12, 13] rfl (cwV 0 hts (gzV wl147 wl148 wl149 wl43 wl150) rfl rfl rfl ⟨rfl, hdX1_many⟩ ⟨Nat.le_of_ble_eq_true rfl, Nat.le_of_ble_eq_true rfl⟩) rfl rfl [] rfl hl.1 rfl (Nat.le_of_ble_eq_true rfl) dX4_number_112 ⟨Nat.zero_le _, Nat.zero_le _⟩ ?_
    obtain e1 := am_ret1 h
    exact hret _ _ _ dX4_number_115 rfl e1
  replace h := am_f cc h
  have n0 := cc
  by_cases cc : p0 = (1 : Int32)
  · replace h := am_t cc h
    refine lv_tableIn (pc := 1) (tgt := 116) hx hb dX4_number_1 (by rw [cc]; decide) (by rw [cc]; decide) (by rw [cc]; rfl) (by decide) ?_
    refine lv_aload_n (pc := 116) hx hb dX4_number_116 rfl (lv_at hl 0 rfl) ?_
    refine va_get (pc := 117) (D := D) (ci := 4) (v := .ref lself) (C := RX4) (T := TX4) (N := 7) hx hb hts hnX4 hown hK.1 hP 0 rfl rfl 0 (Nat.le_of_ble_eq_true rfl) hk44 (fun _ h9 => h9) rfl dX4_number_117 ?_
    obtain ⟨r2, hc2, h⟩ := am_bind_s h
    refine kc_Vi (pc := 120) (ci := 1) ⟨hx, hb, hml, hown, hts⟩ hP hK [] (c_X1_generations l D cI cJ lself lplself lpla lpaself lpaa logself loga ldrself ldra lspself lspa lscself lsca lmany lgens lplf lpaf logf ldrf lspf lscf r2 hc2) [1, 2, 3, 4, 5, 6, 7, 8, 9, 10, 11, 12, 13] rfl (cwV 0 hts (gzV wl212 wl213 wl214 wl43 wl215) rfl rfl rfl ⟨rfl, hdX1_generations⟩ ⟨Nat.le_of_ble_eq_true rfl, Nat.le_of_ble_eq_true rfl⟩) rfl rfl [] rfl hl.1 rfl (Nat.le_of_ble_eq_true rfl) dX4_number_120 ⟨Nat.zero_le _, Nat.zero_le _⟩ ?_
    obtain e1 := am_ret1 h
    exact hret _ _ _ dX4_number_123 rfl e1
  replace h := am_f cc h
  have n1 := cc
  by_cases cc : p0 = (2 : Int32)
  · replace h := am_t cc h
    refine lv_tableIn (pc := 1) (tgt := 124) hx hb dX4_number_1 (by rw [cc]; decide) (by rw [cc]; decide) (by rw [cc]; rfl) (by decide) ?_
    refine lv_aload_n (pc := 124) hx hb dX4_number_124 rfl (lv_at hl 0 rfl) ?_
    refine va_get (pc := 125) (D := D) (ci := 4) (v := .ref wself) (C := RX4) (T := TX4) (N := 7) hx hb hts hnX4 hown hK.1 hP 0 rfl rfl 1 (Nat.le_of_ble_eq_true rfl) hk48 (fun _ h9 => h9) rfl dX4_number_125 ?_
    obtain ⟨r3, hc3, h⟩ := am_bind_s h
    refine kc_Vl (pc := 128) (ci := 5) ⟨hx, hb, hml, hown, hts⟩ hP hK [] (c_X5_sum l D cI cJ wself wa wmany wf r3 hc3) [14, 15] rfl (cwV 0 hts (gzV wl184 wl185 wl186 wl47 wl187) rfl rfl rfl ⟨rfl, hdX5_sum⟩ ⟨Nat.le_of_ble_eq_true rfl, Nat.le_of_ble_eq_true rfl⟩) rfl rfl [] rfl hl.1 rfl (Nat.le_of_ble_eq_true rfl) dX4_number_128 ⟨Nat.zero_le _, Nat.zero_le _⟩ ?_
    refine lv_l2i (pc := 131) hx hb dX4_number_131 rfl ?_
    obtain e1 := am_ret1 h
    exact hret _ _ _ dX4_number_132 rfl e1
  replace h := am_f cc h
  have n2 := cc
  by_cases cc : p0 = (3 : Int32)
  · replace h := am_t cc h
    refine lv_tableIn (pc := 1) (tgt := 133) hx hb dX4_number_1 (by rw [cc]; decide) (by rw [cc]; decide) (by rw [cc]; rfl) (by decide) ?_
    refine lv_aload_n (pc := 133) hx hb dX4_number_133 rfl (lv_at hl 0 rfl) ?_
    refine va_get (pc := 134) (D := D) (ci := 4) (v := .ref wself) (C := RX4) (T := TX4) (N := 7) hx hb hts hnX4 hown hK.1 hP 0 rfl rfl 1 (Nat.le_of_ble_eq_true rfl) hk48 (fun _ h9 => h9) rfl dX4_number_134 ?_
    obtain ⟨r4, hc4, h⟩ := am_bind_s h
    refine kc_Vi (pc := 137) (ci := 5) ⟨hx, hb, hml, hown, hts⟩ hP hK [] (c_X5_effectiveCount l D cI cJ wself wa wmany wf r4 hc4) [14, 15] rfl (cwV 0 hts (gzV wl216 wl217 wl218 wl47 wl219) rfl rfl rfl ⟨rfl, hdX5_effectiveCount⟩ ⟨Nat.le_of_ble_eq_true rfl, Nat.le_of_ble_eq_true rfl⟩) rfl rfl [] rfl hl.1 rfl (Nat.le_of_ble_eq_true rfl) dX4_number_137 ⟨Nat.zero_le _, Nat.zero_le _⟩ ?_
    obtain e1 := am_ret1 h
    exact hret _ _ _ dX4_number_140 rfl e1
  replace h := am_f cc h
  have n3 := cc
  by_cases cc : p0 = (4 : Int32)
  · replace h := am_t cc h
    refine lv_tableIn (pc := 1) (tgt := 141) hx hb dX4_number_1 (by rw [cc]; decide) (by rw [cc]; decide) (by rw [cc]; rfl) (by decide) ?_
    refine lv_aload_n (pc := 141) hx hb dX4_number_141 rfl (lv_at hl 0 rfl) ?_
    refine va_get (pc := 142) (D := D) (ci := 4) (v := .int noi) (C := RX4) (T := TX4) (N := 7) hx hb hts hnX4 hown hK.1 hP 0 rfl rfl 4 (Nat.le_of_ble_eq_true rfl) hk91 (fun _ h9 => h9) rfl dX4_number_142 ?_
    obtain e1 := am_ret1 h
    exact hret _ _ _ dX4_number_145 rfl e1
  replace h := am_f cc h
  have n4 := cc
  by_cases cc : p0 = (5 : Int32)
  · replace h := am_t cc h
    refine lv_tableIn (pc := 1) (tgt := 146) hx hb dX4_number_1 (by rw [cc]; decide) (by rw [cc]; decide) (by rw [cc]; rfl) (by decide) ?_
    refine lv_aload_n (pc := 146) hx hb dX4_number_146 rfl (lv_at hl 0 rfl) ?_
    refine va_get (pc := 147) (D := D) (ci := 4) (v := .ref wself) (C := RX4) (T := TX4) (N := 7) hx hb hts hnX4 hown hK.1 hP 0 rfl rfl 1 (Nat.le_of_ble_eq_true rfl) hk48 (fun _ h9 => h9) rfl dX4_number_147 ?_
    obtain ⟨r5, hc5, h⟩ := am_bind_s h
    refine kc_Vi (pc := 150) (ci := 5) ⟨hx, hb, hml, hown, hts⟩ hP hK [] (c_X5_howManyAreZero l D cI cJ wself wa wmany wf r5 hc5) [14, 15] rfl (cwV 0 hts (gzV wl220 wl221 wl222 wl47 wl223) rfl rfl rfl ⟨rfl, hdX5_howManyAreZero⟩ ⟨Nat.le_of_ble_eq_true rfl, Nat.le_of_ble_eq_true rfl⟩) rfl rfl [] rfl hl.1 rfl (Nat.le_of_ble_eq_true rfl) dX4_number_150 ⟨Nat.zero_le _, Nat.zero_le _⟩ ?_
    obtain e1 := am_ret1 h
    exact hret _ _ _ dX4_number_153 rfl e1
  replace h := am_f cc h
  have n5 := cc
  by_cases cc : p0 = (6 : Int32)
  · replace h := am_t cc h
    refine lv_tableIn (pc := 1) (tgt := 154) hx hb dX4_number_1 (by rw [cc]; decide) (by rw [cc]; decide) (by rw [cc]; rfl) (by decide) ?_
    refine lv_aload_n (pc := 154) hx hb dX4_number_154 rfl (lv_at hl 0 rfl) ?_
    refine va_get (pc := 155) (D := D) (ci := 4) (v := .ref lself) (C := RX4) (T := TX4) (N := 7) hx hb hts hnX4 hown hK.1 hP 0 rfl rfl 0 (Nat.le_of_ble_eq_true rfl) hk44 (fun _ h9 => h9) rfl dX4_number_155 ?_
    refine lv_aload_n (pc := 158) hx hb dX4_number_158 rfl (lv_at hl 0 rfl) ?_
    refine va_get (pc := 159) (D := D) (ci := 4) (v := .ref lself) (C := RX4) (T := TX4) (N := 7) hx hb hts hnX4 hown hK.1 hP 0 rfl rfl 0 (Nat.le_of_ble_eq_true rfl) hk44 (fun _ h9 => h9) rfl dX4_number_159 ?_
    obtain ⟨r6, hc6, h⟩ := am_bind_s h
    refine kc_Vi (pc := 162) (ci := 1) ⟨hx, hb, hml, hown, hts⟩ hP hK [] (c_X1_latest l D cI cJ lself lplself lpla lpaself lpaa logself loga ldrself ldra lspself lspa lscself lsca lmany lgens lplf lpaf logf ldrf lspf lscf r6 hc6) [1, 2, 3, 4, 5, 6, 7, 8, 9, 10, 11, 12, 13] rfl (cwV 0 hts (gzV wl159 wl160 wl161 wl43 wl162) rfl rfl rfl ⟨rfl, hdX1_latest⟩ ⟨Nat.le_of_ble_eq_true rfl, Nat.le_of_ble_eq_true rfl⟩) rfl rfl [.ref lself] rfl hl.1 rfl (Nat.le_of_ble_eq_true rfl) dX4_number_162 ⟨Nat.zero_le _, Nat.zero_le _⟩ ?_
    obtain ⟨r7, hc7, h⟩ := am_bind_s h
    refine kc_Vi (pc := 165) (ci := 1) ⟨hx, hb, hml, hown, hts⟩ hP hK [.int r6] (c_X1_howManyUnlikePlaces l D cI cJ lself lplself lpla lpaself lpaa logself loga ldrself ldra lspself lspa lscself lsca lmany lgens lplf lpaf logf ldrf lspf lscf r6 r7 hc7) [1, 2, 3, 4, 5, 6, 7, 8, 9, 10, 11, 12, 13] rfl (cwV 1 hts (gzV wl224 wl225 wl226 wl43 wl227) rfl rfl rfl ⟨rfl, hdX1_howManyUnlikePlaces⟩ ⟨Nat.le_of_ble_eq_true rfl, Nat.le_of_ble_eq_true rfl⟩) rfl rfl [] rfl hl.1 rfl (Nat.le_of_ble_eq_true rfl) dX4_number_165 ⟨Nat.zero_le _, Nat.zero_le _⟩ ?_
    obtain e1 := am_ret1 h
    exact hret _ _ _ dX4_number_168 rfl e1
  replace h := am_f cc h
  have n6 := cc
  by_cases cc : p0 = (7 : Int32)
  · replace h := am_t cc h
    refine lv_tableIn (pc := 1) (tgt := 169) hx hb dX4_number_1 (by rw [cc]; decide) (by rw [cc]; decide) (by rw [cc]; rfl) (by decide) ?_
    refine lv_aload_n (pc := 169) hx hb dX4_number_169 rfl (lv_at hl 0 rfl) ?_
    refine va_get (pc := 170) (D := D) (ci := 4) (v := .int obs) (C := RX4) (T := TX4) (N := 7) hx hb hts hnX4 hown hK.1 hP 0 rfl rfl 5 (Nat.le_of_ble_eq_true rfl) hk92 (fun _ h9 => h9) rfl dX4_number_170 ?_
    obtain e1 := am_ret1 h
    exact hret _ _ _ dX4_number_173 rfl e1
  replace h := am_f cc h
  have n7 := cc
  by_cases cc : p0 = (8 : Int32)
  · replace h := am_t cc h
    refine lv_tableIn (pc := 1) (tgt := 174) hx hb dX4_number_1 (by rw [cc]; decide) (by rw [cc]; decide) (by rw [cc]; rfl) (by decide) ?_
    refine lv_aload_n (pc := 174) hx hb dX4_number_174 rfl (lv_at hl 0 rfl) ?_
    refine va_get (pc := 175) (D := D) (ci := 4) (v := .int res) (C := RX4) (T := TX4) (N := 7) hx hb hts hnX4 hown hK.1 hP 0 rfl rfl 6 (Nat.le_of_ble_eq_true rfl) hk93 (fun _ h9 => h9) rfl dX4_number_175 ?_
    obtain e1 := am_ret1 h
    exact hret _ _ _ dX4_number_178 rfl e1
  replace h := am_f cc h
  have n8 := cc
  by_cases cc : p0 = (20 : Int32)
  · replace h := am_t cc h
    refine lv_tableIn (pc := 1) (tgt := 179) hx hb dX4_number_1 (by rw [cc]; decide) (by rw [cc]; decide) (by rw [cc]; rfl) (by decide) ?_
    refine lv_aload_n (pc := 179) hx hb dX4_number_179 rfl (lv_at hl 0 rfl) ?_
    refine va_get (pc := 180) (D := D) (ci := 4) (v := .ref sself) (C := RX4) (T := TX4) (N := 7) hx hb hts hnX4 hown hK.1 hP 0 rfl rfl 2 (Nat.le_of_ble_eq_true rfl) hk52 (fun _ h9 => h9) rfl dX4_number_180 ?_
    refine lv_iconst (v := 0) (pc := 183) hx hb dX4_number_183 (by decide) ?_
    obtain ⟨r8, hc8, h⟩ := am_bind_s h
    refine kc_Vi (pc := 184) (ci := 2) ⟨hx, hb, hml, hown, hts⟩ hP hK [.int (0 : Int32)] (c_X2_at l D cI cJ sself sa 3 sf (0 : Int32) r8 hc8) [16, 17] rfl (cwV 1 hts (gzV wl232 wl168 wl169 wl51 wl170) rfl rfl rfl ⟨rfl, hdX2_at⟩ ⟨Nat.le_of_ble_eq_true rfl, Nat.le_of_ble_eq_true rfl⟩) rfl rfl [] rfl hl.1 rfl (Nat.le_of_ble_eq_true rfl) dX4_number_184 ⟨Nat.zero_le _, Nat.zero_le _⟩ ?_
    obtain e1 := am_ret1 h
    exact hret _ _ _ dX4_number_187 rfl e1
  replace h := am_f cc h
  have n9 := cc
  by_cases cc : p0 = (21 : Int32)
  · replace h := am_t cc h
    refine lv_tableIn (pc := 1) (tgt := 188) hx hb dX4_number_1 (by rw [cc]; decide) (by rw [cc]; decide) (by rw [cc]; rfl) (by decide) ?_
    refine lv_aload_n (pc := 188) hx hb dX4_number_188 rfl (lv_at hl 0 rfl) ?_
    refine va_get (pc := 189) (D := D) (ci := 4) (v := .ref sself) (C := RX4) (T := TX4) (N := 7) hx hb hts hnX4 hown hK.1 hP 0 rfl rfl 2 (Nat.le_of_ble_eq_true rfl) hk52 (fun _ h9 => h9) rfl dX4_number_189 ?_
    refine lv_iconst (v := 1) (pc := 192) hx hb dX4_number_192 (by decide) ?_
    obtain ⟨r9, hc9, h⟩ := am_bind_s h
    refine kc_Vi (pc := 193) (ci := 2) ⟨hx, hb, hml, hown, hts⟩ hP hK [.int (1 : Int32)] (c_X2_at l D cI cJ sself sa 3 sf (1 : Int32) r9 hc9) [16, 17] rfl (cwV 1 hts (gzV wl232 wl168 wl169 wl51 wl170) rfl rfl rfl ⟨rfl, hdX2_at⟩ ⟨Nat.le_of_ble_eq_true rfl, Nat.le_of_ble_eq_true rfl⟩) rfl rfl [] rfl hl.1 rfl (Nat.le_of_ble_eq_true rfl) dX4_number_193 ⟨Nat.zero_le _, Nat.zero_le _⟩ ?_
    obtain e1 := am_ret1 h
    exact hret _ _ _ dX4_number_196 rfl e1
  replace h := am_f cc h
  have n10 := cc
  by_cases cc : p0 = (22 : Int32)
  · replace h := am_t cc h
    refine lv_tableIn (pc := 1) (tgt := 197) hx hb dX4_number_1 (by rw [cc]; decide) (by rw [cc]; decide) (by rw [cc]; rfl) (by decide) ?_
    refine lv_aload_n (pc := 197) hx hb dX4_number_197 rfl (lv_at hl 0 rfl) ?_
    refine va_get (pc := 198) (D := D) (ci := 4) (v := .ref sself) (C := RX4) (T := TX4) (N := 7) hx hb hts hnX4 hown hK.1 hP 0 rfl rfl 2 (Nat.le_of_ble_eq_true rfl) hk52 (fun _ h9 => h9) rfl dX4_number_198 ?_
    refine lv_iconst (v := 2) (pc := 201) hx hb dX4_number_201 (by decide) ?_
    obtain ⟨r10, hc10, h⟩ := am_bind_s h
    refine kc_Vi (pc := 202) (ci := 2) ⟨hx, hb, hml, hown, hts⟩ hP hK [.int (2 : Int32)] (c_X2_at l D cI cJ sself sa 3 sf (2 : Int32) r10 hc10) [16, 17] rfl (cwV 1 hts (gzV wl232 wl168 wl169 wl51 wl170) rfl rfl rfl ⟨rfl, hdX2_at⟩ ⟨Nat.le_of_ble_eq_true rfl, Nat.le_of_ble_eq_true rfl⟩) rfl rfl [] rfl hl.1 rfl (Nat.le_of_ble_eq_true rfl) dX4_number_202 ⟨Nat.zero_le _, Nat.zero_le _⟩ ?_
    obtain e1 := am_ret1 h
    exact hret _ _ _ dX4_number_205 rfl e1
  replace h := am_f cc h
  have n11 := cc
  by_cases cc : p0 = (9 : Int32)
  · refine lv_tableIn (pc := 1) (tgt := 206) hx hb dX4_number_1 (by rw [cc]; decide) (by rw [cc]; decide) (by rw [cc]; rfl) (by decide) ?_
    refine lv_ldc (pc := 206) hx hb hown hk211 dX4_number_206 ?_
    obtain e1 := am_ret1 h
    exact hret _ _ _ dX4_number_208 rfl e1
  have g9 := cc
  by_cases cc : p0 = (10 : Int32)
  · refine lv_tableIn (pc := 1) (tgt := 206) hx hb dX4_number_1 (by rw [cc]; decide) (by rw [cc]; decide) (by rw [cc]; rfl) (by decide) ?_
    refine lv_ldc (pc := 206) hx hb hown hk211 dX4_number_206 ?_
    obtain e1 := am_ret1 h
    exact hret _ _ _ dX4_number_208 rfl e1
  have g10 := cc
  by_cases cc : p0 = (11 : Int32)
  · refine lv_tableIn (pc := 1) (tgt := 206) hx hb dX4_number_1 (by rw [cc]; decide) (by rw [cc]; decide) (by rw [cc]; rfl) (by decide) ?_
    refine lv_ldc (pc := 206) hx hb hown hk211 dX4_number_206 ?_
    obtain e1 := am_ret1 h
    exact hret _ _ _ dX4_number_208 rfl e1
  have g11 := cc
  by_cases cc : p0 = (12 : Int32)
  · refine lv_tableIn (pc := 1) (tgt := 206) hx hb dX4_number_1 (by rw [cc]; decide) (by rw [cc]; decide) (by rw [cc]; rfl) (by decide) ?_
    refine lv_ldc (pc := 206) hx hb hown hk211 dX4_number_206 ?_
    obtain e1 := am_ret1 h
    exact hret _ _ _ dX4_number_208 rfl e1
  have g12 := cc
  by_cases cc : p0 = (13 : Int32)
  · refine lv_tableIn (pc := 1) (tgt := 206) hx hb dX4_number_1 (by rw [cc]; decide) (by rw [cc]; decide) (by rw [cc]; rfl) (by decide) ?_
    refine lv_ldc (pc := 206) hx hb hown hk211 dX4_number_206 ?_
    obtain e1 := am_ret1 h
    exact hret _ _ _ dX4_number_208 rfl e1
  have g13 := cc
  by_cases cc : p0 = (14 : Int32)
  · refine lv_tableIn (pc := 1) (tgt := 206) hx hb dX4_number_1 (by rw [cc]; decide) (by rw [cc]; decide) (by rw [cc]; rfl) (by decide) ?_
    refine lv_ldc (pc := 206) hx hb hown hk211 dX4_number_206 ?_
    obtain e1 := am_ret1 h
    exact hret _ _ _ dX4_number_208 rfl e1
  have g14 := cc
  by_cases cc : p0 = (15 : Int32)
  · refine lv_tableIn (pc := 1) (tgt := 206) hx hb dX4_number_1 (by rw [cc]; decide) (by rw [cc]; decide) (by rw [cc]; rfl) (by decide) ?_
    refine lv_ldc (pc := 206) hx hb hown hk211 dX4_number_206 ?_
    obtain e1 := am_ret1 h
    exact hret _ _ _ dX4_number_208 rfl e1
  have g15 := cc
  by_cases cc : p0 = (16 : Int32)
  · refine lv_tableIn (pc := 1) (tgt := 206) hx hb dX4_number_1 (by rw [cc]; decide) (by rw [cc]; decide) (by rw [cc]; rfl) (by decide) ?_
    refine lv_ldc (pc := 206) hx hb hown hk211 dX4_number_206 ?_
    obtain e1 := am_ret1 h
    exact hret _ _ _ dX4_number_208 rfl e1
  have g16 := cc
  by_cases cc : p0 = (17 : Int32)
  · refine lv_tableIn (pc := 1) (tgt := 206) hx hb dX4_number_1 (by rw [cc]; decide) (by rw [cc]; decide) (by rw [cc]; rfl) (by decide) ?_
    refine lv_ldc (pc := 206) hx hb hown hk211 dX4_number_206 ?_
    obtain e1 := am_ret1 h
    exact hret _ _ _ dX4_number_208 rfl e1
  have g17 := cc
  by_cases cc : p0 = (18 : Int32)
  · refine lv_tableIn (pc := 1) (tgt := 206) hx hb dX4_number_1 (by rw [cc]; decide) (by rw [cc]; decide) (by rw [cc]; rfl) (by decide) ?_
    refine lv_ldc (pc := 206) hx hb hown hk211 dX4_number_206 ?_
    obtain e1 := am_ret1 h
    exact hret _ _ _ dX4_number_208 rfl e1
  have g18 := cc
  by_cases cc : p0 = (19 : Int32)
  · refine lv_tableIn (pc := 1) (tgt := 206) hx hb dX4_number_1 (by rw [cc]; decide) (by rw [cc]; decide) (by rw [cc]; rfl) (by decide) ?_
    refine lv_ldc (pc := 206) hx hb hown hk211 dX4_number_206 ?_
    obtain e1 := am_ret1 h
    exact hret _ _ _ dX4_number_208 rfl e1
  have g19 := cc
  refine lv_tableOut (pc := 1) (tgt := 206) hx hb dX4_number_1 (am_out_0_22 n0 n1 n2 n3 n4 n5 n6 n7 n8 g9 g10 g11 g12 g13 g14 g15 g16 g17 g18 g19 n9 n10 n11) (by decide) ?_
  refine lv_ldc (pc := 206) hx hb hown hk211 dX4_number_206 ?_
  obtain e1 := am_ret1 h
  exact hret _ _ _ dX4_number_208 rfl e1
