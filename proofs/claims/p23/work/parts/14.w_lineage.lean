-- contracts, printed by wip/p23/gen23.py
theorem hdX1_copyLineage : yX1_copyLineage.cls ≠ "java/lang/invoke/MethodHandle" ∧ yX1_copyLineage.cls ≠ "java/lang/invoke/VarHandle" ∧ (parseMethodDescriptor yX1_copyLineage.desc).map (fun d => d.parameters.length) = some 1 := by decide +kernel
abbrev rmX1_copyLineage : Room := { frames := 1, cells := 0, slots := 0, locals := 22 }
set_option maxHeartbeats 20000000 in
set_option maxRecDepth 100000 in
theorem c_X1_copyLineage (l : Launch) (D : va_G) (cI cJ : ClassId) (self : Nat) (plself : Nat) (pla : Nat) (paself : Nat) (paa : Nat) (ogself : Nat) (oga : Nat) (drself : Nat) (dra : Nat) (spself : Nat) (spa : Nat) (scself : Nat) (sca : Nat) (oself : Nat) (oplself : Nat) (opla : Nat) (opaself : Nat) (opaa : Nat) (oogself : Nat) (ooga : Nat) (odrself : Nat) (odra : Nat) (ospself : Nat) (ospa : Nat) (oscself : Nat) (osca : Nat) (many : Int32) (gens : Int32) (plf : Nat → Int32) (paf : Nat → Int32) (ogf : Nat → Int32) (drf : Nat → Int32) (spf : Nat → Int32) (scf : Nat → Int32) (omany : Int32) (ogens : Int32) (oplf : Nat → Int32) (opaf : Nat → Int32) (oogf : Nat → Int32) (odrf : Nat → Int32) (ospf : Nat → Int32) (oscf : Nat → Int32)  (zmany : Int32) (zgens : Int32) (zplf : Nat → Int32) (zpaf : Nat → Int32) (zogf : Nat → Int32) (zdrf : Nat → Int32) (zspf : Nat → Int32) (zscf : Nat → Int32) (hF : F_X1_copyLineage many gens plf paf ogf drf spf scf omany ogens oplf opaf oogf odrf ospf oscf = some (zmany, zgens, zplf, zpaf, zogf, zdrf, zspf, zscf)) (sz : Nat) : Met l yX1_copyLineage (wz yX1_copyLineage cX1_copyLineage 2 none) rmX1_copyLineage (kPw D cI cJ [(self, .inr (1, [.ref plself, .ref paself, .ref ogself, .ref drself, .ref spself, .ref scself, .int many, .int gens])), (plself, .inr (2, [.ref pla])), (pla, .inl (cI, 240, .inl plf)), (paself, .inr (2, [.ref paa])), (paa, .inl (cI, 240, .inl paf)), (ogself, .inr (2, [.ref oga])), (oga, .inl (cI, 20, .inl ogf)), (drself, .inr (2, [.ref dra])), (dra, .inl (cI, 20, .inl drf)), (spself, .inr (2, [.ref spa])), (spa, .inl (cI, 20, .inl spf)), (scself, .inr (2, [.ref sca])), (sca, .inl (cI, 20, .inl scf)), (oself, .inr (1, [.ref oplself, .ref opaself, .ref oogself, .ref odrself, .ref ospself, .ref oscself, .int omany, .int ogens])), (oplself, .inr (2, [.ref opla])), (opla, .inl (cI, 240, .inl oplf)), (opaself, .inr (2, [.ref opaa])), (opaa, .inl (cI, 240, .inl opaf)), (oogself, .inr (2, [.ref ooga])), (ooga, .inl (cI, 20, .inl oogf)), (odrself, .inr (2, [.ref odra])), (odra, .inl (cI, 20, .inl odrf)), (ospself, .inr (2, [.ref ospa])), (ospa, .inl (cI, 20, .inl ospf)), (oscself, .inr (2, [.ref osca])), (osca, .inl (cI, 20, .inl oscf))] sz [.ref self, .ref oself]) (kQv D [(self, .inr (1, [.ref plself, .ref paself, .ref ogself, .ref drself, .ref spself, .ref scself, .int zmany, .int zgens])), (plself, .inr (2, [.ref pla])), (pla, .inl (cI, 240, .inl zplf)), (paself, .inr (2, [.ref paa])), (paa, .inl (cI, 240, .inl zpaf)), (ogself, .inr (2, [.ref oga])), (oga, .inl (cI, 20, .inl zogf)), (drself, .inr (2, [.ref dra])), (dra, .inl (cI, 20, .inl zdrf)), (spself, .inr (2, [.ref spa])), (spa, .inl (cI, 20, .inl zspf)), (scself, .inr (2, [.ref sca])), (sca, .inl (cI, 20, .inl zscf)), (oself, .inr (1, [.ref oplself, .ref opaself, .ref oogself, .ref odrself, .ref ospself, .ref oscself, .int omany, .int ogens])), (oplself, .inr (2, [.ref opla])), (opla, .inl (cI, 240, .inl oplf)), (opaself, .inr (2, [.ref opaa])), (opaa, .inl (cI, 240, .inl opaf)), (oogself, .inr (2, [.ref ooga])), (ooga, .inl (cI, 20, .inl oogf)), (odrself, .inr (2, [.ref odra])), (odra, .inl (cI, 20, .inl odrf)), (ospself, .inr (2, [.ref ospa])), (ospa, .inl (cI, 20, .inl ospf)), (oscself, .inr (2, [.ref osca])), (osca, .inl (cI, 20, .inl oscf))] (va_A [(self, .inr (1, [.ref plself, .ref paself, .ref ogself, .ref drself, .ref spself, .ref scself, .int many, .int gens])), (plself, .inr (2, [.ref pla])), (pla, .inl (cI, 240, .inl plf)), (paself, .inr (2, [.ref paa])), (paa, .inl (cI, 240, .inl paf)), (ogself, .inr (2, [.ref oga])), (oga, .inl (cI, 20, .inl ogf)), (drself, .inr (2, [.ref dra])), (dra, .inl (cI, 20, .inl drf)), (spself, .inr (2, [.ref spa])), (spa, .inl (cI, 20, .inl spf)), (scself, .inr (2, [.ref sca])), (sca, .inl (cI, 20, .inl scf)), (oself, .inr (1, [.ref oplself, .ref opaself, .ref oogself, .ref odrself, .ref ospself, .ref oscself, .int omany, .int ogens])), (oplself, .inr (2, [.ref opla])), (opla, .inl (cI, 240, .inl oplf)), (opaself, .inr (2, [.ref opaa])), (opaa, .inl (cI, 240, .inl opaf)), (oogself, .inr (2, [.ref ooga])), (ooga, .inl (cI, 20, .inl oogf)), (odrself, .inr (2, [.ref odra])), (odra, .inl (cI, 20, .inl odrf)), (ospself, .inr (2, [.ref ospa])), (ospa, .inl (cI, 20, .inl ospf)), (oscself, .inr (2, [.ref osca])), (osca, .inl (cI, 20, .inl oscf))] sz)) 0 0 (va_A [(self, .inr (1, [.ref plself, .ref paself, .ref ogself, .ref drself, .ref spself, .ref scself, .int many, .int gens])), (plself, .inr (2, [.ref pla])), (pla, .inl (cI, 240, .inl plf)), (paself, .inr (2, [.ref paa])), (paa, .inl (cI, 240, .inl paf)), (ogself, .inr (2, [.ref oga])), (oga, .inl (cI, 20, .inl ogf)), (drself, .inr (2, [.ref dra])), (dra, .inl (cI, 20, .inl drf)), (spself, .inr (2, [.ref spa])), (spa, .inl (cI, 20, .inl spf)), (scself, .inr (2, [.ref sca])), (sca, .inl (cI, 20, .inl scf)), (oself, .inr (1, [.ref oplself, .ref opaself, .ref oogself, .ref odrself, .ref ospself, .ref oscself, .int omany, .int ogens])), (oplself, .inr (2, [.ref opla])), (opla, .inl (cI, 240, .inl oplf)), (opaself, .inr (2, [.ref opaa])), (opaa, .inl (cI, 240, .inl opaf)), (oogself, .inr (2, [.ref ooga])), (ooga, .inl (cI, 20, .inl oogf)), (odrself, .inr (2, [.ref odra])), (odra, .inl (cI, 20, .inl odrf)), (ospself, .inr (2, [.ref ospa])), (ospa, .inl (cI, 20, .inl ospf)), (oscself, .inr (2, [.ref osca])), (osca, .inl (cI, 20, .inl oscf))] sz) := by
  refine kM_wv cX1_copyLineage 2 (by decide +kernel) rfl rfl (Nat.le_of_ble_eq_true rfl) ⟨rfl, rfl⟩ ?_
  intro p e s m args below meth c Q A ls hx hb hml hown hts hP hK hD hA hS hl hret
  have hk59 := hts _ (List.mem_cons_of_mem _ wl59)
  have hk60 := hts _ (List.mem_cons_of_mem _ wl60)
  have hk61 := hts _ (List.mem_cons_of_mem _ wl61)
  have hk62 := hts _ (List.mem_cons_of_mem _ wl62)
  have hk63 := hts _ (List.mem_cons_of_mem _ wl63)
  have hk64 := hts _ (List.mem_cons_of_mem _ wl64)
  have hk65 := hts _ (List.mem_cons_of_mem _ wl65)
  have hk66 := hts _ (List.mem_cons_of_mem _ wl66)
  have hnX1 : ∀ w ∈ u_ws RX1 TX1 8, w ∈ wz yX1_copyLineage cX1_copyLineage 2 none := fun w h => List.mem_cons_of_mem _ (inlX1 w h)
  replace hl : lv_has ls 2 [(0, .ref self), (1, .ref oself)] := hl
  have h := hF
  unfold F_X1_copyLineage at h
  refine lv_aload_n (pc := 0) hx hb dX1_copyLineage_0 rfl (lv_at hl 0 rfl) ?_
  refine va_get (pc := 1) (D := D) (ci := 1) (v := .ref plself) (C := RX1) (T := TX1) (N := 8) hx hb hts hnX1 hown hK.1 hP 0 rfl rfl 0 (Nat.le_of_ble_eq_true rfl) hk59 (fun _ h9 => h9) rfl dX1_copyLineage_1 ?_
  refine lv_aload_n (pc := 4) hx hb dX1_copyLineage_4 rfl (lv_at hl 1 rfl) ?_
  refine va_get (pc := 5) (D := D) (ci := 1) (v := .ref oplself) (C := RX1) (T := TX1) (N := 8) hx hb hts hnX1 hown hK.1 hP 13 rfl rfl 0 (Nat.le_of_ble_eq_true rfl) hk59 (fun _ h9 => h9) rfl dX1_copyLineage_5 ?_
  obtain ⟨f1, hc1, h⟩ := am_bind_s h
  refine kc_Wv (pc := 8) (ci := 2) ⟨hx, hb, hml, hown, hts⟩ hP hK hD hS hA [.ref oplself] (c_X2_copyRow l D cI cJ plself pla oplself opla 240 240 plf oplf f1 hc1 _) [1, 2, 14, 15] rfl rfl rfl (cwV 1 hts (gzV wl307 wl308 wl309 wl51 wl310) rfl rfl rfl ⟨rfl, hdX2_copyRow⟩ ⟨Nat.le_of_ble_eq_true rfl, Nat.le_of_ble_eq_true rfl⟩) rfl rfl [] rfl hl.1 rfl (Nat.le_of_ble_eq_true rfl) dX1_copyLineage_8 ⟨Nat.zero_le _, Nat.zero_le _⟩ (fun H locs hP hD hS => ?_)
  replace hP : va_P D vwCl [(self, .inr (1, [.ref plself, .ref paself, .ref ogself, .ref drself, .ref spself, .ref scself, .int many, .int gens])), (plself, .inr (2, [.ref pla])), (pla, .inl (cI, 240, .inl f1)), (paself, .inr (2, [.ref paa])), (paa, .inl (cI, 240, .inl paf)), (ogself, .inr (2, [.ref oga])), (oga, .inl (cI, 20, .inl ogf)), (drself, .inr (2, [.ref dra])), (dra, .inl (cI, 20, .inl drf)), (spself, .inr (2, [.ref spa])), (spa, .inl (cI, 20, .inl spf)), (scself, .inr (2, [.ref sca])), (sca, .inl (cI, 20, .inl scf)), (oself, .inr (1, [.ref oplself, .ref opaself, .ref oogself, .ref odrself, .ref ospself, .ref oscself, .int omany, .int ogens])), (oplself, .inr (2, [.ref opla])), (opla, .inl (cI, 240, .inl oplf)), (opaself, .inr (2, [.ref opaa])), (opaa, .inl (cI, 240, .inl opaf)), (oogself, .inr (2, [.ref ooga])), (ooga, .inl (cI, 20, .inl oogf)), (odrself, .inr (2, [.ref odra])), (odra, .inl (cI, 20, .inl odrf)), (ospself, .inr (2, [.ref ospa])), (ospa, .inl (cI, 20, .inl ospf)), (oscself, .inr (2, [.ref osca])), (osca, .inl (cI, 20, .inl oscf))] H := hP
  replace hD : va_D A [(self, .inr (1, [.ref plself, .ref paself, .ref ogself, .ref drself, .ref spself, .ref scself, .int many, .int gens])), (plself, .inr (2, [.ref pla])), (pla, .inl (cI, 240, .inl f1)), (paself, .inr (2, [.ref paa])), (paa, .inl (cI, 240, .inl paf)), (ogself, .inr (2, [.ref oga])), (oga, .inl (cI, 20, .inl ogf)), (drself, .inr (2, [.ref dra])), (dra, .inl (cI, 20, .inl drf)), (spself, .inr (2, [.ref spa])), (spa, .inl (cI, 20, .inl spf)), (scself, .inr (2, [.ref sca])), (sca, .inl (cI, 20, .inl scf)), (oself, .inr (1, [.ref oplself, .ref opaself, .ref oogself, .ref odrself, .ref ospself, .ref oscself, .int omany, .int ogens])), (oplself, .inr (2, [.ref opla])), (opla, .inl (cI, 240, .inl oplf)), (opaself, .inr (2, [.ref opaa])), (opaa, .inl (cI, 240, .inl opaf)), (oogself, .inr (2, [.ref ooga])), (ooga, .inl (cI, 20, .inl oogf)), (odrself, .inr (2, [.ref odra])), (odra, .inl (cI, 20, .inl odrf)), (ospself, .inr (2, [.ref ospa])), (ospa, .inl (cI, 20, .inl ospf)), (oscself, .inr (2, [.ref osca])), (osca, .inl (cI, 20, .inl oscf))] := hD
  refine lv_aload_n (pc := 11) hx hb dX1_copyLineage_11 rfl (lv_at hl 0 rfl) ?_
  refine va_get (pc := 12) (D := D) (ci := 1) (v := .ref paself) (C := RX1) (T := TX1) (N := 8) hx hb hts hnX1 hown hK.1 hP 0 rfl rfl 1 (Nat.le_of_ble_eq_true rfl) hk60 (fun _ h9 => h9) rfl dX1_copyLineage_12 ?_
  refine lv_aload_n (pc := 15) hx hb dX1_copyLineage_15 rfl (lv_at hl 1 rfl) ?_
  refine va_get (pc := 16) (D := D) (ci := 1) (v := .ref opaself) (C := RX1) (T := TX1) (N := 8) hx hb hts hnX1 hown hK.1 hP 13 rfl rfl 1 (Nat.le_of_ble_eq_true rfl) hk60 (fun _ h9 => h9) rfl dX1_copyLineage_16 ?_
  obtain ⟨f2, hc2, h⟩ := am_bind_s h
  refine kc_Wv (pc := 19) (ci := 2) ⟨hx, hb, hml, hown, hts⟩ hP hK hD hS hA [.ref opaself] (c_X2_copyRow l D cI cJ paself paa opaself opaa 240 240 paf opaf f2 hc2 _) [3, 4, 16, 17] rfl rfl rfl (cwV 1 hts (gzV wl307 wl308 wl309 wl51 wl310) rfl rfl rfl ⟨rfl, hdX2_copyRow⟩ ⟨Nat.le_of_ble_eq_true rfl, Nat.le_of_ble_eq_true rfl⟩) rfl rfl [] rfl hl.1 rfl (Nat.le_of_ble_eq_true rfl) dX1_copyLineage_19 ⟨Nat.zero_le _, Nat.zero_le _⟩ (fun H locs hP hD hS => ?_)
  replace hP : va_P D vwCl [(self, .inr (1, [.ref plself, .ref paself, .ref ogself, .ref drself, .ref spself, .ref scself, .int many, .int gens])), (plself, .inr (2, [.ref pla])), (pla, .inl (cI, 240, .inl f1)), (paself, .inr (2, [.ref paa])), (paa, .inl (cI, 240, .inl f2)), (ogself, .inr (2, [.ref oga])), (oga, .inl (cI, 20, .inl ogf)), (drself, .inr (2, [.ref dra])), (dra, .inl (cI, 20, .inl drf)), (spself, .inr (2, [.ref spa])), (spa, .inl (cI, 20, .inl spf)), (scself, .inr (2, [.ref sca])), (sca, .inl (cI, 20, .inl scf)), (oself, .inr (1, [.ref oplself, .ref opaself, .ref oogself, .ref odrself, .ref ospself, .ref oscself, .int omany, .int ogens])), (oplself, .inr (2, [.ref opla])), (opla, .inl (cI, 240, .inl oplf)), (opaself, .inr (2, [.ref opaa])), (opaa, .inl (cI, 240, .inl opaf)), (oogself, .inr (2, [.ref ooga])), (ooga, .inl (cI, 20, .inl oogf)), (odrself, .inr (2, [.ref odra])), (odra, .inl (cI, 20, .inl odrf)), (ospself, .inr (2, [.ref ospa])), (ospa, .inl (cI, 20, .inl ospf)), (oscself, .inr (2, [.ref osca])), (osca, .inl (cI, 20, .inl oscf))] H := hP
  replace hD : va_D A [(self, .inr (1, [.ref plself, .ref paself, .ref ogself, .ref drself, .ref spself, .ref scself, .int many, .int gens])), (plself, .inr (2, [.ref pla])), (pla, .inl (cI, 240, .inl f1)), (paself, .inr (2, [.ref paa])), (paa, .inl (cI, 240, .inl f2)), (ogself, .inr (2, [.ref oga])), (oga, .inl (cI, 20, .inl ogf)), (drself, .inr (2, [.ref dra])), (dra, .inl (cI, 20, .inl drf)), (spself, .inr (2, [.ref spa])), (spa, .inl (cI, 20, .inl spf)), (scself, .inr (2, [.ref sca])), (sca, .inl (cI, 20, .inl scf)), (oself, .inr (1, [.ref oplself, .ref opaself, .ref oogself, .ref odrself, .ref ospself, .ref oscself, .int omany, .int ogens])), (oplself, .inr (2, [.ref opla])), (opla, .inl (cI, 240, .inl oplf)), (opaself, .inr (2, [.ref opaa])), (opaa, .inl (cI, 240, .inl opaf)), (oogself, .inr (2, [.ref ooga])), (ooga, .inl (cI, 20, .inl oogf)), (odrself, .inr (2, [.ref odra])), (odra, .inl (cI, 20, .inl odrf)), (ospself, .inr (2, [.ref ospa])), (ospa, .inl (cI, 20, .inl ospf)), (oscself, .inr (2, [.ref osca])), (osca, .inl (cI, 20, .inl oscf))] := hD
  refine lv_aload_n (pc := 22) hx hb dX1_copyLineage_22 rfl (lv_at hl 0 rfl) ?_
  refine va_get (pc := 23) (D := D) (ci := 1) (v := .ref ogself) (C := RX1) (T := TX1) (N := 8) hx hb hts hnX1 hown hK.1 hP 0 rfl rfl 2 (Nat.le_of_ble_eq_true rfl) hk61 (fun _ h9 => h9) rfl dX1_copyLineage_23 ?_
  refine lv_aload_n (pc := 26) hx hb dX1_copyLineage_26 rfl (lv_at hl 1 rfl) ?_
  refine va_get (pc := 27) (D := D) (ci := 1) (v := .ref oogself) (C := RX1) (T := TX1) (N := 8) hx hb hts hnX1 hown hK.1 hP 13 rfl rfl 2 (Nat.le_of_ble_eq_true rfl) hk61 (fun _ h9 => h9) rfl dX1_copyLineage_27 ?_
  obtain ⟨f3, hc3, h⟩ := am_bind_s h
  refine kc_Wv (pc := 30) (ci := 2) ⟨hx, hb, hml, hown, hts⟩ hP hK hD hS hA [.ref oogself] (c_X2_copyRow l D cI cJ ogself oga oogself ooga 20 20 ogf oogf f3 hc3 _) [5, 6, 18, 19] rfl rfl rfl (cwV 1 hts (gzV wl307 wl308 wl309 wl51 wl310) rfl rfl rfl ⟨rfl, hdX2_copyRow⟩ ⟨Nat.le_of_ble_eq_true rfl, Nat.le_of_ble_eq_true rfl⟩) rfl rfl [] rfl hl.1 rfl (Nat.le_of_ble_eq_true rfl) dX1_copyLineage_30 ⟨Nat.zero_le _, Nat.zero_le _⟩ (fun H locs hP hD hS => ?_)
  replace hP : va_P D vwCl [(self, .inr (1, [.ref plself, .ref paself, .ref ogself, .ref drself, .ref spself, .ref scself, .int many, .int gens])), (plself, .inr (2, [.ref pla])), (pla, .inl (cI, 240, .inl f1)), (paself, .inr (2, [.ref paa])), (paa, .inl (cI, 240, .inl f2)), (ogself, .inr (2, [.ref oga])), (oga, .inl (cI, 20, .inl f3)), (drself, .inr (2, [.ref dra])), (dra, .inl (cI, 20, .inl drf)), (spself, .inr (2, [.ref spa])), (spa, .inl (cI, 20, .inl spf)), (scself, .inr (2, [.ref sca])), (sca, .inl (cI, 20, .inl scf)), (oself, .inr (1, [.ref oplself, .ref opaself, .ref oogself, .ref odrself, .ref ospself, .ref oscself, .int omany, .int ogens])), (oplself, .inr (2, [.ref opla])), (opla, .inl (cI, 240, .inl oplf)), (opaself, .inr (2, [.ref opaa])), (opaa, .inl (cI, 240, .inl opaf)), (oogself, .inr (2, [.ref ooga])), (ooga, .inl (cI, 20, .inl oogf)), (odrself, .inr (2, [.ref odra])), (odra, .inl (cI, 20, .inl odrf)), (ospself, .inr (2, [.ref ospa])), (ospa, .inl (cI, 20, .inl ospf)), (oscself, .inr (2, [.ref osca])), (osca, .inl (cI, 20, .inl oscf))] H := hP
  replace hD : va_D A [(self, .inr (1, [.ref plself, .ref paself, .ref ogself, .ref drself, .ref spself, .ref scself, .int many, .int gens])), (plself, .inr (2, [.ref pla])), (pla, .inl (cI, 240, .inl f1)), (paself, .inr (2, [.ref paa])), (paa, .inl (cI, 240, .inl f2)), (ogself, .inr (2, [.ref oga])), (oga, .inl (cI, 20, .inl f3)), (drself, .inr (2, [.ref dra])), (dra, .inl (cI, 20, .inl drf)), (spself, .inr (2, [.ref spa])), (spa, .inl (cI, 20, .inl spf)), (scself, .inr (2, [.ref sca])), (sca, .inl (cI, 20, .inl scf)), (oself, .inr (1, [.ref oplself, .ref opaself, .ref oogself, .ref odrself, .ref ospself, .ref oscself, .int omany, .int ogens])), (oplself, .inr (2, [.ref opla])), (opla, .inl (cI, 240, .inl oplf)), (opaself, .inr (2, [.ref opaa])), (opaa, .inl (cI, 240, .inl opaf)), (oogself, .inr (2, [.ref ooga])), (ooga, .inl (cI, 20, .inl oogf)), (odrself, .inr (2, [.ref odra])), (odra, .inl (cI, 20, .inl odrf)), (ospself, .inr (2, [.ref ospa])), (ospa, .inl (cI, 20, .inl ospf)), (oscself, .inr (2, [.ref osca])), (osca, .inl (cI, 20, .inl oscf))] := hD
  refine lv_aload_n (pc := 33) hx hb dX1_copyLineage_33 rfl (lv_at hl 0 rfl) ?_
  refine va_get (pc := 34) (D := D) (ci := 1) (v := .ref drself) (C := RX1) (T := TX1) (N := 8) hx hb hts hnX1 hown hK.1 hP 0 rfl rfl 3 (Nat.le_of_ble_eq_true rfl) hk62 (fun _ h9 => h9) rfl dX1_copyLineage_34 ?_
  refine lv_aload_n (pc := 37) hx hb dX1_copyLineage_37 rfl (lv_at hl 1 rfl) ?_
  refine va_get (pc := 38) (D := D) (ci := 1) (v := .ref odrself) (C := RX1) (T := TX1) (N := 8) hx hb hts hnX1 hown hK.1 hP 13 rfl rfl 3 (Nat.le_of_ble_eq_true rfl) hk62 (fun _ h9 => h9) rfl dX1_copyLineage_38 ?_
  obtain ⟨f4, hc4, h⟩ := am_bind_s h
  refine kc_Wv (pc := 41) (ci := 2) ⟨hx, hb, hml, hown, hts⟩ hP hK hD hS hA [.ref odrself] (c_X2_copyRow l D cI cJ drself dra odrself odra 20 20 drf odrf f4 hc4 _) [7, 8, 20, 21] rfl rfl rfl (cwV 1 hts (gzV wl307 wl308 wl309 wl51 wl310) rfl rfl rfl ⟨rfl, hdX2_copyRow⟩ ⟨Nat.le_of_ble_eq_true rfl, Nat.le_of_ble_eq_true rfl⟩) rfl rfl [] rfl hl.1 rfl (Nat.le_of_ble_eq_true rfl) dX1_copyLineage_41 ⟨Nat.zero_le _, Nat.zero_le _⟩ (fun H locs hP hD hS => ?_)
  replace hP : va_P D vwCl [(self, .inr (1, [.ref plself, .ref paself, .ref ogself, .ref drself, .ref spself, .ref scself, .int many, .int gens])), (plself, .inr (2, [.ref pla])), (pla, .inl (cI, 240, .inl f1)), (paself, .inr (2, [.ref paa])), (paa, .inl (cI, 240, .inl f2)), (ogself, .inr (2, [.ref oga])), (oga, .inl (cI, 20, .inl f3)), (drself, .inr (2, [.ref dra])), (dra, .inl (cI, 20, .inl f4)), (spself, .inr (2, [.ref spa])), (spa, .inl (cI, 20, .inl spf)), (scself, .inr (2, [.ref sca])), (sca, .inl (cI, 20, .inl scf)), (oself, .inr (1, [.ref oplself, .ref opaself, .ref oogself, .ref odrself, .ref ospself, .ref oscself, .int omany, .int ogens])), (oplself, .inr (2, [.ref opla])), (opla, .inl (cI, 240, .inl oplf)), (opaself, .inr (2, [.ref opaa])), (opaa, .inl (cI, 240, .inl opaf)), (oogself, .inr (2, [.ref ooga])), (ooga, .inl (cI, 20, .inl oogf)), (odrself, .inr (2, [.ref odra])), (odra, .inl (cI, 20, .inl odrf)), (ospself, .inr (2, [.ref ospa])), (ospa, .inl (cI, 20, .inl ospf)), (oscself, .inr (2, [.ref osca])), (osca, .inl (cI, 20, .inl oscf))] H := hP
  replace hD : va_D A [(self, .inr (1, [.ref plself, .ref paself, .ref ogself, .ref drself, .ref spself, .ref scself, .int many, .int gens])), (plself, .inr (2, [.ref pla])), (pla, .inl (cI, 240, .inl f1)), (paself, .inr (2, [.ref paa])), (paa, .inl (cI, 240, .inl f2)), (ogself, .inr (2, [.ref oga])), (oga, .inl (cI, 20, .inl f3)), (drself, .inr (2, [.ref dra])), (dra, .inl (cI, 20, .inl f4)), (spself, .inr (2, [.ref spa])), (spa, .inl (cI, 20, .inl spf)), (scself, .inr (2, [.ref sca])), (sca, .inl (cI, 20, .inl scf)), (oself, .inr (1, [.ref oplself, .ref opaself, .ref oogself, .ref odrself, .ref ospself, .ref oscself, .int omany, .int ogens])), (oplself, .inr (2, [.ref opla])), (opla, .inl (cI, 240, .inl oplf)), (opaself, .inr (2, [.ref opaa])), (opaa, .inl (cI, 240, .inl opaf)), (oogself, .inr (2, [.ref ooga])), (ooga, .inl (cI, 20, .inl oogf)), (odrself, .inr (2, [.ref odra])), (odra, .inl (cI, 20, .inl odrf)), (ospself, .inr (2, [.ref ospa])), (ospa, .inl (cI, 20, .inl ospf)), (oscself, .inr (2, [.ref osca])), (osca, .inl (cI, 20, .inl oscf))] := hD
  refine lv_aload_n (pc := 44) hx hb dX1_copyLineage_44 rfl (lv_at hl 0 rfl) ?_
  refine va_get (pc := 45) (D := D) (ci := 1) (v := .ref spself) (C := RX1) (T := TX1) (N := 8) hx hb hts hnX1 hown hK.1 hP 0 rfl rfl 4 (Nat.le_of_ble_eq_true rfl) hk63 (fun _ h9 => h9) rfl dX1_copyLineage_45 ?_
  refine lv_aload_n (pc := 48) hx hb dX1_copyLineage_48 rfl (lv_at hl 1 rfl) ?_
  refine va_get (pc := 49) (D := D) (ci := 1) (v := .ref ospself) (C := RX1) (T := TX1) (N := 8) hx hb hts hnX1 hown hK.1 hP 13 rfl rfl 4 (Nat.le_of_ble_eq_true rfl) hk63 (fun _ h9 => h9) rfl dX1_copyLineage_49 ?_
  obtain ⟨f5, hc5, h⟩ := am_bind_s h
  refine kc_Wv (pc := 52) (ci := 2) ⟨hx, hb, hml, hown, hts⟩ hP hK hD hS hA [.ref ospself] (c_X2_copyRow l D cI cJ spself spa ospself ospa 20 20 spf ospf f5 hc5 _) [9, 10, 22, 23] rfl rfl rfl (cwV 1 hts (gzV wl307 wl308 wl309 wl51 wl310) rfl rfl rfl ⟨rfl, hdX2_copyRow⟩ ⟨Nat.le_of_ble_eq_true rfl, Nat.le_of_ble_eq_true rfl⟩) rfl rfl [] rfl hl.1 rfl (Nat.le_of_ble_eq_true rfl) dX1_copyLineage_52 ⟨Nat.zero_le _, Nat.zero_le _⟩ (fun H locs hP hD hS => ?_)
  replace hP : va_P D vwCl [(self, .inr (1, [.ref plself, .ref paself, .ref ogself, .ref drself, .ref spself, .ref scself, .int many, .int gens])), (plself, .inr (2, [.ref pla])), (pla, .inl (cI, 240, .inl f1)), (paself, .inr (2, [.ref paa])), (paa, .inl (cI, 240, .inl f2)), (ogself, .inr (2, [.ref oga])), (oga, .inl (cI, 20, .inl f3)), (drself, .inr (2, [.ref dra])), (dra, .inl (cI, 20, .inl f4)), (spself, .inr (2, [.ref spa])), (spa, .inl (cI, 20, .inl f5)), (scself, .inr (2, [.ref sca])), (sca, .inl (cI, 20, .inl scf)), (oself, .inr (1, [.ref oplself, .ref opaself, .ref oogself, .ref odrself, .ref ospself, .ref oscself, .int omany, .int ogens])), (oplself, .inr (2, [.ref opla])), (opla, .inl (cI, 240, .inl oplf)), (opaself, .inr (2, [.ref opaa])), (opaa, .inl (cI, 240, .inl opaf)), (oogself, .inr (2, [.ref ooga])), (ooga, .inl (cI, 20, .inl oogf)), (odrself, .inr (2, [.ref odra])), (odra, .inl (cI, 20, .inl odrf)), (ospself, .inr (2, [.ref ospa])), (ospa, .inl (cI, 20, .inl ospf)), (oscself, .inr (2, [.ref osca])), (osca, .inl (cI, 20, .inl oscf))] H := hP
  replace hD : va_D A [(self, .inr (1, [.ref plself, .ref paself, .ref ogself, .ref drself, .ref spself, .ref scself, .int many, .int gens])), (plself, .inr (2, [.ref pla])), (pla, .inl (cI, 240, .inl f1)), (paself, .inr (2, [.ref paa])), (paa, .inl (cI, 240, .inl f2)), (ogself, .inr (2, [.ref oga])), (oga, .inl (cI, 20, .inl f3)), (drself, .inr (2, [.ref dra])), (dra, .inl (cI, 20, .inl f4)), (spself, .inr (2, [.ref spa])), (spa, .inl (cI, 20, .inl f5)), (scself, .inr (2, [.ref sca])), (sca, .inl (cI, 20, .inl scf)), (oself, .inr (1, [.ref oplself, .ref opaself, .ref oogself, .ref odrself, .ref ospself, .ref oscself, .int omany, .int ogens])), (oplself, .inr (2, [.ref opla])), (opla, .inl (cI, 240, .inl oplf)), (opaself, .inr (2, [.ref opaa])), (opaa, .inl (cI, 240, .inl opaf)), (oogself, .inr (2, [.ref ooga])), (ooga, .inl (cI, 20, .inl oogf)), (odrself, .inr (2, [.ref odra])), (odra, .inl (cI, 20, .inl odrf)), (ospself, .inr (2, [.ref ospa])), (ospa, .inl (cI, 20, .inl ospf)), (oscself, .inr (2, [.ref osca])), (osca, .inl (cI, 20, .inl oscf))] := hD
  refine lv_aload_n (pc := 55) hx hb dX1_copyLineage_55 rfl (lv_at hl 0 rfl) ?_
  refine va_get (pc := 56) (D := D) (ci := 1) (v := .ref scself) (C := RX1) (T := TX1) (N := 8) hx hb hts hnX1 hown hK.1 hP 0 rfl rfl 5 (Nat.le_of_ble_eq_true rfl) hk64 (fun _ h9 => h9) rfl dX1_copyLineage_56 ?_
  refine lv_aload_n (pc := 59) hx hb dX1_copyLineage_59 rfl (lv_at hl 1 rfl) ?_
  refine va_get (pc := 60) (D := D) (ci := 1) (v := .ref oscself) (C := RX1) (T := TX1) (N := 8) hx hb hts hnX1 hown hK.1 hP 13 rfl rfl 5 (Nat.le_of_ble_eq_true rfl) hk64 (fun _ h9 => h9) rfl dX1_copyLineage_60 ?_
  obtain ⟨f6, hc6, h⟩ := am_bind_s h
  refine kc_Wv (pc := 63) (ci := 2) ⟨hx, hb, hml, hown, hts⟩ hP hK hD hS hA [.ref oscself] (c_X2_copyRow l D cI cJ scself sca oscself osca 20 20 scf oscf f6 hc6 _) [11, 12, 24, 25] rfl rfl rfl (cwV 1 hts (gzV wl307 wl308 wl309 wl51 wl310) rfl rfl rfl ⟨rfl, hdX2_copyRow⟩ ⟨Nat.le_of_ble_eq_true rfl, Nat.le_of_ble_eq_true rfl⟩) rfl rfl [] rfl hl.1 rfl (Nat.le_of_ble_eq_true rfl) dX1_copyLineage_63 ⟨Nat.zero_le _, Nat.zero_le _⟩ (fun H locs hP hD hS => ?_)
  replace hP : va_P D vwCl [(self, .inr (1, [.ref plself, .ref paself, .ref ogself, .ref drself, .ref spself, .ref scself, .int many, .int gens])), (plself, .inr (2, [.ref pla])), (pla, .inl (cI, 240, .inl f1)), (paself, .inr (2, [.ref paa])), (paa, .inl (cI, 240, .inl f2)), (ogself, .inr (2, [.ref oga])), (oga, .inl (cI, 20, .inl f3)), (drself, .inr (2, [.ref dra])), (dra, .inl (cI, 20, .inl f4)), (spself, .inr (2, [.ref spa])), (spa, .inl (cI, 20, .inl f5)), (scself, .inr (2, [.ref sca])), (sca, .inl (cI, 20, .inl f6)), (oself, .inr (1, [.ref oplself, .ref opaself, .ref oogself, .ref odrself, .ref ospself, .ref oscself, .int omany, .int ogens])), (oplself, .inr (2, [.ref opla])), (opla, .inl (cI, 240, .inl oplf)), (opaself, .inr (2, [.ref opaa])), (opaa, .inl (cI, 240, .inl opaf)), (oogself, .inr (2, [.ref ooga])), (ooga, .inl (cI, 20, .inl oogf)), (odrself, .inr (2, [.ref odra])), (odra, .inl (cI, 20, .inl odrf)), (ospself, .inr (2, [.ref ospa])), (ospa, .inl (cI, 20, .inl ospf)), (oscself, .inr (2, [.ref osca])), (osca, .inl (cI, 20, .inl oscf))] H := hP
  replace hD : va_D A [(self, .inr (1, [.ref plself, .ref paself, .ref ogself, .ref drself, .ref spself, .ref scself, .int many, .int gens])), (plself, .inr (2, [.ref pla])), (pla, .inl (cI, 240, .inl f1)), (paself, .inr (2, [.ref paa])), (paa, .inl (cI, 240, .inl f2)), (ogself, .inr (2, [.ref oga])), (oga, .inl (cI, 20, .inl f3)), (drself, .inr (2, [.ref dra])), (dra, .inl (cI, 20, .inl f4)), (spself, .inr (2, [.ref spa])), (spa, .inl (cI, 20, .inl f5)), (scself, .inr (2, [.ref sca])), (sca, .inl (cI, 20, .inl f6)), (oself, .inr (1, [.ref oplself, .ref opaself, .ref oogself, .ref odrself, .ref ospself, .ref oscself, .int omany, .int ogens])), (oplself, .inr (2, [.ref opla])), (opla, .inl (cI, 240, .inl oplf)), (opaself, .inr (2, [.ref opaa])), (opaa, .inl (cI, 240, .inl opaf)), (oogself, .inr (2, [.ref ooga])), (ooga, .inl (cI, 20, .inl oogf)), (odrself, .inr (2, [.ref odra])), (odra, .inl (cI, 20, .inl odrf)), (ospself, .inr (2, [.ref ospa])), (ospa, .inl (cI, 20, .inl ospf)), (oscself, .inr (2, [.ref osca])), (osca, .inl (cI, 20, .inl oscf))] := hD
  refine lv_aload_n (pc := 66) hx hb dX1_copyLineage_66 rfl (lv_at hl 0 rfl) ?_
  refine lv_aload_n (pc := 67) hx hb dX1_copyLineage_67 rfl (lv_at hl 1 rfl) ?_
  refine va_get (pc := 68) (D := D) (ci := 1) (v := .int omany) (C := RX1) (T := TX1) (N := 8) hx hb hts hnX1 hown hK.1 hP 13 rfl rfl 6 (Nat.le_of_ble_eq_true rfl) hk65 (fun _ h9 => h9) rfl dX1_copyLineage_68 ?_
  refine va_put (pc := 71) (D := D) (ci := 1) (v := .int omany) (ty := .int) (C := RX1) (T := TX1) (N := 8) hx hb hts hnX1 tyX1 tyX1_ok nmX1 hown hK.1 hP hD hS 0 rfl rfl 6 (Nat.le_of_ble_eq_true rfl) hk65 (fun _ h9 => h9) rfl (by decide +kernel) rfl rfl (Nat.le_of_ble_eq_true rfl) dX1_copyLineage_71 (fun H locs hP hD hS => ?_)
  replace hP : va_P D vwCl [(self, .inr (1, [.ref plself, .ref paself, .ref ogself, .ref drself, .ref spself, .ref scself, .int omany, .int gens])), (plself, .inr (2, [.ref pla])), (pla, .inl (cI, 240, .inl f1)), (paself, .inr (2, [.ref paa])), (paa, .inl (cI, 240, .inl f2)), (ogself, .inr (2, [.ref oga])), (oga, .inl (cI, 20, .inl f3)), (drself, .inr (2, [.ref dra])), (dra, .inl (cI, 20, .inl f4)), (spself, .inr (2, [.ref spa])), (spa, .inl (cI, 20, .inl f5)), (scself, .inr (2, [.ref sca])), (sca, .inl (cI, 20, .inl f6)), (oself, .inr (1, [.ref oplself, .ref opaself, .ref oogself, .ref odrself, .ref ospself, .ref oscself, .int omany, .int ogens])), (oplself, .inr (2, [.ref opla])), (opla, .inl (cI, 240, .inl oplf)), (opaself, .inr (2, [.ref opaa])), (opaa, .inl (cI, 240, .inl opaf)), (oogself, .inr (2, [.ref ooga])), (ooga, .inl (cI, 20, .inl oogf)), (odrself, .inr (2, [.ref odra])), (odra, .inl (cI, 20, .inl odrf)), (ospself, .inr (2, [.ref ospa])), (ospa, .inl (cI, 20, .inl ospf)), (oscself, .inr (2, [.ref osca])), (osca, .inl (cI, 20, .inl oscf))] H := hP
  replace hD : va_D A [(self, .inr (1, [.ref plself, .ref paself, .ref ogself, .ref drself, .ref spself, .ref scself, .int omany, .int gens])), (plself, .inr (2, [.ref pla])), (pla, .inl (cI, 240, .inl f1)), (paself, .inr (2, [.ref paa])), (paa, .inl (cI, 240, .inl f2)), (ogself, .inr (2, [.ref oga])), (oga, .inl (cI, 20, .inl f3)), (drself, .inr (2, [.ref dra])), (dra, .inl (cI, 20, .inl f4)), (spself, .inr (2, [.ref spa])), (spa, .inl (cI, 20, .inl f5)), (scself, .inr (2, [.ref sca])), (sca, .inl (cI, 20, .inl f6)), (oself, .inr (1, [.ref oplself, .ref opaself, .ref oogself, .ref odrself, .ref ospself, .ref oscself, .int omany, .int ogens])), (oplself, .inr (2, [.ref opla])), (opla, .inl (cI, 240, .inl oplf)), (opaself, .inr (2, [.ref opaa])), (opaa, .inl (cI, 240, .inl opaf)), (oogself, .inr (2, [.ref ooga])), (ooga, .inl (cI, 20, .inl oogf)), (odrself, .inr (2, [.ref odra])), (odra, .inl (cI, 20, .inl odrf)), (ospself, .inr (2, [.ref ospa])), (ospa, .inl (cI, 20, .inl ospf)), (oscself, .inr (2, [.ref osca])), (osca, .inl (cI, 20, .inl oscf))] := hD
  refine lv_aload_n (pc := 74) hx hb dX1_copyLineage_74 rfl (lv_at hl 0 rfl) ?_
  refine lv_aload_n (pc := 75) hx hb dX1_copyLineage_75 rfl (lv_at hl 1 rfl) ?_
  refine va_get (pc := 76) (D := D) (ci := 1) (v := .int ogens) (C := RX1) (T := TX1) (N := 8) hx hb hts hnX1 hown hK.1 hP 13 rfl rfl 7 (Nat.le_of_ble_eq_true rfl) hk66 (fun _ h9 => h9) rfl dX1_copyLineage_76 ?_
  refine va_put (pc := 79) (D := D) (ci := 1) (v := .int ogens) (ty := .int) (C := RX1) (T := TX1) (N := 8) hx hb hts hnX1 tyX1 tyX1_ok nmX1 hown hK.1 hP hD hS 0 rfl rfl 7 (Nat.le_of_ble_eq_true rfl) hk66 (fun _ h9 => h9) rfl (by decide +kernel) rfl rfl (Nat.le_of_ble_eq_true rfl) dX1_copyLineage_79 (fun H locs hP hD hS => ?_)
  replace hP : va_P D vwCl [(self, .inr (1, [.ref plself, .ref paself, .ref ogself, .ref drself, .ref spself, .ref scself, .int omany, .int ogens])), (plself, .inr (2, [.ref pla])), (pla, .inl (cI, 240, .inl f1)), (paself, .inr (2, [.ref paa])), (paa, .inl (cI, 240, .inl f2)), (ogself, .inr (2, [.ref oga])), (oga, .inl (cI, 20, .inl f3)), (drself, .inr (2, [.ref dra])), (dra, .inl (cI, 20, .inl f4)), (spself, .inr (2, [.ref spa])), (spa, .inl (cI, 20, .inl f5)), (scself, .inr (2, [.ref sca])), (sca, .inl (cI, 20, .inl f6)), (oself, .inr (1, [.ref oplself, .ref opaself, .ref oogself, .ref odrself, .ref ospself, .ref oscself, .int omany, .int ogens])), (oplself, .inr (2, [.ref opla])), (opla, .inl (cI, 240, .inl oplf)), (opaself, .inr (2, [.ref opaa])), (opaa, .inl (cI, 240, .inl opaf)), (oogself, .inr (2, [.ref ooga])), (ooga, .inl (cI, 20, .inl oogf)), (odrself, .inr (2, [.ref odra])), (odra, .inl (cI, 20, .inl odrf)), (ospself, .inr (2, [.ref ospa])), (ospa, .inl (cI, 20, .inl ospf)), (oscself, .inr (2, [.ref osca])), (osca, .inl (cI, 20, .inl oscf))] H := hP
  replace hD : va_D A [(self, .inr (1, [.ref plself, .ref paself, .ref ogself, .ref drself, .ref spself, .ref scself, .int omany, .int ogens])), (plself, .inr (2, [.ref pla])), (pla, .inl (cI, 240, .inl f1)), (paself, .inr (2, [.ref paa])), (paa, .inl (cI, 240, .inl f2)), (ogself, .inr (2, [.ref oga])), (oga, .inl (cI, 20, .inl f3)), (drself, .inr (2, [.ref dra])), (dra, .inl (cI, 20, .inl f4)), (spself, .inr (2, [.ref spa])), (spa, .inl (cI, 20, .inl f5)), (scself, .inr (2, [.ref sca])), (sca, .inl (cI, 20, .inl f6)), (oself, .inr (1, [.ref oplself, .ref opaself, .ref oogself, .ref odrself, .ref ospself, .ref oscself, .int omany, .int ogens])), (oplself, .inr (2, [.ref opla])), (opla, .inl (cI, 240, .inl oplf)), (opaself, .inr (2, [.ref opaa])), (opaa, .inl (cI, 240, .inl opaf)), (oogself, .inr (2, [.ref ooga])), (ooga, .inl (cI, 20, .inl oogf)), (odrself, .inr (2, [.ref odra])), (odra, .inl (cI, 20, .inl odrf)), (ospself, .inr (2, [.ref ospa])), (ospa, .inl (cI, 20, .inl ospf)), (oscself, .inr (2, [.ref osca])), (osca, .inl (cI, 20, .inl oscf))] := hD
  obtain ⟨e1, e2, e3, e4, e5, e6, e7, e8⟩ := am_ret8 h
  exact hret _ _ _ _ dX1_copyLineage_82 (by rw [← e1, ← e2, ← e3, ← e4, ← e5, ← e6, ← e7, ← e8]; exact hP) hS
theorem hdX1_startWith : yX1_startWith.cls ≠ "java/lang/invoke/MethodHandle" ∧ yX1_startWith.cls ≠ "java/lang/invoke/VarHandle" ∧ (parseMethodDescriptor yX1_startWith.desc).map (fun d => d.parameters.length) = some 3 := by decide +kernel
abbrev rmX1_startWith : Room := { frames := 2, cells := 0, slots := 0, locals := 34 }
set_option maxHeartbeats 20000000 in
set_option maxRecDepth 100000 in
theorem c_X1_startWith (l : Launch) (D : va_G) (cI cJ : ClassId) (self : Nat) (plself : Nat) (pla : Nat) (paself : Nat) (paa : Nat) (ogself : Nat) (oga : Nat) (drself : Nat) (dra : Nat) (spself : Nat) (spa : Nat) (scself : Nat) (sca : Nat) (many : Int32) (gens : Int32) (plf : Nat → Int32) (paf : Nat → Int32) (ogf : Nat → Int32) (drf : Nat → Int32) (spf : Nat → Int32) (scf : Nat → Int32) (p0 : Int32) (p1 : Int32) (p2 : Int32) (zmany : Int32) (zgens : Int32) (zplf : Nat → Int32) (zogf : Nat → Int32) (hF : F_X1_startWith many gens plf ogf p0 p1 p2 = some (zmany, zgens, zplf, zogf)) (sz : Nat) : Met l yX1_startWith (wz yX1_startWith cX1_startWith 5 none) rmX1_startWith (kPw D cI cJ [(self, .inr (1, [.ref plself, .ref paself, .ref ogself, .ref drself, .ref spself, .ref scself, .int many, .int gens])), (plself, .inr (2, [.ref pla])), (pla, .inl (cI, 240, .inl plf)), (paself, .inr (2, [.ref paa])), (paa, .inl (cI, 240, .inl paf)), (ogself, .inr (2, [.ref oga])), (oga, .inl (cI, 20, .inl ogf)), (drself, .inr (2, [.ref dra])), (dra, .inl (cI, 20, .inl drf)), (spself, .inr (2, [.ref spa])), (spa, .inl (cI, 20, .inl spf)), (scself, .inr (2, [.ref sca])), (sca, .inl (cI, 20, .inl scf))] sz [.ref self, .int p0, .int p1, .int p2]) (kQv D [(self, .inr (1, [.ref plself, .ref paself, .ref ogself, .ref drself, .ref spself, .ref scself, .int zmany, .int zgens])), (plself, .inr (2, [.ref pla])), (pla, .inl (cI, 240, .inl zplf)), (paself, .inr (2, [.ref paa])), (paa, .inl (cI, 240, .inl paf)), (ogself, .inr (2, [.ref oga])), (oga, .inl (cI, 20, .inl zogf)), (drself, .inr (2, [.ref dra])), (dra, .inl (cI, 20, .inl drf)), (spself, .inr (2, [.ref spa])), (spa, .inl (cI, 20, .inl spf)), (scself, .inr (2, [.ref sca])), (sca, .inl (cI, 20, .inl scf))] (va_A [(self, .inr (1, [.ref plself, .ref paself, .ref ogself, .ref drself, .ref spself, .ref scself, .int many, .int gens])), (plself, .inr (2, [.ref pla])), (pla, .inl (cI, 240, .inl plf)), (paself, .inr (2, [.ref paa])), (paa, .inl (cI, 240, .inl paf)), (ogself, .inr (2, [.ref oga])), (oga, .inl (cI, 20, .inl ogf)), (drself, .inr (2, [.ref dra])), (dra, .inl (cI, 20, .inl drf)), (spself, .inr (2, [.ref spa])), (spa, .inl (cI, 20, .inl spf)), (scself, .inr (2, [.ref sca])), (sca, .inl (cI, 20, .inl scf))] sz)) 0 0 (va_A [(self, .inr (1, [.ref plself, .ref paself, .ref ogself, .ref drself, .ref spself, .ref scself, .int many, .int gens])), (plself, .inr (2, [.ref pla])), (pla, .inl (cI, 240, .inl plf)), (paself, .inr (2, [.ref paa])), (paa, .inl (cI, 240, .inl paf)), (ogself, .inr (2, [.ref oga])), (oga, .inl (cI, 20, .inl ogf)), (drself, .inr (2, [.ref dra])), (dra, .inl (cI, 20, .inl drf)), (spself, .inr (2, [.ref spa])), (spa, .inl (cI, 20, .inl spf)), (scself, .inr (2, [.ref sca])), (sca, .inl (cI, 20, .inl scf))] sz) := by
  refine kM_wv cX1_startWith 5 (by decide +kernel) rfl rfl (Nat.le_of_ble_eq_true rfl) ⟨rfl, rfl⟩ ?_
  intro p e s m args below meth c Q A ls hx hb hml hown hts hP hK hD hA hS hl hret
  have hk2 := hts _ (List.mem_cons_of_mem _ wl2)
  have hk59 := hts _ (List.mem_cons_of_mem _ wl59)
  have hk61 := hts _ (List.mem_cons_of_mem _ wl61)
  have hk65 := hts _ (List.mem_cons_of_mem _ wl65)
  have hk66 := hts _ (List.mem_cons_of_mem _ wl66)
  have hk99 := hts _ (List.mem_cons_of_mem _ wl99)
  have hnX1 : ∀ w ∈ u_ws RX1 TX1 8, w ∈ wz yX1_startWith cX1_startWith 5 none := fun w h => List.mem_cons_of_mem _ (inlX1 w h)
  replace hl : lv_has ls 5 [(0, .ref self), (1, .int p0), (2, .int p1), (3, .int p2)] := hl
  have h := hF
  unfold F_X1_startWith at h
  refine lv_aload_n (pc := 0) hx hb dX1_startWith_0 rfl (lv_at hl 0 rfl) ?_
  refine lv_iload_n (pc := 1) hx hb dX1_startWith_1 rfl (lv_at hl 1 rfl) ?_
  refine va_put (pc := 2) (D := D) (ci := 1) (v := .int p0) (ty := .int) (C := RX1) (T := TX1) (N := 8) hx hb hts hnX1 tyX1 tyX1_ok nmX1 hown hK.1 hP hD hS 0 rfl rfl 6 (Nat.le_of_ble_eq_true rfl) hk65 (fun _ h9 => h9) rfl (by decide +kernel) rfl rfl (Nat.le_of_ble_eq_true rfl) dX1_startWith_2 (fun H locs hP hD hS => ?_)
  replace hP : va_P D vwCl [(self, .inr (1, [.ref plself, .ref paself, .ref ogself, .ref drself, .ref spself, .ref scself, .int p0, .int gens])), (plself, .inr (2, [.ref pla])), (pla, .inl (cI, 240, .inl plf)), (paself, .inr (2, [.ref paa])), (paa, .inl (cI, 240, .inl paf)), (ogself, .inr (2, [.ref oga])), (oga, .inl (cI, 20, .inl ogf)), (drself, .inr (2, [.ref dra])), (dra, .inl (cI, 20, .inl drf)), (spself, .inr (2, [.ref spa])), (spa, .inl (cI, 20, .inl spf)), (scself, .inr (2, [.ref sca])), (sca, .inl (cI, 20, .inl scf))] H := hP
  replace hD : va_D A [(self, .inr (1, [.ref plself, .ref paself, .ref ogself, .ref drself, .ref spself, .ref scself, .int p0, .int gens])), (plself, .inr (2, [.ref pla])), (pla, .inl (cI, 240, .inl plf)), (paself, .inr (2, [.ref paa])), (paa, .inl (cI, 240, .inl paf)), (ogself, .inr (2, [.ref oga])), (oga, .inl (cI, 20, .inl ogf)), (drself, .inr (2, [.ref dra])), (dra, .inl (cI, 20, .inl drf)), (spself, .inr (2, [.ref spa])), (spa, .inl (cI, 20, .inl spf)), (scself, .inr (2, [.ref sca])), (sca, .inl (cI, 20, .inl scf))] := hD
  refine lv_aload_n (pc := 5) hx hb dX1_startWith_5 rfl (lv_at hl 0 rfl) ?_
  refine lv_iconst (v := 1) (pc := 6) hx hb dX1_startWith_6 (by decide) ?_
  refine va_put (pc := 7) (D := D) (ci := 1) (v := .int (1 : Int32)) (ty := .int) (C := RX1) (T := TX1) (N := 8) hx hb hts hnX1 tyX1 tyX1_ok nmX1 hown hK.1 hP hD hS 0 rfl rfl 7 (Nat.le_of_ble_eq_true rfl) hk66 (fun _ h9 => h9) rfl (by decide +kernel) rfl rfl (Nat.le_of_ble_eq_true rfl) dX1_startWith_7 (fun H locs hP hD hS => ?_)
  replace hP : va_P D vwCl [(self, .inr (1, [.ref plself, .ref paself, .ref ogself, .ref drself, .ref spself, .ref scself, .int p0, .int (1 : Int32)])), (plself, .inr (2, [.ref pla])), (pla, .inl (cI, 240, .inl plf)), (paself, .inr (2, [.ref paa])), (paa, .inl (cI, 240, .inl paf)), (ogself, .inr (2, [.ref oga])), (oga, .inl (cI, 20, .inl ogf)), (drself, .inr (2, [.ref dra])), (dra, .inl (cI, 20, .inl drf)), (spself, .inr (2, [.ref spa])), (spa, .inl (cI, 20, .inl spf)), (scself, .inr (2, [.ref sca])), (sca, .inl (cI, 20, .inl scf))] H := hP
  replace hD : va_D A [(self, .inr (1, [.ref plself, .ref paself, .ref ogself, .ref drself, .ref spself, .ref scself, .int p0, .int (1 : Int32)])), (plself, .inr (2, [.ref pla])), (pla, .inl (cI, 240, .inl plf)), (paself, .inr (2, [.ref paa])), (paa, .inl (cI, 240, .inl paf)), (ogself, .inr (2, [.ref oga])), (oga, .inl (cI, 20, .inl ogf)), (drself, .inr (2, [.ref dra])), (dra, .inl (cI, 20, .inl drf)), (spself, .inr (2, [.ref spa])), (spa, .inl (cI, 20, .inl spf)), (scself, .inr (2, [.ref sca])), (sca, .inl (cI, 20, .inl scf))] := hD
  refine lv_aload_n (pc := 10) hx hb dX1_startWith_10 rfl (lv_at hl 0 rfl) ?_
  refine va_get (pc := 11) (D := D) (ci := 1) (v := .ref ogself) (C := RX1) (T := TX1) (N := 8) hx hb hts hnX1 hown hK.1 hP 0 rfl rfl 2 (Nat.le_of_ble_eq_true rfl) hk61 (fun _ h9 => h9) rfl dX1_startWith_11 ?_
  refine lv_iconst (v := 0) (pc := 14) hx hb dX1_startWith_14 (by decide) ?_
  refine lv_iconst (v := 0) (pc := 15) hx hb dX1_startWith_15 (by decide) ?_
  obtain ⟨f1, hc1, h⟩ := am_bind_s h
  refine kc_Wv (pc := 16) (ci := 2) ⟨hx, hb, hml, hown, hts⟩ hP hK hD hS hA [.int (0 : Int32), .int (0 : Int32)] (c_X2_put l D cI cJ ogself oga 20 ogf (0 : Int32) (0 : Int32) f1 hc1 _) [5, 6] rfl rfl rfl (cwV 2 hts (gzV wl98 wl84 wl85 wl51 wl86) rfl rfl rfl ⟨rfl, hdX2_put⟩ ⟨Nat.le_of_ble_eq_true rfl, Nat.le_of_ble_eq_true rfl⟩) rfl rfl [] rfl hl.1 rfl (Nat.le_of_ble_eq_true rfl) dX1_startWith_16 ⟨Nat.zero_le _, Nat.zero_le _⟩ (fun H locs hP hD hS => ?_)
  replace hP : va_P D vwCl [(self, .inr (1, [.ref plself, .ref paself, .ref ogself, .ref drself, .ref spself, .ref scself, .int p0, .int (1 : Int32)])), (plself, .inr (2, [.ref pla])), (pla, .inl (cI, 240, .inl plf)), (paself, .inr (2, [.ref paa])), (paa, .inl (cI, 240, .inl paf)), (ogself, .inr (2, [.ref oga])), (oga, .inl (cI, 20, .inl f1)), (drself, .inr (2, [.ref dra])), (dra, .inl (cI, 20, .inl drf)), (spself, .inr (2, [.ref spa])), (spa, .inl (cI, 20, .inl spf)), (scself, .inr (2, [.ref sca])), (sca, .inl (cI, 20, .inl scf))] H := hP
  replace hD : va_D A [(self, .inr (1, [.ref plself, .ref paself, .ref ogself, .ref drself, .ref spself, .ref scself, .int p0, .int (1 : Int32)])), (plself, .inr (2, [.ref pla])), (pla, .inl (cI, 240, .inl plf)), (paself, .inr (2, [.ref paa])), (paa, .inl (cI, 240, .inl paf)), (ogself, .inr (2, [.ref oga])), (oga, .inl (cI, 20, .inl f1)), (drself, .inr (2, [.ref dra])), (dra, .inl (cI, 20, .inl drf)), (spself, .inr (2, [.ref spa])), (spa, .inl (cI, 20, .inl spf)), (scself, .inr (2, [.ref sca])), (sca, .inl (cI, 20, .inl scf))] := hD
  refine lv_iconst (v := 0) (pc := 19) hx hb dX1_startWith_19 (by decide) ?_
  refine lv_istore (lv' := [(4, .int (0 : Int32)), (0, .ref self), (1, .int p0), (2, .int p1), (3, .int p2)]) (pc := 20) hx hb dX1_startWith_20 hl (by decide) rfl (fun ls hl => ?_)
  refine am_join1_s (fun (f2 : Nat → Int32) => ∀ (ls : Array Slot), lv_has ls 5 [] → ∀ (H : Heap) (locs : List Loc), va_P D vwCl [(self, .inr (1, [.ref plself, .ref paself, .ref ogself, .ref drself, .ref spself, .ref scself, .int p0, .int (1 : Int32)])), (plself, .inr (2, [.ref pla])), (pla, .inl (cI, 240, .inl f2)), (paself, .inr (2, [.ref paa])), (paa, .inl (cI, 240, .inl paf)), (ogself, .inr (2, [.ref oga])), (oga, .inl (cI, 20, .inl f1)), (drself, .inr (2, [.ref dra])), (dra, .inl (cI, 20, .inl drf)), (spself, .inr (2, [.ref spa])), (spa, .inl (cI, 20, .inl spf)), (scself, .inr (2, [.ref sca])), (sca, .inl (cI, 20, .inl scf))] H → va_D A [(self, .inr (1, [.ref plself, .ref paself, .ref ogself, .ref drself, .ref spself, .ref scself, .int p0, .int (1 : Int32)])), (plself, .inr (2, [.ref pla])), (pla, .inl (cI, 240, .inl f2)), (paself, .inr (2, [.ref paa])), (paa, .inl (cI, 240, .inl paf)), (ogself, .inr (2, [.ref oga])), (oga, .inl (cI, 20, .inl f1)), (drself, .inr (2, [.ref dra])), (dra, .inl (cI, 20, .inl drf)), (spself, .inr (2, [.ref spa])), (spa, .inl (cI, 20, .inl spf)), (scself, .inr (2, [.ref sca])), (sca, .inl (cI, 20, .inl scf))] → va_S A s.heap H locs → W p l e rmX1_startWith s m args below meth c H locs 0 0 Q (F0 m 59 ls [])) h (fun f2 h ls hl H locs hP hD hS => ?_) (fun K3 hK3 h => ?_)
  · obtain ⟨e1, e2, e3, e4⟩ := am_ret4 h
    exact hret _ _ _ _ dX1_startWith_59 (by rw [← e1, ← e2, ← e3, ← e4]; exact hP) hS
  refine am_loop2_s (fun (x4 : Int32) (f5 : Nat → Int32) => ∀ (ls : Array Slot), lv_has ls 5 [(0, .ref self), (1, .int p0), (2, .int p1), (3, .int p2), (4, .int x4)] → ∀ (H : Heap) (locs : List Loc), va_P D vwCl [(self, .inr (1, [.ref plself, .ref paself, .ref ogself, .ref drself, .ref spself, .ref scself, .int p0, .int (1 : Int32)])), (plself, .inr (2, [.ref pla])), (pla, .inl (cI, 240, .inl f5)), (paself, .inr (2, [.ref paa])), (paa, .inl (cI, 240, .inl paf)), (ogself, .inr (2, [.ref oga])), (oga, .inl (cI, 20, .inl f1)), (drself, .inr (2, [.ref dra])), (dra, .inl (cI, 20, .inl drf)), (spself, .inr (2, [.ref spa])), (spa, .inl (cI, 20, .inl spf)), (scself, .inr (2, [.ref sca])), (sca, .inl (cI, 20, .inl scf))] H → va_D A [(self, .inr (1, [.ref plself, .ref paself, .ref ogself, .ref drself, .ref spself, .ref scself, .int p0, .int (1 : Int32)])), (plself, .inr (2, [.ref pla])), (pla, .inl (cI, 240, .inl f5)), (paself, .inr (2, [.ref paa])), (paa, .inl (cI, 240, .inl paf)), (ogself, .inr (2, [.ref oga])), (oga, .inl (cI, 20, .inl f1)), (drself, .inr (2, [.ref dra])), (dra, .inl (cI, 20, .inl drf)), (spself, .inr (2, [.ref spa])), (spa, .inl (cI, 20, .inl spf)), (scself, .inr (2, [.ref sca])), (sca, .inl (cI, 20, .inl scf))] → va_S A s.heap H locs → W p l e rmX1_startWith s m args below meth c H locs 0 0 Q (F0 m 22 ls [])) (fun rec6 ihrec6 x4 f5 h ls hl H locs hP hD hS => ?_) _ _ _ h ls (lv_sub hl [1, 2, 3, 4, 0] rfl) H locs hP hD hS
  unfold F_X1_startWith_B22 at h
  refine lv_iload (pc := 22) hx hb dX1_startWith_22 (lv_at hl 4 rfl) ?_
  refine lv_iload_n (pc := 24) hx hb dX1_startWith_24 rfl (lv_at hl 1 rfl) ?_
  refine lv_icmp_ge (pc := 25) (tgt := 59) hx hb dX1_startWith_25 (by decide) (fun cc => ?_) (fun cc => ?_)
  · replace h := am_t cc h
    exact hK3 _ h ls (lv_sub hl [] rfl) H locs hP hD hS
  replace h := am_f cc h
  refine lv_iload (pc := 28) hx hb dX1_startWith_28 (lv_at hl 4 rfl) ?_
  refine lv_bipush (v := 12) (pc := 30) hx hb dX1_startWith_30 (by decide) ?_
  refine lv_icmp_ge (pc := 32) (tgt := 59) hx hb dX1_startWith_32 (by decide) (fun cc => ?_) (fun cc => ?_)
  · replace h := am_t cc h
    exact hK3 _ h ls (lv_sub hl [] rfl) H locs hP hD hS
  replace h := am_f cc h
  refine lv_aload_n (pc := 35) hx hb dX1_startWith_35 rfl (lv_at hl 0 rfl) ?_
  refine va_get (pc := 36) (D := D) (ci := 1) (v := .ref plself) (C := RX1) (T := TX1) (N := 8) hx hb hts hnX1 hown hK.1 hP 0 rfl rfl 0 (Nat.le_of_ble_eq_true rfl) hk59 (fun _ h9 => h9) rfl dX1_startWith_36 ?_
  refine lv_iload (pc := 39) hx hb dX1_startWith_39 (lv_at hl 4 rfl) ?_
  refine lv_iload_n (pc := 41) hx hb dX1_startWith_41 rfl (lv_at hl 2 rfl) ?_
  refine lv_iload (pc := 42) hx hb dX1_startWith_42 (lv_at hl 4 rfl) ?_
  refine lv_iload_n (pc := 44) hx hb dX1_startWith_44 rfl (lv_at hl 3 rfl) ?_
  refine lv_imul (pc := 45) hx hb dX1_startWith_45 ?_
  refine lv_iadd (pc := 46) hx hb dX1_startWith_46 ?_
  obtain ⟨r7, hc7, h⟩ := am_bind_s h
  refine kc_Ni (pc := 47) ⟨hx, hb, hml, hown, hts⟩ hP hK [.int (p1 + (x4 * p2))] (c_X6_nearestPlace l D cI cJ (p1 + (x4 * p2)) r7 hc7) [] rfl ⟨va_cnB 1 hts (gzN wl100) rfl rfl rfl hK.2.1 hk2 hdX6_nearestPlace ⟨Nat.le_of_ble_eq_true rfl, Nat.le_of_ble_eq_true rfl⟩, hk99, trivial⟩ [.int x4, .ref plself] rfl hl.1 rfl (Nat.le_of_ble_eq_true rfl) dX1_startWith_47 ⟨Nat.zero_le _, Nat.zero_le _⟩ ?_
  obtain ⟨f8, hc8, h⟩ := am_bind_s h
  refine kc_Wv (pc := 50) (ci := 2) ⟨hx, hb, hml, hown, hts⟩ hP hK hD hS hA [.int x4, .int r7] (c_X2_put l D cI cJ plself pla 240 f5 x4 r7 f8 hc8 _) [1, 2] rfl rfl rfl (cwV 2 hts (gzV wl98 wl84 wl85 wl51 wl86) rfl rfl rfl ⟨rfl, hdX2_put⟩ ⟨Nat.le_of_ble_eq_true rfl, Nat.le_of_ble_eq_true rfl⟩) rfl rfl [] rfl hl.1 rfl (Nat.le_of_ble_eq_true rfl) dX1_startWith_50 ⟨Nat.zero_le _, Nat.zero_le _⟩ (fun H locs hP hD hS => ?_)
  replace hP : va_P D vwCl [(self, .inr (1, [.ref plself, .ref paself, .ref ogself, .ref drself, .ref spself, .ref scself, .int p0, .int (1 : Int32)])), (plself, .inr (2, [.ref pla])), (pla, .inl (cI, 240, .inl f8)), (paself, .inr (2, [.ref paa])), (paa, .inl (cI, 240, .inl paf)), (ogself, .inr (2, [.ref oga])), (oga, .inl (cI, 20, .inl f1)), (drself, .inr (2, [.ref dra])), (dra, .inl (cI, 20, .inl drf)), (spself, .inr (2, [.ref spa])), (spa, .inl (cI, 20, .inl spf)), (scself, .inr (2, [.ref sca])), (sca, .inl (cI, 20, .inl scf))] H := hP
  replace hD : va_D A [(self, .inr (1, [.ref plself, .ref paself, .ref ogself, .ref drself, .ref spself, .ref scself, .int p0, .int (1 : Int32)])), (plself, .inr (2, [.ref pla])), (pla, .inl (cI, 240, .inl f8)), (paself, .inr (2, [.ref paa])), (paa, .inl (cI, 240, .inl paf)), (ogself, .inr (2, [.ref oga])), (oga, .inl (cI, 20, .inl f1)), (drself, .inr (2, [.ref dra])), (dra, .inl (cI, 20, .inl drf)), (spself, .inr (2, [.ref spa])), (spa, .inl (cI, 20, .inl spf)), (scself, .inr (2, [.ref sca])), (sca, .inl (cI, 20, .inl scf))] := hD
  obtain ⟨x9, ex9⟩ : ∃ y : Int32, y = (x4 + (1 : Int32)) := ⟨_, rfl⟩
  replace h := am_let_s ex9 h
  refine lv_iinc (pc := 53) (v := x9) (lv' := [(4, .int x9), (0, .ref self), (1, .int p0), (2, .int p1), (3, .int p2)]) hx hb dX1_startWith_53 hl (k := 4) rfl (by rw [ex9]; rfl) (by decide) rfl (fun ls hl => ?_)
  refine lv_goto (pc := 56) (tgt := 22) hx hb dX1_startWith_56 (by decide) ?_
  exact ihrec6 _ _ h ls (lv_sub hl [1, 2, 3, 4, 0] rfl) H locs hP hD hS
theorem hdX1_addMoved : yX1_addMoved.cls ≠ "java/lang/invoke/MethodHandle" ∧ yX1_addMoved.cls ≠ "java/lang/invoke/VarHandle" ∧ (parseMethodDescriptor yX1_addMoved.desc).map (fun d => d.parameters.length) = some 2 := by decide +kernel
abbrev rmX1_addMoved : Room := { frames := 1, cells := 0, slots := 0, locals := 22 }
set_option maxHeartbeats 20000000 in
set_option maxRecDepth 100000 in
theorem c_X1_addMoved (l : Launch) (D : va_G) (cI cJ : ClassId) (self : Nat) (plself : Nat) (pla : Nat) (paself : Nat) (paa : Nat) (ogself : Nat) (oga : Nat) (drself : Nat) (dra : Nat) (spself : Nat) (spa : Nat) (scself : Nat) (sca : Nat) (many : Int32) (gens : Int32) (plf : Nat → Int32) (paf : Nat → Int32) (ogf : Nat → Int32) (drf : Nat → Int32) (spf : Nat → Int32) (scf : Nat → Int32) (p0 : Int32) (p1 : Int32) (zgens : Int32) (zogf : Nat → Int32) (zdrf : Nat → Int32) (zspf : Nat → Int32) (hF : F_X1_addMoved gens ogf drf spf p0 p1 = some (zgens, zogf, zdrf, zspf)) (sz : Nat) : Met l yX1_addMoved (wz yX1_addMoved cX1_addMoved 3 none) rmX1_addMoved (kPw D cI cJ [(self, .inr (1, [.ref plself, .ref paself, .ref ogself, .ref drself, .ref spself, .ref scself, .int many, .int gens])), (plself, .inr (2, [.ref pla])), (pla, .inl (cI, 240, .inl plf)), (paself, .inr (2, [.ref paa])), (paa, .inl (cI, 240, .inl paf)), (ogself, .inr (2, [.ref oga])), (oga, .inl (cI, 20, .inl ogf)), (drself, .inr (2, [.ref dra])), (dra, .inl (cI, 20, .inl drf)), (spself, .inr (2, [.ref spa])), (spa, .inl (cI, 20, .inl spf)), (scself, .inr (2, [.ref sca])), (sca, .inl (cI, 20, .inl scf))] sz [.ref self, .int p0, .int p1]) (kQv D [(self, .inr (1, [.ref plself, .ref paself, .ref ogself, .ref drself, .ref spself, .ref scself, .int many, .int zgens])), (plself, .inr (2, [.ref pla])), (pla, .inl (cI, 240, .inl plf)), (paself, .inr (2, [.ref paa])), (paa, .inl (cI, 240, .inl paf)), (ogself, .inr (2, [.ref oga])), (oga, .inl (cI, 20, .inl zogf)), (drself, .inr (2, [.ref dra])), (dra, .inl (cI, 20, .inl zdrf)), (spself, .inr (2, [.ref spa])), (spa, .inl (cI, 20, .inl zspf)), (scself, .inr (2, [.ref sca])), (sca, .inl (cI, 20, .inl scf))] (va_A [(self, .inr (1, [.ref plself, .ref paself, .ref ogself, .ref drself, .ref spself, .ref scself, .int many, .int gens])), (plself, .inr (2, [.ref pla])), (pla, .inl (cI, 240, .inl plf)), (paself, .inr (2, [.ref paa])), (paa, .inl (cI, 240, .inl paf)), (ogself, .inr (2, [.ref oga])), (oga, .inl (cI, 20, .inl ogf)), (drself, .inr (2, [.ref dra])), (dra, .inl (cI, 20, .inl drf)), (spself, .inr (2, [.ref spa])), (spa, .inl (cI, 20, .inl spf)), (scself, .inr (2, [.ref sca])), (sca, .inl (cI, 20, .inl scf))] sz)) 0 0 (va_A [(self, .inr (1, [.ref plself, .ref paself, .ref ogself, .ref drself, .ref spself, .ref scself, .int many, .int gens])), (plself, .inr (2, [.ref pla])), (pla, .inl (cI, 240, .inl plf)), (paself, .inr (2, [.ref paa])), (paa, .inl (cI, 240, .inl paf)), (ogself, .inr (2, [.ref oga])), (oga, .inl (cI, 20, .inl ogf)), (drself, .inr (2, [.ref dra])), (dra, .inl (cI, 20, .inl drf)), (spself, .inr (2, [.ref spa])), (spa, .inl (cI, 20, .inl spf)), (scself, .inr (2, [.ref sca])), (sca, .inl (cI, 20, .inl scf))] sz) := by
  refine kM_wv cX1_addMoved 3 (by decide +kernel) rfl rfl (Nat.le_of_ble_eq_true rfl) ⟨rfl, rfl⟩ ?_
  intro p e s m args below meth c Q A ls hx hb hml hown hts hP hK hD hA hS hl hret
  have hk61 := hts _ (List.mem_cons_of_mem _ wl61)
  have hk62 := hts _ (List.mem_cons_of_mem _ wl62)
  have hk63 := hts _ (List.mem_cons_of_mem _ wl63)
  have hk66 := hts _ (List.mem_cons_of_mem _ wl66)
  have hnX1 : ∀ w ∈ u_ws RX1 TX1 8, w ∈ wz yX1_addMoved cX1_addMoved 3 none := fun w h => List.mem_cons_of_mem _ (inlX1 w h)
  replace hl : lv_has ls 3 [(0, .ref self), (1, .int p0), (2, .int p1)] := hl
  have h := hF
  unfold F_X1_addMoved at h
  refine lv_aload_n (pc := 0) hx hb dX1_addMoved_0 rfl (lv_at hl 0 rfl) ?_
  refine va_get (pc := 1) (D := D) (ci := 1) (v := .ref ogself) (C := RX1) (T := TX1) (N := 8) hx hb hts hnX1 hown hK.1 hP 0 rfl rfl 2 (Nat.le_of_ble_eq_true rfl) hk61 (fun _ h9 => h9) rfl dX1_addMoved_1 ?_
  refine lv_aload_n (pc := 4) hx hb dX1_addMoved_4 rfl (lv_at hl 0 rfl) ?_
  refine va_get (pc := 5) (D := D) (ci := 1) (v := .int gens) (C := RX1) (T := TX1) (N := 8) hx hb hts hnX1 hown hK.1 hP 0 rfl rfl 7 (Nat.le_of_ble_eq_true rfl) hk66 (fun _ h9 => h9) rfl dX1_addMoved_5 ?_
  refine lv_iconst (v := 1) (pc := 8) hx hb dX1_addMoved_8 (by decide) ?_
  obtain ⟨f1, hc1, h⟩ := am_bind_s h
  refine kc_Wv (pc := 9) (ci := 2) ⟨hx, hb, hml, hown, hts⟩ hP hK hD hS hA [.int gens, .int (1 : Int32)] (c_X2_put l D cI cJ ogself oga 20 ogf gens (1 : Int32) f1 hc1 _) [5, 6] rfl rfl rfl (cwV 2 hts (gzV wl98 wl84 wl85 wl51 wl86) rfl rfl rfl ⟨rfl, hdX2_put⟩ ⟨Nat.le_of_ble_eq_true rfl, Nat.le_of_ble_eq_true rfl⟩) rfl rfl [] rfl hl.1 rfl (Nat.le_of_ble_eq_true rfl) dX1_addMoved_9 ⟨Nat.zero_le _, Nat.zero_le _⟩ (fun H locs hP hD hS => ?_)
  replace hP : va_P D vwCl [(self, .inr (1, [.ref plself, .ref paself, .ref ogself, .ref drself, .ref spself, .ref scself, .int many, .int gens])), (plself, .inr (2, [.ref pla])), (pla, .inl (cI, 240, .inl plf)), (paself, .inr (2, [.ref paa])), (paa, .inl (cI, 240, .inl paf)), (ogself, .inr (2, [.ref oga])), (oga, .inl (cI, 20, .inl f1)), (drself, .inr (2, [.ref dra])), (dra, .inl (cI, 20, .inl drf)), (spself, .inr (2, [.ref spa])), (spa, .inl (cI, 20, .inl spf)), (scself, .inr (2, [.ref sca])), (sca, .inl (cI, 20, .inl scf))] H := hP
  replace hD : va_D A [(self, .inr (1, [.ref plself, .ref paself, .ref ogself, .ref drself, .ref spself, .ref scself, .int many, .int gens])), (plself, .inr (2, [.ref pla])), (pla, .inl (cI, 240, .inl plf)), (paself, .inr (2, [.ref paa])), (paa, .inl (cI, 240, .inl paf)), (ogself, .inr (2, [.ref oga])), (oga, .inl (cI, 20, .inl f1)), (drself, .inr (2, [.ref dra])), (dra, .inl (cI, 20, .inl drf)), (spself, .inr (2, [.ref spa])), (spa, .inl (cI, 20, .inl spf)), (scself, .inr (2, [.ref sca])), (sca, .inl (cI, 20, .inl scf))] := hD
  refine lv_aload_n (pc := 12) hx hb dX1_addMoved_12 rfl (lv_at hl 0 rfl) ?_
  refine va_get (pc := 13) (D := D) (ci := 1) (v := .ref drself) (C := RX1) (T := TX1) (N := 8) hx hb hts hnX1 hown hK.1 hP 0 rfl rfl 3 (Nat.le_of_ble_eq_true rfl) hk62 (fun _ h9 => h9) rfl dX1_addMoved_13 ?_
  refine lv_aload_n (pc := 16) hx hb dX1_addMoved_16 rfl (lv_at hl 0 rfl) ?_
  refine va_get (pc := 17) (D := D) (ci := 1) (v := .int gens) (C := RX1) (T := TX1) (N := 8) hx hb hts hnX1 hown hK.1 hP 0 rfl rfl 7 (Nat.le_of_ble_eq_true rfl) hk66 (fun _ h9 => h9) rfl dX1_addMoved_17 ?_
  refine lv_iload_n (pc := 20) hx hb dX1_addMoved_20 rfl (lv_at hl 1 rfl) ?_
  obtain ⟨f2, hc2, h⟩ := am_bind_s h
  refine kc_Wv (pc := 21) (ci := 2) ⟨hx, hb, hml, hown, hts⟩ hP hK hD hS hA [.int gens, .int p0] (c_X2_put l D cI cJ drself dra 20 drf gens p0 f2 hc2 _) [7, 8] rfl rfl rfl (cwV 2 hts (gzV wl98 wl84 wl85 wl51 wl86) rfl rfl rfl ⟨rfl, hdX2_put⟩ ⟨Nat.le_of_ble_eq_true rfl, Nat.le_of_ble_eq_true rfl⟩) rfl rfl [] rfl hl.1 rfl (Nat.le_of_ble_eq_true rfl) dX1_addMoved_21 ⟨Nat.zero_le _, Nat.zero_le _⟩ (fun H locs hP hD hS => ?_)
  replace hP : va_P D vwCl [(self, .inr (1, [.ref plself, .ref paself, .ref ogself, .ref drself, .ref spself, .ref scself, .int many, .int gens])), (plself, .inr (2, [.ref pla])), (pla, .inl (cI, 240, .inl plf)), (paself, .inr (2, [.ref paa])), (paa, .inl (cI, 240, .inl paf)), (ogself, .inr (2, [.ref oga])), (oga, .inl (cI, 20, .inl f1)), (drself, .inr (2, [.ref dra])), (dra, .inl (cI, 20, .inl f2)), (spself, .inr (2, [.ref spa])), (spa, .inl (cI, 20, .inl spf)), (scself, .inr (2, [.ref sca])), (sca, .inl (cI, 20, .inl scf))] H := hP
  replace hD : va_D A [(self, .inr (1, [.ref plself, .ref paself, .ref ogself, .ref drself, .ref spself, .ref scself, .int many, .int gens])), (plself, .inr (2, [.ref pla])), (pla, .inl (cI, 240, .inl plf)), (paself, .inr (2, [.ref paa])), (paa, .inl (cI, 240, .inl paf)), (ogself, .inr (2, [.ref oga])), (oga, .inl (cI, 20, .inl f1)), (drself, .inr (2, [.ref dra])), (dra, .inl (cI, 20, .inl f2)), (spself, .inr (2, [.ref spa])), (spa, .inl (cI, 20, .inl spf)), (scself, .inr (2, [.ref sca])), (sca, .inl (cI, 20, .inl scf))] := hD
  refine lv_aload_n (pc := 24) hx hb dX1_addMoved_24 rfl (lv_at hl 0 rfl) ?_
  refine va_get (pc := 25) (D := D) (ci := 1) (v := .ref spself) (C := RX1) (T := TX1) (N := 8) hx hb hts hnX1 hown hK.1 hP 0 rfl rfl 4 (Nat.le_of_ble_eq_true rfl) hk63 (fun _ h9 => h9) rfl dX1_addMoved_25 ?_
  refine lv_aload_n (pc := 28) hx hb dX1_addMoved_28 rfl (lv_at hl 0 rfl) ?_
  refine va_get (pc := 29) (D := D) (ci := 1) (v := .int gens) (C := RX1) (T := TX1) (N := 8) hx hb hts hnX1 hown hK.1 hP 0 rfl rfl 7 (Nat.le_of_ble_eq_true rfl) hk66 (fun _ h9 => h9) rfl dX1_addMoved_29 ?_
  refine lv_iload_n (pc := 32) hx hb dX1_addMoved_32 rfl (lv_at hl 2 rfl) ?_
  obtain ⟨f3, hc3, h⟩ := am_bind_s h
  refine kc_Wv (pc := 33) (ci := 2) ⟨hx, hb, hml, hown, hts⟩ hP hK hD hS hA [.int gens, .int p1] (c_X2_put l D cI cJ spself spa 20 spf gens p1 f3 hc3 _) [9, 10] rfl rfl rfl (cwV 2 hts (gzV wl98 wl84 wl85 wl51 wl86) rfl rfl rfl ⟨rfl, hdX2_put⟩ ⟨Nat.le_of_ble_eq_true rfl, Nat.le_of_ble_eq_true rfl⟩) rfl rfl [] rfl hl.1 rfl (Nat.le_of_ble_eq_true rfl) dX1_addMoved_33 ⟨Nat.zero_le _, Nat.zero_le _⟩ (fun H locs hP hD hS => ?_)
  replace hP : va_P D vwCl [(self, .inr (1, [.ref plself, .ref paself, .ref ogself, .ref drself, .ref spself, .ref scself, .int many, .int gens])), (plself, .inr (2, [.ref pla])), (pla, .inl (cI, 240, .inl plf)), (paself, .inr (2, [.ref paa])), (paa, .inl (cI, 240, .inl paf)), (ogself, .inr (2, [.ref oga])), (oga, .inl (cI, 20, .inl f1)), (drself, .inr (2, [.ref dra])), (dra, .inl (cI, 20, .inl f2)), (spself, .inr (2, [.ref spa])), (spa, .inl (cI, 20, .inl f3)), (scself, .inr (2, [.ref sca])), (sca, .inl (cI, 20, .inl scf))] H := hP
  replace hD : va_D A [(self, .inr (1, [.ref plself, .ref paself, .ref ogself, .ref drself, .ref spself, .ref scself, .int many, .int gens])), (plself, .inr (2, [.ref pla])), (pla, .inl (cI, 240, .inl plf)), (paself, .inr (2, [.ref paa])), (paa, .inl (cI, 240, .inl paf)), (ogself, .inr (2, [.ref oga])), (oga, .inl (cI, 20, .inl f1)), (drself, .inr (2, [.ref dra])), (dra, .inl (cI, 20, .inl f2)), (spself, .inr (2, [.ref spa])), (spa, .inl (cI, 20, .inl f3)), (scself, .inr (2, [.ref sca])), (sca, .inl (cI, 20, .inl scf))] := hD
  refine lv_aload_n (pc := 36) hx hb dX1_addMoved_36 rfl (lv_at hl 0 rfl) ?_
  refine lv_dup (pc := 37) hx hb dX1_addMoved_37 rfl ?_
  refine va_get (pc := 38) (D := D) (ci := 1) (v := .int gens) (C := RX1) (T := TX1) (N := 8) hx hb hts hnX1 hown hK.1 hP 0 rfl rfl 7 (Nat.le_of_ble_eq_true rfl) hk66 (fun _ h9 => h9) rfl dX1_addMoved_38 ?_
  refine lv_iconst (v := 1) (pc := 41) hx hb dX1_addMoved_41 (by decide) ?_
  refine lv_iadd (pc := 42) hx hb dX1_addMoved_42 ?_
  refine lv_topi (fun x4 ex4 => ?_)
  replace h := am_let_s ex4 h
  refine va_put (pc := 43) (D := D) (ci := 1) (v := .int x4) (ty := .int) (C := RX1) (T := TX1) (N := 8) hx hb hts hnX1 tyX1 tyX1_ok nmX1 hown hK.1 hP hD hS 0 rfl rfl 7 (Nat.le_of_ble_eq_true rfl) hk66 (fun _ h9 => h9) rfl (by decide +kernel) rfl rfl (Nat.le_of_ble_eq_true rfl) dX1_addMoved_43 (fun H locs hP hD hS => ?_)
  replace hP : va_P D vwCl [(self, .inr (1, [.ref plself, .ref paself, .ref ogself, .ref drself, .ref spself, .ref scself, .int many, .int x4])), (plself, .inr (2, [.ref pla])), (pla, .inl (cI, 240, .inl plf)), (paself, .inr (2, [.ref paa])), (paa, .inl (cI, 240, .inl paf)), (ogself, .inr (2, [.ref oga])), (oga, .inl (cI, 20, .inl f1)), (drself, .inr (2, [.ref dra])), (dra, .inl (cI, 20, .inl f2)), (spself, .inr (2, [.ref spa])), (spa, .inl (cI, 20, .inl f3)), (scself, .inr (2, [.ref sca])), (sca, .inl (cI, 20, .inl scf))] H := hP
  replace hD : va_D A [(self, .inr (1, [.ref plself, .ref paself, .ref ogself, .ref drself, .ref spself, .ref scself, .int many, .int x4])), (plself, .inr (2, [.ref pla])), (pla, .inl (cI, 240, .inl plf)), (paself, .inr (2, [.ref paa])), (paa, .inl (cI, 240, .inl paf)), (ogself, .inr (2, [.ref oga])), (oga, .inl (cI, 20, .inl f1)), (drself, .inr (2, [.ref dra])), (dra, .inl (cI, 20, .inl f2)), (spself, .inr (2, [.ref spa])), (spa, .inl (cI, 20, .inl f3)), (scself, .inr (2, [.ref sca])), (sca, .inl (cI, 20, .inl scf))] := hD
  obtain ⟨e1, e2, e3, e4⟩ := am_ret4 h
  exact hret _ _ _ _ dX1_addMoved_46 (by rw [← e1, ← e2, ← e3, ← e4]; exact hP) hS
theorem hdX1_addResampled : yX1_addResampled.cls ≠ "java/lang/invoke/MethodHandle" ∧ yX1_addResampled.cls ≠ "java/lang/invoke/VarHandle" ∧ (parseMethodDescriptor yX1_addResampled.desc).map (fun d => d.parameters.length) = some 1 := by decide +kernel
abbrev rmX1_addResampled : Room := { frames := 1, cells := 0, slots := 0, locals := 22 }
set_option maxHeartbeats 20000000 in
set_option maxRecDepth 100000 in
theorem c_X1_addResampled (l : Launch) (D : va_G) (cI cJ : ClassId) (self : Nat) (plself : Nat) (pla : Nat) (paself : Nat) (paa : Nat) (ogself : Nat) (oga : Nat) (drself : Nat) (dra : Nat) (spself : Nat) (spa : Nat) (scself : Nat) (sca : Nat) (many : Int32) (gens : Int32) (plf : Nat → Int32) (paf : Nat → Int32) (ogf : Nat → Int32) (drf : Nat → Int32) (spf : Nat → Int32) (scf : Nat → Int32) (p0 : Int32) (zgens : Int32) (zogf : Nat → Int32) (zscf : Nat → Int32) (hF : F_X1_addResampled gens ogf scf p0 = some (zgens, zogf, zscf)) (sz : Nat) : Met l yX1_addResampled (wz yX1_addResampled cX1_addResampled 2 none) rmX1_addResampled (kPw D cI cJ [(self, .inr (1, [.ref plself, .ref paself, .ref ogself, .ref drself, .ref spself, .ref scself, .int many, .int gens])), (plself, .inr (2, [.ref pla])), (pla, .inl (cI, 240, .inl plf)), (paself, .inr (2, [.ref paa])), (paa, .inl (cI, 240, .inl paf)), (ogself, .inr (2, [.ref oga])), (oga, .inl (cI, 20, .inl ogf)), (drself, .inr (2, [.ref dra])), (dra, .inl (cI, 20, .inl drf)), (spself, .inr (2, [.ref spa])), (spa, .inl (cI, 20, .inl spf)), (scself, .inr (2, [.ref sca])), (sca, .inl (cI, 20, .inl scf))] sz [.ref self, .int p0]) (kQv D [(self, .inr (1, [.ref plself, .ref paself, .ref ogself, .ref drself, .ref spself, .ref scself, .int many, .int zgens])), (plself, .inr (2, [.ref pla])), (pla, .inl (cI, 240, .inl plf)), (paself, .inr (2, [.ref paa])), (paa, .inl (cI, 240, .inl paf)), (ogself, .inr (2, [.ref oga])), (oga, .inl (cI, 20, .inl zogf)), (drself, .inr (2, [.ref dra])), (dra, .inl (cI, 20, .inl drf)), (spself, .inr (2, [.ref spa])), (spa, .inl (cI, 20, .inl spf)), (scself, .inr (2, [.ref sca])), (sca, .inl (cI, 20, .inl zscf))] (va_A [(self, .inr (1, [.ref plself, .ref paself, .ref ogself, .ref drself, .ref spself, .ref scself, .int many, .int gens])), (plself, .inr (2, [.ref pla])), (pla, .inl (cI, 240, .inl plf)), (paself, .inr (2, [.ref paa])), (paa, .inl (cI, 240, .inl paf)), (ogself, .inr (2, [.ref oga])), (oga, .inl (cI, 20, .inl ogf)), (drself, .inr (2, [.ref dra])), (dra, .inl (cI, 20, .inl drf)), (spself, .inr (2, [.ref spa])), (spa, .inl (cI, 20, .inl spf)), (scself, .inr (2, [.ref sca])), (sca, .inl (cI, 20, .inl scf))] sz)) 0 0 (va_A [(self, .inr (1, [.ref plself, .ref paself, .ref ogself, .ref drself, .ref spself, .ref scself, .int many, .int gens])), (plself, .inr (2, [.ref pla])), (pla, .inl (cI, 240, .inl plf)), (paself, .inr (2, [.ref paa])), (paa, .inl (cI, 240, .inl paf)), (ogself, .inr (2, [.ref oga])), (oga, .inl (cI, 20, .inl ogf)), (drself, .inr (2, [.ref dra])), (dra, .inl (cI, 20, .inl drf)), (spself, .inr (2, [.ref spa])), (spa, .inl (cI, 20, .inl spf)), (scself, .inr (2, [.ref sca])), (sca, .inl (cI, 20, .inl scf))] sz) := by
  refine kM_wv cX1_addResampled 2 (by decide +kernel) rfl rfl (Nat.le_of_ble_eq_true rfl) ⟨rfl, rfl⟩ ?_
  intro p e s m args below meth c Q A ls hx hb hml hown hts hP hK hD hA hS hl hret
  have hk61 := hts _ (List.mem_cons_of_mem _ wl61)
  have hk64 := hts _ (List.mem_cons_of_mem _ wl64)
  have hk66 := hts _ (List.mem_cons_of_mem _ wl66)
  have hnX1 : ∀ w ∈ u_ws RX1 TX1 8, w ∈ wz yX1_addResampled cX1_addResampled 2 none := fun w h => List.mem_cons_of_mem _ (inlX1 w h)
  replace hl : lv_has ls 2 [(0, .ref self), (1, .int p0)] := hl
  have h := hF
  unfold F_X1_addResampled at h
  refine lv_aload_n (pc := 0) hx hb dX1_addResampled_0 rfl (lv_at hl 0 rfl) ?_
  refine va_get (pc := 1) (D := D) (ci := 1) (v := .ref ogself) (C := RX1) (T := TX1) (N := 8) hx hb hts hnX1 hown hK.1 hP 0 rfl rfl 2 (Nat.le_of_ble_eq_true rfl) hk61 (fun _ h9 => h9) rfl dX1_addResampled_1 ?_
  refine lv_aload_n (pc := 4) hx hb dX1_addResampled_4 rfl (lv_at hl 0 rfl) ?_
  refine va_get (pc := 5) (D := D) (ci := 1) (v := .int gens) (C := RX1) (T := TX1) (N := 8) hx hb hts hnX1 hown hK.1 hP 0 rfl rfl 7 (Nat.le_of_ble_eq_true rfl) hk66 (fun _ h9 => h9) rfl dX1_addResampled_5 ?_
  refine lv_iconst (v := 2) (pc := 8) hx hb dX1_addResampled_8 (by decide) ?_
  obtain ⟨f1, hc1, h⟩ := am_bind_s h
  refine kc_Wv (pc := 9) (ci := 2) ⟨hx, hb, hml, hown, hts⟩ hP hK hD hS hA [.int gens, .int (2 : Int32)] (c_X2_put l D cI cJ ogself oga 20 ogf gens (2 : Int32) f1 hc1 _) [5, 6] rfl rfl rfl (cwV 2 hts (gzV wl98 wl84 wl85 wl51 wl86) rfl rfl rfl ⟨rfl, hdX2_put⟩ ⟨Nat.le_of_ble_eq_true rfl, Nat.le_of_ble_eq_true rfl⟩) rfl rfl [] rfl hl.1 rfl (Nat.le_of_ble_eq_true rfl) dX1_addResampled_9 ⟨Nat.zero_le _, Nat.zero_le _⟩ (fun H locs hP hD hS => ?_)
  replace hP : va_P D vwCl [(self, .inr (1, [.ref plself, .ref paself, .ref ogself, .ref drself, .ref spself, .ref scself, .int many, .int gens])), (plself, .inr (2, [.ref pla])), (pla, .inl (cI, 240, .inl plf)), (paself, .inr (2, [.ref paa])), (paa, .inl (cI, 240, .inl paf)), (ogself, .inr (2, [.ref oga])), (oga, .inl (cI, 20, .inl f1)), (drself, .inr (2, [.ref dra])), (dra, .inl (cI, 20, .inl drf)), (spself, .inr (2, [.ref spa])), (spa, .inl (cI, 20, .inl spf)), (scself, .inr (2, [.ref sca])), (sca, .inl (cI, 20, .inl scf))] H := hP
  replace hD : va_D A [(self, .inr (1, [.ref plself, .ref paself, .ref ogself, .ref drself, .ref spself, .ref scself, .int many, .int gens])), (plself, .inr (2, [.ref pla])), (pla, .inl (cI, 240, .inl plf)), (paself, .inr (2, [.ref paa])), (paa, .inl (cI, 240, .inl paf)), (ogself, .inr (2, [.ref oga])), (oga, .inl (cI, 20, .inl f1)), (drself, .inr (2, [.ref dra])), (dra, .inl (cI, 20, .inl drf)), (spself, .inr (2, [.ref spa])), (spa, .inl (cI, 20, .inl spf)), (scself, .inr (2, [.ref sca])), (sca, .inl (cI, 20, .inl scf))] := hD
  refine lv_aload_n (pc := 12) hx hb dX1_addResampled_12 rfl (lv_at hl 0 rfl) ?_
  refine va_get (pc := 13) (D := D) (ci := 1) (v := .ref scself) (C := RX1) (T := TX1) (N := 8) hx hb hts hnX1 hown hK.1 hP 0 rfl rfl 5 (Nat.le_of_ble_eq_true rfl) hk64 (fun _ h9 => h9) rfl dX1_addResampled_13 ?_
  refine lv_aload_n (pc := 16) hx hb dX1_addResampled_16 rfl (lv_at hl 0 rfl) ?_
  refine va_get (pc := 17) (D := D) (ci := 1) (v := .int gens) (C := RX1) (T := TX1) (N := 8) hx hb hts hnX1 hown hK.1 hP 0 rfl rfl 7 (Nat.le_of_ble_eq_true rfl) hk66 (fun _ h9 => h9) rfl dX1_addResampled_17 ?_
  refine lv_iload_n (pc := 20) hx hb dX1_addResampled_20 rfl (lv_at hl 1 rfl) ?_
  obtain ⟨f2, hc2, h⟩ := am_bind_s h
  refine kc_Wv (pc := 21) (ci := 2) ⟨hx, hb, hml, hown, hts⟩ hP hK hD hS hA [.int gens, .int p0] (c_X2_put l D cI cJ scself sca 20 scf gens p0 f2 hc2 _) [11, 12] rfl rfl rfl (cwV 2 hts (gzV wl98 wl84 wl85 wl51 wl86) rfl rfl rfl ⟨rfl, hdX2_put⟩ ⟨Nat.le_of_ble_eq_true rfl, Nat.le_of_ble_eq_true rfl⟩) rfl rfl [] rfl hl.1 rfl (Nat.le_of_ble_eq_true rfl) dX1_addResampled_21 ⟨Nat.zero_le _, Nat.zero_le _⟩ (fun H locs hP hD hS => ?_)
  replace hP : va_P D vwCl [(self, .inr (1, [.ref plself, .ref paself, .ref ogself, .ref drself, .ref spself, .ref scself, .int many, .int gens])), (plself, .inr (2, [.ref pla])), (pla, .inl (cI, 240, .inl plf)), (paself, .inr (2, [.ref paa])), (paa, .inl (cI, 240, .inl paf)), (ogself, .inr (2, [.ref oga])), (oga, .inl (cI, 20, .inl f1)), (drself, .inr (2, [.ref dra])), (dra, .inl (cI, 20, .inl drf)), (spself, .inr (2, [.ref spa])), (spa, .inl (cI, 20, .inl spf)), (scself, .inr (2, [.ref sca])), (sca, .inl (cI, 20, .inl f2))] H := hP
  replace hD : va_D A [(self, .inr (1, [.ref plself, .ref paself, .ref ogself, .ref drself, .ref spself, .ref scself, .int many, .int gens])), (plself, .inr (2, [.ref pla])), (pla, .inl (cI, 240, .inl plf)), (paself, .inr (2, [.ref paa])), (paa, .inl (cI, 240, .inl paf)), (ogself, .inr (2, [.ref oga])), (oga, .inl (cI, 20, .inl f1)), (drself, .inr (2, [.ref dra])), (dra, .inl (cI, 20, .inl drf)), (spself, .inr (2, [.ref spa])), (spa, .inl (cI, 20, .inl spf)), (scself, .inr (2, [.ref sca])), (sca, .inl (cI, 20, .inl f2))] := hD
  refine lv_aload_n (pc := 24) hx hb dX1_addResampled_24 rfl (lv_at hl 0 rfl) ?_
  refine lv_dup (pc := 25) hx hb dX1_addResampled_25 rfl ?_
  refine va_get (pc := 26) (D := D) (ci := 1) (v := .int gens) (C := RX1) (T := TX1) (N := 8) hx hb hts hnX1 hown hK.1 hP 0 rfl rfl 7 (Nat.le_of_ble_eq_true rfl) hk66 (fun _ h9 => h9) rfl dX1_addResampled_26 ?_
  refine lv_iconst (v := 1) (pc := 29) hx hb dX1_addResampled_29 (by decide) ?_
  refine lv_iadd (pc := 30) hx hb dX1_addResampled_30 ?_
  refine lv_topi (fun x3 ex3 => ?_)
  replace h := am_let_s ex3 h
  refine va_put (pc := 31) (D := D) (ci := 1) (v := .int x3) (ty := .int) (C := RX1) (T := TX1) (N := 8) hx hb hts hnX1 tyX1 tyX1_ok nmX1 hown hK.1 hP hD hS 0 rfl rfl 7 (Nat.le_of_ble_eq_true rfl) hk66 (fun _ h9 => h9) rfl (by decide +kernel) rfl rfl (Nat.le_of_ble_eq_true rfl) dX1_addResampled_31 (fun H locs hP hD hS => ?_)
  replace hP : va_P D vwCl [(self, .inr (1, [.ref plself, .ref paself, .ref ogself, .ref drself, .ref spself, .ref scself, .int many, .int x3])), (plself, .inr (2, [.ref pla])), (pla, .inl (cI, 240, .inl plf)), (paself, .inr (2, [.ref paa])), (paa, .inl (cI, 240, .inl paf)), (ogself, .inr (2, [.ref oga])), (oga, .inl (cI, 20, .inl f1)), (drself, .inr (2, [.ref dra])), (dra, .inl (cI, 20, .inl drf)), (spself, .inr (2, [.ref spa])), (spa, .inl (cI, 20, .inl spf)), (scself, .inr (2, [.ref sca])), (sca, .inl (cI, 20, .inl f2))] H := hP
  replace hD : va_D A [(self, .inr (1, [.ref plself, .ref paself, .ref ogself, .ref drself, .ref spself, .ref scself, .int many, .int x3])), (plself, .inr (2, [.ref pla])), (pla, .inl (cI, 240, .inl plf)), (paself, .inr (2, [.ref paa])), (paa, .inl (cI, 240, .inl paf)), (ogself, .inr (2, [.ref oga])), (oga, .inl (cI, 20, .inl f1)), (drself, .inr (2, [.ref dra])), (dra, .inl (cI, 20, .inl drf)), (spself, .inr (2, [.ref spa])), (spa, .inl (cI, 20, .inl spf)), (scself, .inr (2, [.ref sca])), (sca, .inl (cI, 20, .inl f2))] := hD
  obtain ⟨e1, e2, e3⟩ := am_ret3 h
  exact hret _ _ _ _ dX1_addResampled_34 (by rw [← e1, ← e2, ← e3]; exact hP) hS
theorem hdX1_latest : yX1_latest.cls ≠ "java/lang/invoke/MethodHandle" ∧ yX1_latest.cls ≠ "java/lang/invoke/VarHandle" ∧ (parseMethodDescriptor yX1_latest.desc).map (fun d => d.parameters.length) = some 0 := by decide +kernel
abbrev rmX1_latest : Room := { frames := 0, cells := 0, slots := 0, locals := 0 }
set_option maxHeartbeats 20000000 in
set_option maxRecDepth 100000 in
theorem c_X1_latest (l : Launch) (D : va_G) (cI cJ : ClassId) (self : Nat) (plself : Nat) (pla : Nat) (paself : Nat) (paa : Nat) (ogself : Nat) (oga : Nat) (drself : Nat) (dra : Nat) (spself : Nat) (spa : Nat) (scself : Nat) (sca : Nat) (many : Int32) (gens : Int32) (plf : Nat → Int32) (paf : Nat → Int32) (ogf : Nat → Int32) (drf : Nat → Int32) (spf : Nat → Int32) (scf : Nat → Int32)  (r0 : Int32) (hF : F_X1_latest gens = some r0) : Met l yX1_latest (wz yX1_latest cX1_latest 1 (some .int)) rmX1_latest (kPc D cI cJ [(self, .inr (1, [.ref plself, .ref paself, .ref ogself, .ref drself, .ref spself, .ref scself, .int many, .int gens])), (plself, .inr (2, [.ref pla])), (pla, .inl (cI, 240, .inl plf)), (paself, .inr (2, [.ref paa])), (paa, .inl (cI, 240, .inl paf)), (ogself, .inr (2, [.ref oga])), (oga, .inl (cI, 20, .inl ogf)), (drself, .inr (2, [.ref dra])), (dra, .inl (cI, 20, .inl drf)), (spself, .inr (2, [.ref spa])), (spa, .inl (cI, 20, .inl spf)), (scself, .inr (2, [.ref sca])), (sca, .inl (cI, 20, .inl scf))] [.ref self]) (vp_Si (fun r => r = r0)) 0 0 (fun _ => False) := by
  refine kM_ri cX1_latest 1 .int (by decide +kernel) rfl rfl (Nat.le_of_ble_eq_true rfl) ⟨rfl, rfl⟩ ?_
  intro p e s m args below meth c Q ls hx hb hml hown hts hP hK hl hret
  have hk66 := hts _ (List.mem_cons_of_mem _ wl66)
  have hnX1 : ∀ w ∈ u_ws RX1 TX1 8, w ∈ wz yX1_latest cX1_latest 1 (some .int) := fun w h => List.mem_cons_of_mem _ (inlX1 w h)
  replace hl : lv_has ls 1 [(0, .ref self)] := hl
  have h := hF
  unfold F_X1_latest at h
  refine lv_aload_n (pc := 0) hx hb dX1_latest_0 rfl (lv_at hl 0 rfl) ?_
  refine va_get (pc := 1) (D := D) (ci := 1) (v := .int gens) (C := RX1) (T := TX1) (N := 8) hx hb hts hnX1 hown hK.1 hP 0 rfl rfl 7 (Nat.le_of_ble_eq_true rfl) hk66 (fun _ h9 => h9) rfl dX1_latest_1 ?_
  refine lv_iconst (v := 1) (pc := 4) hx hb dX1_latest_4 (by decide) ?_
  refine lv_isub (pc := 5) hx hb dX1_latest_5 ?_
  obtain e1 := am_ret1 h
  exact hret _ _ _ dX1_latest_6 rfl e1
theorem hdX1_putParticle : yX1_putParticle.cls ≠ "java/lang/invoke/MethodHandle" ∧ yX1_putParticle.cls ≠ "java/lang/invoke/VarHandle" ∧ (parseMethodDescriptor yX1_putParticle.desc).map (fun d => d.parameters.length) = some 3 := by decide +kernel
abbrev rmX1_putParticle : Room := { frames := 1, cells := 0, slots := 0, locals := 22 }
set_option maxHeartbeats 20000000 in
set_option maxRecDepth 100000 in
theorem c_X1_putParticle (l : Launch) (D : va_G) (cI cJ : ClassId) (self : Nat) (plself : Nat) (pla : Nat) (paself : Nat) (paa : Nat) (ogself : Nat) (oga : Nat) (drself : Nat) (dra : Nat) (spself : Nat) (spa : Nat) (scself : Nat) (sca : Nat) (many : Int32) (gens : Int32) (plf : Nat → Int32) (paf : Nat → Int32) (ogf : Nat → Int32) (drf : Nat → Int32) (spf : Nat → Int32) (scf : Nat → Int32) (p0 : Int32) (p1 : Int32) (p2 : Int32) (zplf : Nat → Int32) (zpaf : Nat → Int32) (hF : F_X1_putParticle gens plf paf p0 p1 p2 = some (zplf, zpaf)) (sz : Nat) : Met l yX1_putParticle (wz yX1_putParticle cX1_putParticle 5 none) rmX1_putParticle (kPw D cI cJ [(self, .inr (1, [.ref plself, .ref paself, .ref ogself, .ref drself, .ref spself, .ref scself, .int many, .int gens])), (plself, .inr (2, [.ref pla])), (pla, .inl (cI, 240, .inl plf)), (paself, .inr (2, [.ref paa])), (paa, .inl (cI, 240, .inl paf)), (ogself, .inr (2, [.ref oga])), (oga, .inl (cI, 20, .inl ogf)), (drself, .inr (2, [.ref dra])), (dra, .inl (cI, 20, .inl drf)), (spself, .inr (2, [.ref spa])), (spa, .inl (cI, 20, .inl spf)), (scself, .inr (2, [.ref sca])), (sca, .inl (cI, 20, .inl scf))] sz [.ref self, .int p0, .int p1, .int p2]) (kQv D [(self, .inr (1, [.ref plself, .ref paself, .ref ogself, .ref drself, .ref spself, .ref scself, .int many, .int gens])), (plself, .inr (2, [.ref pla])), (pla, .inl (cI, 240, .inl zplf)), (paself, .inr (2, [.ref paa])), (paa, .inl (cI, 240, .inl zpaf)), (ogself, .inr (2, [.ref oga])), (oga, .inl (cI, 20, .inl ogf)), (drself, .inr (2, [.ref dra])), (dra, .inl (cI, 20, .inl drf)), (spself, .inr (2, [.ref spa])), (spa, .inl (cI, 20, .inl spf)), (scself, .inr (2, [.ref sca])), (sca, .inl (cI, 20, .inl scf))] (va_A [(self, .inr (1, [.ref plself, .ref paself, .ref ogself, .ref drself, .ref spself, .ref scself, .int many, .int gens])), (plself, .inr (2, [.ref pla])), (pla, .inl (cI, 240, .inl plf)), (paself, .inr (2, [.ref paa])), (paa, .inl (cI, 240, .inl paf)), (ogself, .inr (2, [.ref oga])), (oga, .inl (cI, 20, .inl ogf)), (drself, .inr (2, [.ref dra])), (dra, .inl (cI, 20, .inl drf)), (spself, .inr (2, [.ref spa])), (spa, .inl (cI, 20, .inl spf)), (scself, .inr (2, [.ref sca])), (sca, .inl (cI, 20, .inl scf))] sz)) 0 0 (va_A [(self, .inr (1, [.ref plself, .ref paself, .ref ogself, .ref drself, .ref spself, .ref scself, .int many, .int gens])), (plself, .inr (2, [.ref pla])), (pla, .inl (cI, 240, .inl plf)), (paself, .inr (2, [.ref paa])), (paa, .inl (cI, 240, .inl paf)), (ogself, .inr (2, [.ref oga])), (oga, .inl (cI, 20, .inl ogf)), (drself, .inr (2, [.ref dra])), (dra, .inl (cI, 20, .inl drf)), (spself, .inr (2, [.ref spa])), (spa, .inl (cI, 20, .inl spf)), (scself, .inr (2, [.ref sca])), (sca, .inl (cI, 20, .inl scf))] sz) := by
  refine kM_wv cX1_putParticle 5 (by decide +kernel) rfl rfl (Nat.le_of_ble_eq_true rfl) ⟨rfl, rfl⟩ ?_
  intro p e s m args below meth c Q A ls hx hb hml hown hts hP hK hD hA hS hl hret
  have hk59 := hts _ (List.mem_cons_of_mem _ wl59)
  have hk60 := hts _ (List.mem_cons_of_mem _ wl60)
  have hnX1 : ∀ w ∈ u_ws RX1 TX1 8, w ∈ wz yX1_putParticle cX1_putParticle 5 none := fun w h => List.mem_cons_of_mem _ (inlX1 w h)
  replace hl : lv_has ls 5 [(0, .ref self), (1, .int p0), (2, .int p1), (3, .int p2)] := hl
  have h := hF
  unfold F_X1_putParticle at h
  refine lv_aload_n (pc := 0) hx hb dX1_putParticle_0 rfl (lv_at hl 0 rfl) ?_
  obtain ⟨r1, hc1, h⟩ := am_bind_s h
  refine kc_Vi (pc := 1) (ci := 1) ⟨hx, hb, hml, hown, hts⟩ hP hK [] (c_X1_latest l D cI cJ self plself pla paself paa ogself oga drself dra spself spa scself sca many gens plf paf ogf drf spf scf r1 hc1) [0, 1, 2, 3, 4, 5, 6, 7, 8, 9, 10, 11, 12] rfl (cwV 0 hts (gzV wl272 wl160 wl161 wl43 wl162) rfl rfl rfl ⟨rfl, hdX1_latest⟩ ⟨Nat.le_of_ble_eq_true rfl, Nat.le_of_ble_eq_true rfl⟩) rfl rfl [] rfl hl.1 rfl (Nat.le_of_ble_eq_true rfl) dX1_putParticle_1 ⟨Nat.zero_le _, Nat.zero_le _⟩ ?_
  refine lv_bipush (v := 12) (pc := 4) hx hb dX1_putParticle_4 (by decide) ?_
  refine lv_imul (pc := 6) hx hb dX1_putParticle_6 ?_
  refine lv_iload_n (pc := 7) hx hb dX1_putParticle_7 rfl (lv_at hl 1 rfl) ?_
  refine lv_iadd (pc := 8) hx hb dX1_putParticle_8 ?_
  refine lv_topi (fun x2 ex2 => ?_)
  replace h := am_let_s ex2 h
  refine lv_istore (lv' := [(4, .int x2), (0, .ref self), (1, .int p0), (2, .int p1), (3, .int p2)]) (pc := 9) hx hb dX1_putParticle_9 hl (by decide) rfl (fun ls hl => ?_)
  refine lv_aload_n (pc := 11) hx hb dX1_putParticle_11 rfl (lv_at hl 1 rfl) ?_
  refine va_get (pc := 12) (D := D) (ci := 1) (v := .ref paself) (C := RX1) (T := TX1) (N := 8) hx hb hts hnX1 hown hK.1 hP 0 rfl rfl 1 (Nat.le_of_ble_eq_true rfl) hk60 (fun _ h9 => h9) rfl dX1_putParticle_12 ?_
  refine lv_iload (pc := 15) hx hb dX1_putParticle_15 (lv_at hl 0 rfl) ?_
  refine lv_iload_n (pc := 17) hx hb dX1_putParticle_17 rfl (lv_at hl 3 rfl) ?_
  obtain ⟨f3, hc3, h⟩ := am_bind_s h
  refine kc_Wv (pc := 18) (ci := 2) ⟨hx, hb, hml, hown, hts⟩ hP hK hD hS hA [.int x2, .int p1] (c_X2_put l D cI cJ paself paa 240 paf x2 p1 f3 hc3 _) [3, 4] rfl rfl rfl (cwV 2 hts (gzV wl98 wl84 wl85 wl51 wl86) rfl rfl rfl ⟨rfl, hdX2_put⟩ ⟨Nat.le_of_ble_eq_true rfl, Nat.le_of_ble_eq_true rfl⟩) rfl rfl [] rfl hl.1 rfl (Nat.le_of_ble_eq_true rfl) dX1_putParticle_18 ⟨Nat.zero_le _, Nat.zero_le _⟩ (fun H locs hP hD hS => ?_)
  replace hP : va_P D vwCl [(self, .inr (1, [.ref plself, .ref paself, .ref ogself, .ref drself, .ref spself, .ref scself, .int many, .int gens])), (plself, .inr (2, [.ref pla])), (pla, .inl (cI, 240, .inl plf)), (paself, .inr (2, [.ref paa])), (paa, .inl (cI, 240, .inl f3)), (ogself, .inr (2, [.ref oga])), (oga, .inl (cI, 20, .inl ogf)), (drself, .inr (2, [.ref dra])), (dra, .inl (cI, 20, .inl drf)), (spself, .inr (2, [.ref spa])), (spa, .inl (cI, 20, .inl spf)), (scself, .inr (2, [.ref sca])), (sca, .inl (cI, 20, .inl scf))] H := hP
  replace hD : va_D A [(self, .inr (1, [.ref plself, .ref paself, .ref ogself, .ref drself, .ref spself, .ref scself, .int many, .int gens])), (plself, .inr (2, [.ref pla])), (pla, .inl (cI, 240, .inl plf)), (paself, .inr (2, [.ref paa])), (paa, .inl (cI, 240, .inl f3)), (ogself, .inr (2, [.ref oga])), (oga, .inl (cI, 20, .inl ogf)), (drself, .inr (2, [.ref dra])), (dra, .inl (cI, 20, .inl drf)), (spself, .inr (2, [.ref spa])), (spa, .inl (cI, 20, .inl spf)), (scself, .inr (2, [.ref sca])), (sca, .inl (cI, 20, .inl scf))] := hD
  refine lv_aload_n (pc := 21) hx hb dX1_putParticle_21 rfl (lv_at hl 1 rfl) ?_
  refine va_get (pc := 22) (D := D) (ci := 1) (v := .ref plself) (C := RX1) (T := TX1) (N := 8) hx hb hts hnX1 hown hK.1 hP 0 rfl rfl 0 (Nat.le_of_ble_eq_true rfl) hk59 (fun _ h9 => h9) rfl dX1_putParticle_22 ?_
  refine lv_iload (pc := 25) hx hb dX1_putParticle_25 (lv_at hl 0 rfl) ?_
  refine lv_iload_n (pc := 27) hx hb dX1_putParticle_27 rfl (lv_at hl 4 rfl) ?_
  obtain ⟨f4, hc4, h⟩ := am_bind_s h
  refine kc_Wv (pc := 28) (ci := 2) ⟨hx, hb, hml, hown, hts⟩ hP hK hD hS hA [.int x2, .int p2] (c_X2_put l D cI cJ plself pla 240 plf x2 p2 f4 hc4 _) [1, 2] rfl rfl rfl (cwV 2 hts (gzV wl98 wl84 wl85 wl51 wl86) rfl rfl rfl ⟨rfl, hdX2_put⟩ ⟨Nat.le_of_ble_eq_true rfl, Nat.le_of_ble_eq_true rfl⟩) rfl rfl [] rfl hl.1 rfl (Nat.le_of_ble_eq_true rfl) dX1_putParticle_28 ⟨Nat.zero_le _, Nat.zero_le _⟩ (fun H locs hP hD hS => ?_)
  replace hP : va_P D vwCl [(self, .inr (1, [.ref plself, .ref paself, .ref ogself, .ref drself, .ref spself, .ref scself, .int many, .int gens])), (plself, .inr (2, [.ref pla])), (pla, .inl (cI, 240, .inl f4)), (paself, .inr (2, [.ref paa])), (paa, .inl (cI, 240, .inl f3)), (ogself, .inr (2, [.ref oga])), (oga, .inl (cI, 20, .inl ogf)), (drself, .inr (2, [.ref dra])), (dra, .inl (cI, 20, .inl drf)), (spself, .inr (2, [.ref spa])), (spa, .inl (cI, 20, .inl spf)), (scself, .inr (2, [.ref sca])), (sca, .inl (cI, 20, .inl scf))] H := hP
  replace hD : va_D A [(self, .inr (1, [.ref plself, .ref paself, .ref ogself, .ref drself, .ref spself, .ref scself, .int many, .int gens])), (plself, .inr (2, [.ref pla])), (pla, .inl (cI, 240, .inl f4)), (paself, .inr (2, [.ref paa])), (paa, .inl (cI, 240, .inl f3)), (ogself, .inr (2, [.ref oga])), (oga, .inl (cI, 20, .inl ogf)), (drself, .inr (2, [.ref dra])), (dra, .inl (cI, 20, .inl drf)), (spself, .inr (2, [.ref spa])), (spa, .inl (cI, 20, .inl spf)), (scself, .inr (2, [.ref sca])), (sca, .inl (cI, 20, .inl scf))] := hD
  obtain ⟨e1, e2⟩ := am_ret2 h
  exact hret _ _ _ _ dX1_putParticle_31 (by rw [← e1, ← e2]; exact hP) hS
theorem hdX1_many : yX1_many.cls ≠ "java/lang/invoke/MethodHandle" ∧ yX1_many.cls ≠ "java/lang/invoke/VarHandle" ∧ (parseMethodDescriptor yX1_many.desc).map (fun d => d.parameters.length) = some 0 := by decide +kernel
abbrev rmX1_many : Room := { frames := 0, cells := 0, slots := 0, locals := 0 }
set_option maxHeartbeats 20000000 in
set_option maxRecDepth 100000 in
theorem c_X1_many (l : Launch) (D : va_G) (cI cJ : ClassId) (self : Nat) (plself : Nat) (pla : Nat) (paself : Nat) (paa : Nat) (ogself : Nat) (oga : Nat) (drself : Nat) (dra : Nat) (spself : Nat) (spa : Nat) (scself : Nat) (sca : Nat) (many : Int32) (gens : Int32) (plf : Nat → Int32) (paf : Nat → Int32) (ogf : Nat → Int32) (drf : Nat → Int32) (spf : Nat → Int32) (scf : Nat → Int32)  (r0 : Int32) (hF : F_X1_many many = some r0) : Met l yX1_many (wz yX1_many cX1_many 1 (some .int)) rmX1_many (kPc D cI cJ [(self, .inr (1, [.ref plself, .ref paself, .ref ogself, .ref drself, .ref spself, .ref scself, .int many, .int gens])), (plself, .inr (2, [.ref pla])), (pla, .inl (cI, 240, .inl plf)), (paself, .inr (2, [.ref paa])), (paa, .inl (cI, 240, .inl paf)), (ogself, .inr (2, [.ref oga])), (oga, .inl (cI, 20, .inl ogf)), (drself, .inr (2, [.ref dra])), (dra, .inl (cI, 20, .inl drf)), (spself, .inr (2, [.ref spa])), (spa, .inl (cI, 20, .inl spf)), (scself, .inr (2, [.ref sca])), (sca, .inl (cI, 20, .inl scf))] [.ref self]) (vp_Si (fun r => r = r0)) 0 0 (fun _ => False) := by
  refine kM_ri cX1_many 1 .int (by decide +kernel) rfl rfl (Nat.le_of_ble_eq_true rfl) ⟨rfl, rfl⟩ ?_
  intro p e s m args below meth c Q ls hx hb hml hown hts hP hK hl hret
  have hk65 := hts _ (List.mem_cons_of_mem _ wl65)
  have hnX1 : ∀ w ∈ u_ws RX1 TX1 8, w ∈ wz yX1_many cX1_many 1 (some .int) := fun w h => List.mem_cons_of_mem _ (inlX1 w h)
  replace hl : lv_has ls 1 [(0, .ref self)] := hl
  have h := hF
  unfold F_X1_many at h
  refine lv_aload_n (pc := 0) hx hb dX1_many_0 rfl (lv_at hl 0 rfl) ?_
  refine va_get (pc := 1) (D := D) (ci := 1) (v := .int many) (C := RX1) (T := TX1) (N := 8) hx hb hts hnX1 hown hK.1 hP 0 rfl rfl 6 (Nat.le_of_ble_eq_true rfl) hk65 (fun _ h9 => h9) rfl dX1_many_1 ?_
  obtain e1 := am_ret1 h
  exact hret _ _ _ dX1_many_4 rfl e1
theorem hdX1_generations : yX1_generations.cls ≠ "java/lang/invoke/MethodHandle" ∧ yX1_generations.cls ≠ "java/lang/invoke/VarHandle" ∧ (parseMethodDescriptor yX1_generations.desc).map (fun d => d.parameters.length) = some 0 := by decide +kernel
abbrev rmX1_generations : Room := { frames := 0, cells := 0, slots := 0, locals := 0 }
set_option maxHeartbeats 20000000 in
set_option maxRecDepth 100000 in
theorem c_X1_generations (l : Launch) (D : va_G) (cI cJ : ClassId) (self : Nat) (plself : Nat) (pla : Nat) (paself : Nat) (paa : Nat) (ogself : Nat) (oga : Nat) (drself : Nat) (dra : Nat) (spself : Nat) (spa : Nat) (scself : Nat) (sca : Nat) (many : Int32) (gens : Int32) (plf : Nat → Int32) (paf : Nat → Int32) (ogf : Nat → Int32) (drf : Nat → Int32) (spf : Nat → Int32) (scf : Nat → Int32)  (r0 : Int32) (hF : F_X1_generations gens = some r0) : Met l yX1_generations (wz yX1_generations cX1_generations 1 (some .int)) rmX1_generations (kPc D cI cJ [(self, .inr (1, [.ref plself, .ref paself, .ref ogself, .ref drself, .ref spself, .ref scself, .int many, .int gens])), (plself, .inr (2, [.ref pla])), (pla, .inl (cI, 240, .inl plf)), (paself, .inr (2, [.ref paa])), (paa, .inl (cI, 240, .inl paf)), (ogself, .inr (2, [.ref oga])), (oga, .inl (cI, 20, .inl ogf)), (drself, .inr (2, [.ref dra])), (dra, .inl (cI, 20, .inl drf)), (spself, .inr (2, [.ref spa])), (spa, .inl (cI, 20, .inl spf)), (scself, .inr (2, [.ref sca])), (sca, .inl (cI, 20, .inl scf))] [.ref self]) (vp_Si (fun r => r = r0)) 0 0 (fun _ => False) := by
  refine kM_ri cX1_generations 1 .int (by decide +kernel) rfl rfl (Nat.le_of_ble_eq_true rfl) ⟨rfl, rfl⟩ ?_
  intro p e s m args below meth c Q ls hx hb hml hown hts hP hK hl hret
  have hk66 := hts _ (List.mem_cons_of_mem _ wl66)
  have hnX1 : ∀ w ∈ u_ws RX1 TX1 8, w ∈ wz yX1_generations cX1_generations 1 (some .int) := fun w h => List.mem_cons_of_mem _ (inlX1 w h)
  replace hl : lv_has ls 1 [(0, .ref self)] := hl
  have h := hF
  unfold F_X1_generations at h
  refine lv_aload_n (pc := 0) hx hb dX1_generations_0 rfl (lv_at hl 0 rfl) ?_
  refine va_get (pc := 1) (D := D) (ci := 1) (v := .int gens) (C := RX1) (T := TX1) (N := 8) hx hb hts hnX1 hown hK.1 hP 0 rfl rfl 7 (Nat.le_of_ble_eq_true rfl) hk66 (fun _ h9 => h9) rfl dX1_generations_1 ?_
  obtain e1 := am_ret1 h
  exact hret _ _ _ dX1_generations_4 rfl e1
theorem hdX1_placeIn : yX1_placeIn.cls ≠ "java/lang/invoke/MethodHandle" ∧ yX1_placeIn.cls ≠ "java/lang/invoke/VarHandle" ∧ (parseMethodDescriptor yX1_placeIn.desc).map (fun d => d.parameters.length) = some 2 := by decide +kernel
abbrev rmX1_placeIn : Room := { frames := 1, cells := 0, slots := 0, locals := 21 }
set_option maxHeartbeats 20000000 in
set_option maxRecDepth 100000 in
theorem c_X1_placeIn (l : Launch) (D : va_G) (cI cJ : ClassId) (self : Nat) (plself : Nat) (pla : Nat) (paself : Nat) (paa : Nat) (ogself : Nat) (oga : Nat) (drself : Nat) (dra : Nat) (spself : Nat) (spa : Nat) (scself : Nat) (sca : Nat) (many : Int32) (gens : Int32) (plf : Nat → Int32) (paf : Nat → Int32) (ogf : Nat → Int32) (drf : Nat → Int32) (spf : Nat → Int32) (scf : Nat → Int32) (p0 : Int32) (p1 : Int32) (r0 : Int32) (hF : F_X1_placeIn plf p0 p1 = some r0) : Met l yX1_placeIn (wz yX1_placeIn cX1_placeIn 3 (some .int)) rmX1_placeIn (kPc D cI cJ [(self, .inr (1, [.ref plself, .ref paself, .ref ogself, .ref drself, .ref spself, .ref scself, .int many, .int gens])), (plself, .inr (2, [.ref pla])), (pla, .inl (cI, 240, .inl plf)), (paself, .inr (2, [.ref paa])), (paa, .inl (cI, 240, .inl paf)), (ogself, .inr (2, [.ref oga])), (oga, .inl (cI, 20, .inl ogf)), (drself, .inr (2, [.ref dra])), (dra, .inl (cI, 20, .inl drf)), (spself, .inr (2, [.ref spa])), (spa, .inl (cI, 20, .inl spf)), (scself, .inr (2, [.ref sca])), (sca, .inl (cI, 20, .inl scf))] [.ref self, .int p0, .int p1]) (vp_Si (fun r => r = r0)) 0 0 (fun _ => False) := by
  refine kM_ri cX1_placeIn 3 .int (by decide +kernel) rfl rfl (Nat.le_of_ble_eq_true rfl) ⟨rfl, rfl⟩ ?_
  intro p e s m args below meth c Q ls hx hb hml hown hts hP hK hl hret
  have hk59 := hts _ (List.mem_cons_of_mem _ wl59)
  have hnX1 : ∀ w ∈ u_ws RX1 TX1 8, w ∈ wz yX1_placeIn cX1_placeIn 3 (some .int) := fun w h => List.mem_cons_of_mem _ (inlX1 w h)
  replace hl : lv_has ls 3 [(0, .ref self), (1, .int p0), (2, .int p1)] := hl
  have h := hF
  unfold F_X1_placeIn at h
  refine lv_aload_n (pc := 0) hx hb dX1_placeIn_0 rfl (lv_at hl 0 rfl) ?_
  refine va_get (pc := 1) (D := D) (ci := 1) (v := .ref plself) (C := RX1) (T := TX1) (N := 8) hx hb hts hnX1 hown hK.1 hP 0 rfl rfl 0 (Nat.le_of_ble_eq_true rfl) hk59 (fun _ h9 => h9) rfl dX1_placeIn_1 ?_
  refine lv_iload_n (pc := 4) hx hb dX1_placeIn_4 rfl (lv_at hl 1 rfl) ?_
  refine lv_bipush (v := 12) (pc := 5) hx hb dX1_placeIn_5 (by decide) ?_
  refine lv_imul (pc := 7) hx hb dX1_placeIn_7 ?_
  refine lv_iload_n (pc := 8) hx hb dX1_placeIn_8 rfl (lv_at hl 2 rfl) ?_
  refine lv_iadd (pc := 9) hx hb dX1_placeIn_9 ?_
  obtain ⟨r1, hc1, h⟩ := am_bind_s h
  refine kc_Vi (pc := 10) (ci := 2) ⟨hx, hb, hml, hown, hts⟩ hP hK [.int ((p0 * (12 : Int32)) + p1)] (c_X2_at l D cI cJ plself pla 240 plf ((p0 * (12 : Int32)) + p1) r1 hc1) [1, 2] rfl (cwV 1 hts (gzV wl167 wl168 wl169 wl51 wl170) rfl rfl rfl ⟨rfl, hdX2_at⟩ ⟨Nat.le_of_ble_eq_true rfl, Nat.le_of_ble_eq_true rfl⟩) rfl rfl [] rfl hl.1 rfl (Nat.le_of_ble_eq_true rfl) dX1_placeIn_10 ⟨Nat.zero_le _, Nat.zero_le _⟩ ?_
  obtain e1 := am_ret1 h
  exact hret _ _ _ dX1_placeIn_13 rfl e1
theorem hdX1_parentIn : yX1_parentIn.cls ≠ "java/lang/invoke/MethodHandle" ∧ yX1_parentIn.cls ≠ "java/lang/invoke/VarHandle" ∧ (parseMethodDescriptor yX1_parentIn.desc).map (fun d => d.parameters.length) = some 2 := by decide +kernel
abbrev rmX1_parentIn : Room := { frames := 1, cells := 0, slots := 0, locals := 21 }
set_option maxHeartbeats 20000000 in
set_option maxRecDepth 100000 in
theorem c_X1_parentIn (l : Launch) (D : va_G) (cI cJ : ClassId) (self : Nat) (plself : Nat) (pla : Nat) (paself : Nat) (paa : Nat) (ogself : Nat) (oga : Nat) (drself : Nat) (dra : Nat) (spself : Nat) (spa : Nat) (scself : Nat) (sca : Nat) (many : Int32) (gens : Int32) (plf : Nat → Int32) (paf : Nat → Int32) (ogf : Nat → Int32) (drf : Nat → Int32) (spf : Nat → Int32) (scf : Nat → Int32) (p0 : Int32) (p1 : Int32) (r0 : Int32) (hF : F_X1_parentIn paf p0 p1 = some r0) : Met l yX1_parentIn (wz yX1_parentIn cX1_parentIn 3 (some .int)) rmX1_parentIn (kPc D cI cJ [(self, .inr (1, [.ref plself, .ref paself, .ref ogself, .ref drself, .ref spself, .ref scself, .int many, .int gens])), (plself, .inr (2, [.ref pla])), (pla, .inl (cI, 240, .inl plf)), (paself, .inr (2, [.ref paa])), (paa, .inl (cI, 240, .inl paf)), (ogself, .inr (2, [.ref oga])), (oga, .inl (cI, 20, .inl ogf)), (drself, .inr (2, [.ref dra])), (dra, .inl (cI, 20, .inl drf)), (spself, .inr (2, [.ref spa])), (spa, .inl (cI, 20, .inl spf)), (scself, .inr (2, [.ref sca])), (sca, .inl (cI, 20, .inl scf))] [.ref self, .int p0, .int p1]) (vp_Si (fun r => r = r0)) 0 0 (fun _ => False) := by
  refine kM_ri cX1_parentIn 3 .int (by decide +kernel) rfl rfl (Nat.le_of_ble_eq_true rfl) ⟨rfl, rfl⟩ ?_
  intro p e s m args below meth c Q ls hx hb hml hown hts hP hK hl hret
  have hk60 := hts _ (List.mem_cons_of_mem _ wl60)
  have hnX1 : ∀ w ∈ u_ws RX1 TX1 8, w ∈ wz yX1_parentIn cX1_parentIn 3 (some .int) := fun w h => List.mem_cons_of_mem _ (inlX1 w h)
  replace hl : lv_has ls 3 [(0, .ref self), (1, .int p0), (2, .int p1)] := hl
  have h := hF
  unfold F_X1_parentIn at h
  refine lv_aload_n (pc := 0) hx hb dX1_parentIn_0 rfl (lv_at hl 0 rfl) ?_
  refine va_get (pc := 1) (D := D) (ci := 1) (v := .ref paself) (C := RX1) (T := TX1) (N := 8) hx hb hts hnX1 hown hK.1 hP 0 rfl rfl 1 (Nat.le_of_ble_eq_true rfl) hk60 (fun _ h9 => h9) rfl dX1_parentIn_1 ?_
  refine lv_iload_n (pc := 4) hx hb dX1_parentIn_4 rfl (lv_at hl 1 rfl) ?_
  refine lv_bipush (v := 12) (pc := 5) hx hb dX1_parentIn_5 (by decide) ?_
  refine lv_imul (pc := 7) hx hb dX1_parentIn_7 ?_
  refine lv_iload_n (pc := 8) hx hb dX1_parentIn_8 rfl (lv_at hl 2 rfl) ?_
  refine lv_iadd (pc := 9) hx hb dX1_parentIn_9 ?_
  obtain ⟨r1, hc1, h⟩ := am_bind_s h
  refine kc_Vi (pc := 10) (ci := 2) ⟨hx, hb, hml, hown, hts⟩ hP hK [.int ((p0 * (12 : Int32)) + p1)] (c_X2_at l D cI cJ paself paa 240 paf ((p0 * (12 : Int32)) + p1) r1 hc1) [3, 4] rfl (cwV 1 hts (gzV wl167 wl168 wl169 wl51 wl170) rfl rfl rfl ⟨rfl, hdX2_at⟩ ⟨Nat.le_of_ble_eq_true rfl, Nat.le_of_ble_eq_true rfl⟩) rfl rfl [] rfl hl.1 rfl (Nat.le_of_ble_eq_true rfl) dX1_parentIn_10 ⟨Nat.zero_le _, Nat.zero_le _⟩ ?_
  obtain e1 := am_ret1 h
  exact hret _ _ _ dX1_parentIn_13 rfl e1
theorem hdX1_originOf : yX1_originOf.cls ≠ "java/lang/invoke/MethodHandle" ∧ yX1_originOf.cls ≠ "java/lang/invoke/VarHandle" ∧ (parseMethodDescriptor yX1_originOf.desc).map (fun d => d.parameters.length) = some 1 := by decide +kernel
abbrev rmX1_originOf : Room := { frames := 1, cells := 0, slots := 0, locals := 21 }
set_option maxHeartbeats 20000000 in
set_option maxRecDepth 100000 in
theorem c_X1_originOf (l : Launch) (D : va_G) (cI cJ : ClassId) (self : Nat) (plself : Nat) (pla : Nat) (paself : Nat) (paa : Nat) (ogself : Nat) (oga : Nat) (drself : Nat) (dra : Nat) (spself : Nat) (spa : Nat) (scself : Nat) (sca : Nat) (many : Int32) (gens : Int32) (plf : Nat → Int32) (paf : Nat → Int32) (ogf : Nat → Int32) (drf : Nat → Int32) (spf : Nat → Int32) (scf : Nat → Int32) (p0 : Int32) (r0 : Int32) (hF : F_X1_originOf ogf p0 = some r0) : Met l yX1_originOf (wz yX1_originOf cX1_originOf 2 (some .int)) rmX1_originOf (kPc D cI cJ [(self, .inr (1, [.ref plself, .ref paself, .ref ogself, .ref drself, .ref spself, .ref scself, .int many, .int gens])), (plself, .inr (2, [.ref pla])), (pla, .inl (cI, 240, .inl plf)), (paself, .inr (2, [.ref paa])), (paa, .inl (cI, 240, .inl paf)), (ogself, .inr (2, [.ref oga])), (oga, .inl (cI, 20, .inl ogf)), (drself, .inr (2, [.ref dra])), (dra, .inl (cI, 20, .inl drf)), (spself, .inr (2, [.ref spa])), (spa, .inl (cI, 20, .inl spf)), (scself, .inr (2, [.ref sca])), (sca, .inl (cI, 20, .inl scf))] [.ref self, .int p0]) (vp_Si (fun r => r = r0)) 0 0 (fun _ => False) := by
  refine kM_ri cX1_originOf 2 .int (by decide +kernel) rfl rfl (Nat.le_of_ble_eq_true rfl) ⟨rfl, rfl⟩ ?_
  intro p e s m args below meth c Q ls hx hb hml hown hts hP hK hl hret
  have hk61 := hts _ (List.mem_cons_of_mem _ wl61)
  have hnX1 : ∀ w ∈ u_ws RX1 TX1 8, w ∈ wz yX1_originOf cX1_originOf 2 (some .int) := fun w h => List.mem_cons_of_mem _ (inlX1 w h)
  replace hl : lv_has ls 2 [(0, .ref self), (1, .int p0)] := hl
  have h := hF
  unfold F_X1_originOf at h
  refine lv_aload_n (pc := 0) hx hb dX1_originOf_0 rfl (lv_at hl 0 rfl) ?_
  refine va_get (pc := 1) (D := D) (ci := 1) (v := .ref ogself) (C := RX1) (T := TX1) (N := 8) hx hb hts hnX1 hown hK.1 hP 0 rfl rfl 2 (Nat.le_of_ble_eq_true rfl) hk61 (fun _ h9 => h9) rfl dX1_originOf_1 ?_
  refine lv_iload_n (pc := 4) hx hb dX1_originOf_4 rfl (lv_at hl 1 rfl) ?_
  obtain ⟨r1, hc1, h⟩ := am_bind_s h
  refine kc_Vi (pc := 5) (ci := 2) ⟨hx, hb, hml, hown, hts⟩ hP hK [.int p0] (c_X2_at l D cI cJ ogself oga 20 ogf p0 r1 hc1) [5, 6] rfl (cwV 1 hts (gzV wl167 wl168 wl169 wl51 wl170) rfl rfl rfl ⟨rfl, hdX2_at⟩ ⟨Nat.le_of_ble_eq_true rfl, Nat.le_of_ble_eq_true rfl⟩) rfl rfl [] rfl hl.1 rfl (Nat.le_of_ble_eq_true rfl) dX1_originOf_5 ⟨Nat.zero_le _, Nat.zero_le _⟩ ?_
  obtain e1 := am_ret1 h
  exact hret _ _ _ dX1_originOf_8 rfl e1
theorem hdX1_driftOf : yX1_driftOf.cls ≠ "java/lang/invoke/MethodHandle" ∧ yX1_driftOf.cls ≠ "java/lang/invoke/VarHandle" ∧ (parseMethodDescriptor yX1_driftOf.desc).map (fun d => d.parameters.length) = some 1 := by decide +kernel
abbrev rmX1_driftOf : Room := { frames := 1, cells := 0, slots := 0, locals := 21 }
set_option maxHeartbeats 20000000 in
set_option maxRecDepth 100000 in
theorem c_X1_driftOf (l : Launch) (D : va_G) (cI cJ : ClassId) (self : Nat) (plself : Nat) (pla : Nat) (paself : Nat) (paa : Nat) (ogself : Nat) (oga : Nat) (drself : Nat) (dra : Nat) (spself : Nat) (spa : Nat) (scself : Nat) (sca : Nat) (many : Int32) (gens : Int32) (plf : Nat → Int32) (paf : Nat → Int32) (ogf : Nat → Int32) (drf : Nat → Int32) (spf : Nat → Int32) (scf : Nat → Int32) (p0 : Int32) (r0 : Int32) (hF : F_X1_driftOf drf p0 = some r0) : Met l yX1_driftOf (wz yX1_driftOf cX1_driftOf 2 (some .int)) rmX1_driftOf (kPc D cI cJ [(self, .inr (1, [.ref plself, .ref paself, .ref ogself, .ref drself, .ref spself, .ref scself, .int many, .int gens])), (plself, .inr (2, [.ref pla])), (pla, .inl (cI, 240, .inl plf)), (paself, .inr (2, [.ref paa])), (paa, .inl (cI, 240, .inl paf)), (ogself, .inr (2, [.ref oga])), (oga, .inl (cI, 20, .inl ogf)), (drself, .inr (2, [.ref dra])), (dra, .inl (cI, 20, .inl drf)), (spself, .inr (2, [.ref spa])), (spa, .inl (cI, 20, .inl spf)), (scself, .inr (2, [.ref sca])), (sca, .inl (cI, 20, .inl scf))] [.ref self, .int p0]) (vp_Si (fun r => r = r0)) 0 0 (fun _ => False) := by
  refine kM_ri cX1_driftOf 2 .int (by decide +kernel) rfl rfl (Nat.le_of_ble_eq_true rfl) ⟨rfl, rfl⟩ ?_
  intro p e s m args below meth c Q ls hx hb hml hown hts hP hK hl hret
  have hk62 := hts _ (List.mem_cons_of_mem _ wl62)
  have hnX1 : ∀ w ∈ u_ws RX1 TX1 8, w ∈ wz yX1_driftOf cX1_driftOf 2 (some .int) := fun w h => List.mem_cons_of_mem _ (inlX1 w h)
  replace hl : lv_has ls 2 [(0, .ref self), (1, .int p0)] := hl
  have h := hF
  unfold F_X1_driftOf at h
  refine lv_aload_n (pc := 0) hx hb dX1_driftOf_0 rfl (lv_at hl 0 rfl) ?_
  refine va_get (pc := 1) (D := D) (ci := 1) (v := .ref drself) (C := RX1) (T := TX1) (N := 8) hx hb hts hnX1 hown hK.1 hP 0 rfl rfl 3 (Nat.le_of_ble_eq_true rfl) hk62 (fun _ h9 => h9) rfl dX1_driftOf_1 ?_
  refine lv_iload_n (pc := 4) hx hb dX1_driftOf_4 rfl (lv_at hl 1 rfl) ?_
  obtain ⟨r1, hc1, h⟩ := am_bind_s h
  refine kc_Vi (pc := 5) (ci := 2) ⟨hx, hb, hml, hown, hts⟩ hP hK [.int p0] (c_X2_at l D cI cJ drself dra 20 drf p0 r1 hc1) [7, 8] rfl (cwV 1 hts (gzV wl167 wl168 wl169 wl51 wl170) rfl rfl rfl ⟨rfl, hdX2_at⟩ ⟨Nat.le_of_ble_eq_true rfl, Nat.le_of_ble_eq_true rfl⟩) rfl rfl [] rfl hl.1 rfl (Nat.le_of_ble_eq_true rfl) dX1_driftOf_5 ⟨Nat.zero_le _, Nat.zero_le _⟩ ?_
  obtain e1 := am_ret1 h
  exact hret _ _ _ dX1_driftOf_8 rfl e1
theorem hdX1_spreadOf : yX1_spreadOf.cls ≠ "java/lang/invoke/MethodHandle" ∧ yX1_spreadOf.cls ≠ "java/lang/invoke/VarHandle" ∧ (parseMethodDescriptor yX1_spreadOf.desc).map (fun d => d.parameters.length) = some 1 := by decide +kernel
abbrev rmX1_spreadOf : Room := { frames := 1, cells := 0, slots := 0, locals := 21 }
set_option maxHeartbeats 20000000 in
set_option maxRecDepth 100000 in
theorem c_X1_spreadOf (l : Launch) (D : va_G) (cI cJ : ClassId) (self : Nat) (plself : Nat) (pla : Nat) (paself : Nat) (paa : Nat) (ogself : Nat) (oga : Nat) (drself : Nat) (dra : Nat) (spself : Nat) (spa : Nat) (scself : Nat) (sca : Nat) (many : Int32) (gens : Int32) (plf : Nat → Int32) (paf : Nat → Int32) (ogf : Nat → Int32) (drf : Nat → Int32) (spf : Nat → Int32) (scf : Nat → Int32) (p0 : Int32) (r0 : Int32) (hF : F_X1_spreadOf spf p0 = some r0) : Met l yX1_spreadOf (wz yX1_spreadOf cX1_spreadOf 2 (some .int)) rmX1_spreadOf (kPc D cI cJ [(self, .inr (1, [.ref plself, .ref paself, .ref ogself, .ref drself, .ref spself, .ref scself, .int many, .int gens])), (plself, .inr (2, [.ref pla])), (pla, .inl (cI, 240, .inl plf)), (paself, .inr (2, [.ref paa])), (paa, .inl (cI, 240, .inl paf)), (ogself, .inr (2, [.ref oga])), (oga, .inl (cI, 20, .inl ogf)), (drself, .inr (2, [.ref dra])), (dra, .inl (cI, 20, .inl drf)), (spself, .inr (2, [.ref spa])), (spa, .inl (cI, 20, .inl spf)), (scself, .inr (2, [.ref sca])), (sca, .inl (cI, 20, .inl scf))] [.ref self, .int p0]) (vp_Si (fun r => r = r0)) 0 0 (fun _ => False) := by
  refine kM_ri cX1_spreadOf 2 .int (by decide +kernel) rfl rfl (Nat.le_of_ble_eq_true rfl) ⟨rfl, rfl⟩ ?_
  intro p e s m args below meth c Q ls hx hb hml hown hts hP hK hl hret
  have hk63 := hts _ (List.mem_cons_of_mem _ wl63)
  have hnX1 : ∀ w ∈ u_ws RX1 TX1 8, w ∈ wz yX1_spreadOf cX1_spreadOf 2 (some .int) := fun w h => List.mem_cons_of_mem _ (inlX1 w h)
  replace hl : lv_has ls 2 [(0, .ref self), (1, .int p0)] := hl
  have h := hF
  unfold F_X1_spreadOf at h
  refine lv_aload_n (pc := 0) hx hb dX1_spreadOf_0 rfl (lv_at hl 0 rfl) ?_
  refine va_get (pc := 1) (D := D) (ci := 1) (v := .ref spself) (C := RX1) (T := TX1) (N := 8) hx hb hts hnX1 hown hK.1 hP 0 rfl rfl 4 (Nat.le_of_ble_eq_true rfl) hk63 (fun _ h9 => h9) rfl dX1_spreadOf_1 ?_
  refine lv_iload_n (pc := 4) hx hb dX1_spreadOf_4 rfl (lv_at hl 1 rfl) ?_
  obtain ⟨r1, hc1, h⟩ := am_bind_s h
  refine kc_Vi (pc := 5) (ci := 2) ⟨hx, hb, hml, hown, hts⟩ hP hK [.int p0] (c_X2_at l D cI cJ spself spa 20 spf p0 r1 hc1) [9, 10] rfl (cwV 1 hts (gzV wl167 wl168 wl169 wl51 wl170) rfl rfl rfl ⟨rfl, hdX2_at⟩ ⟨Nat.le_of_ble_eq_true rfl, Nat.le_of_ble_eq_true rfl⟩) rfl rfl [] rfl hl.1 rfl (Nat.le_of_ble_eq_true rfl) dX1_spreadOf_5 ⟨Nat.zero_le _, Nat.zero_le _⟩ ?_
  obtain e1 := am_ret1 h
  exact hret _ _ _ dX1_spreadOf_8 rfl e1
theorem hdX1_schemeOf : yX1_schemeOf.cls ≠ "java/lang/invoke/MethodHandle" ∧ yX1_schemeOf.cls ≠ "java/lang/invoke/VarHandle" ∧ (parseMethodDescriptor yX1_schemeOf.desc).map (fun d => d.parameters.length) = some 1 := by decide +kernel
abbrev rmX1_schemeOf : Room := { frames := 1, cells := 0, slots := 0, locals := 21 }
set_option maxHeartbeats 20000000 in
set_option maxRecDepth 100000 in
theorem c_X1_schemeOf (l : Launch) (D : va_G) (cI cJ : ClassId) (self : Nat) (plself : Nat) (pla : Nat) (paself : Nat) (paa : Nat) (ogself : Nat) (oga : Nat) (drself : Nat) (dra : Nat) (spself : Nat) (spa : Nat) (scself : Nat) (sca : Nat) (many : Int32) (gens : Int32) (plf : Nat → Int32) (paf : Nat → Int32) (ogf : Nat → Int32) (drf : Nat → Int32) (spf : Nat → Int32) (scf : Nat → Int32) (p0 : Int32) (r0 : Int32) (hF : F_X1_schemeOf scf p0 = some r0) : Met l yX1_schemeOf (wz yX1_schemeOf cX1_schemeOf 2 (some .int)) rmX1_schemeOf (kPc D cI cJ [(self, .inr (1, [.ref plself, .ref paself, .ref ogself, .ref drself, .ref spself, .ref scself, .int many, .int gens])), (plself, .inr (2, [.ref pla])), (pla, .inl (cI, 240, .inl plf)), (paself, .inr (2, [.ref paa])), (paa, .inl (cI, 240, .inl paf)), (ogself, .inr (2, [.ref oga])), (oga, .inl (cI, 20, .inl ogf)), (drself, .inr (2, [.ref dra])), (dra, .inl (cI, 20, .inl drf)), (spself, .inr (2, [.ref spa])), (spa, .inl (cI, 20, .inl spf)), (scself, .inr (2, [.ref sca])), (sca, .inl (cI, 20, .inl scf))] [.ref self, .int p0]) (vp_Si (fun r => r = r0)) 0 0 (fun _ => False) := by
  refine kM_ri cX1_schemeOf 2 .int (by decide +kernel) rfl rfl (Nat.le_of_ble_eq_true rfl) ⟨rfl, rfl⟩ ?_
  intro p e s m args below meth c Q ls hx hb hml hown hts hP hK hl hret
  have hk64 := hts _ (List.mem_cons_of_mem _ wl64)
  have hnX1 : ∀ w ∈ u_ws RX1 TX1 8, w ∈ wz yX1_schemeOf cX1_schemeOf 2 (some .int) := fun w h => List.mem_cons_of_mem _ (inlX1 w h)
  replace hl : lv_has ls 2 [(0, .ref self), (1, .int p0)] := hl
  have h := hF
  unfold F_X1_schemeOf at h
  refine lv_aload_n (pc := 0) hx hb dX1_schemeOf_0 rfl (lv_at hl 0 rfl) ?_
  refine va_get (pc := 1) (D := D) (ci := 1) (v := .ref scself) (C := RX1) (T := TX1) (N := 8) hx hb hts hnX1 hown hK.1 hP 0 rfl rfl 5 (Nat.le_of_ble_eq_true rfl) hk64 (fun _ h9 => h9) rfl dX1_schemeOf_1 ?_
  refine lv_iload_n (pc := 4) hx hb dX1_schemeOf_4 rfl (lv_at hl 1 rfl) ?_
  obtain ⟨r1, hc1, h⟩ := am_bind_s h
  refine kc_Vi (pc := 5) (ci := 2) ⟨hx, hb, hml, hown, hts⟩ hP hK [.int p0] (c_X2_at l D cI cJ scself sca 20 scf p0 r1 hc1) [11, 12] rfl (cwV 1 hts (gzV wl167 wl168 wl169 wl51 wl170) rfl rfl rfl ⟨rfl, hdX2_at⟩ ⟨Nat.le_of_ble_eq_true rfl, Nat.le_of_ble_eq_true rfl⟩) rfl rfl [] rfl hl.1 rfl (Nat.le_of_ble_eq_true rfl) dX1_schemeOf_5 ⟨Nat.zero_le _, Nat.zero_le _⟩ ?_
  obtain e1 := am_ret1 h
  exact hret _ _ _ dX1_schemeOf_8 rfl e1
theorem hdX1_ancestorIn : yX1_ancestorIn.cls ≠ "java/lang/invoke/MethodHandle" ∧ yX1_ancestorIn.cls ≠ "java/lang/invoke/VarHandle" ∧ (parseMethodDescriptor yX1_ancestorIn.desc).map (fun d => d.parameters.length) = some 2 := by decide +kernel
abbrev rmX1_ancestorIn : Room := { frames := 1, cells := 0, slots := 0, locals := 21 }
set_option maxHeartbeats 20000000 in
set_option maxRecDepth 100000 in
theorem c_X1_ancestorIn (l : Launch) (D : va_G) (cI cJ : ClassId) (self : Nat) (plself : Nat) (pla : Nat) (paself : Nat) (paa : Nat) (ogself : Nat) (oga : Nat) (drself : Nat) (dra : Nat) (spself : Nat) (spa : Nat) (scself : Nat) (sca : Nat) (many : Int32) (gens : Int32) (plf : Nat → Int32) (paf : Nat → Int32) (ogf : Nat → Int32) (drf : Nat → Int32) (spf : Nat → Int32) (scf : Nat → Int32) (p0 : Int32) (p1 : Int32) (r0 : Int32) (hF : F_X1_ancestorIn gens paf p0 p1 = some r0) : Met l yX1_ancestorIn (wz yX1_ancestorIn cX1_ancestorIn 5 (some .int)) rmX1_ancestorIn (kPc D cI cJ [(self, .inr (1, [.ref plself, .ref paself, .ref ogself, .ref drself, .ref spself, .ref scself, .int many, .int gens])), (plself, .inr (2, [.ref pla])), (pla, .inl (cI, 240, .inl plf)), (paself, .inr (2, [.ref paa])), (paa, .inl (cI, 240, .inl paf)), (ogself, .inr (2, [.ref oga])), (oga, .inl (cI, 20, .inl ogf)), (drself, .inr (2, [.ref dra])), (dra, .inl (cI, 20, .inl drf)), (spself, .inr (2, [.ref spa])), (spa, .inl (cI, 20, .inl spf)), (scself, .inr (2, [.ref sca])), (sca, .inl (cI, 20, .inl scf))] [.ref self, .int p0, .int p1]) (vp_Si (fun r => r = r0)) 0 0 (fun _ => False) := by
  refine kM_ri cX1_ancestorIn 5 .int (by decide +kernel) rfl rfl (Nat.le_of_ble_eq_true rfl) ⟨rfl, rfl⟩ ?_
  intro p e s m args below meth c Q ls hx hb hml hown hts hP hK hl hret
  have hk60 := hts _ (List.mem_cons_of_mem _ wl60)
  have hnX1 : ∀ w ∈ u_ws RX1 TX1 8, w ∈ wz yX1_ancestorIn cX1_ancestorIn 5 (some .int) := fun w h => List.mem_cons_of_mem _ (inlX1 w h)
  replace hl : lv_has ls 5 [(0, .ref self), (1, .int p0), (2, .int p1)] := hl
  have h := hF
  unfold F_X1_ancestorIn at h
  refine lv_iload_n (pc := 0) hx hb dX1_ancestorIn_0 rfl (lv_at hl 2 rfl) ?_
  refine lv_istore_n (lv' := [(3, .int p1), (0, .ref self), (1, .int p0), (2, .int p1)]) (pc := 1) hx hb dX1_ancestorIn_1 rfl hl (by decide) rfl (fun ls hl => ?_)
  refine lv_aload_n (pc := 2) hx hb dX1_ancestorIn_2 rfl (lv_at hl 1 rfl) ?_
  obtain ⟨r1, hc1, h⟩ := am_bind_s h
  refine kc_Vi (pc := 3) (ci := 1) ⟨hx, hb, hml, hown, hts⟩ hP hK [] (c_X1_latest l D cI cJ self plself pla paself paa ogself oga drself dra spself spa scself sca many gens plf paf ogf drf spf scf r1 hc1) [0, 1, 2, 3, 4, 5, 6, 7, 8, 9, 10, 11, 12] rfl (cwV 0 hts (gzV wl272 wl160 wl161 wl43 wl162) rfl rfl rfl ⟨rfl, hdX1_latest⟩ ⟨Nat.le_of_ble_eq_true rfl, Nat.le_of_ble_eq_true rfl⟩) rfl rfl [] rfl hl.1 rfl (Nat.le_of_ble_eq_true rfl) dX1_ancestorIn_3 ⟨Nat.zero_le _, Nat.zero_le _⟩ ?_
  refine lv_istore (lv' := [(4, .int r1), (3, .int p1), (0, .ref self), (1, .int p0), (2, .int p1)]) (pc := 6) hx hb dX1_ancestorIn_6 hl (by decide) rfl (fun ls hl => ?_)
  refine am_join1_s (fun (x2 : Int32) => ∀ (ls : Array Slot), lv_has ls 5 [(3, .int x2)] → W p l e rmX1_ancestorIn s m args below meth c s.heap [] 0 0 Q (F0 m 35 ls [])) h (fun x2 h ls hl => ?_) (fun K3 hK3 h => ?_)
  · refine lv_iload_n (pc := 35) hx hb dX1_ancestorIn_35 rfl (lv_at hl 0 rfl) ?_
    obtain e1 := am_ret1 h
    exact hret _ _ _ dX1_ancestorIn_36 rfl e1
  refine am_loop2_s (fun (x4 : Int32) (x5 : Int32) => ∀ (ls : Array Slot), lv_has ls 5 [(0, .ref self), (1, .int p0), (3, .int x4), (4, .int x5)] → W p l e rmX1_ancestorIn s m args below meth c s.heap [] 0 0 Q (F0 m 8 ls [])) (fun rec6 ihrec6 x4 x5 h ls hl => ?_) _ _ _ h ls (lv_sub hl [2, 3, 1, 0] rfl)
  unfold F_X1_ancestorIn_B8 at h
  refine lv_iload (pc := 8) hx hb dX1_ancestorIn_8 (lv_at hl 3 rfl) ?_
  refine lv_iload_n (pc := 10) hx hb dX1_ancestorIn_10 rfl (lv_at hl 1 rfl) ?_
  refine lv_icmp_le (pc := 11) (tgt := 35) hx hb dX1_ancestorIn_11 (by decide) (fun cc => ?_) (fun cc => ?_)
  · replace h := am_t cc h
    exact hK3 _ h ls (lv_sub hl [2] rfl)
  replace h := am_f cc h
  refine lv_aload_n (pc := 14) hx hb dX1_ancestorIn_14 rfl (lv_at hl 0 rfl) ?_
  refine va_get (pc := 15) (D := D) (ci := 1) (v := .ref paself) (C := RX1) (T := TX1) (N := 8) hx hb hts hnX1 hown hK.1 hP 0 rfl rfl 1 (Nat.le_of_ble_eq_true rfl) hk60 (fun _ h9 => h9) rfl dX1_ancestorIn_15 ?_
  refine lv_iload (pc := 18) hx hb dX1_ancestorIn_18 (lv_at hl 3 rfl) ?_
  refine lv_bipush (v := 12) (pc := 20) hx hb dX1_ancestorIn_20 (by decide) ?_
  refine lv_imul (pc := 22) hx hb dX1_ancestorIn_22 ?_
  refine lv_iload_n (pc := 23) hx hb dX1_ancestorIn_23 rfl (lv_at hl 2 rfl) ?_
  refine lv_iadd (pc := 24) hx hb dX1_ancestorIn_24 ?_
  obtain ⟨r7, hc7, h⟩ := am_bind_s h
  refine kc_Vi (pc := 25) (ci := 2) ⟨hx, hb, hml, hown, hts⟩ hP hK [.int ((x5 * (12 : Int32)) + x4)] (c_X2_at l D cI cJ paself paa 240 paf ((x5 * (12 : Int32)) + x4) r7 hc7) [3, 4] rfl (cwV 1 hts (gzV wl167 wl168 wl169 wl51 wl170) rfl rfl rfl ⟨rfl, hdX2_at⟩ ⟨Nat.le_of_ble_eq_true rfl, Nat.le_of_ble_eq_true rfl⟩) rfl rfl [] rfl hl.1 rfl (Nat.le_of_ble_eq_true rfl) dX1_ancestorIn_25 ⟨Nat.zero_le _, Nat.zero_le _⟩ ?_
  refine lv_istore_n (lv' := [(3, .int r7), (0, .ref self), (1, .int p0), (4, .int x5)]) (pc := 28) hx hb dX1_ancestorIn_28 rfl hl (by decide) rfl (fun ls hl => ?_)
  obtain ⟨x8, ex8⟩ : ∃ y : Int32, y = (x5 + (-1 : Int32)) := ⟨_, rfl⟩
  replace h := am_let_s ex8 h
  refine lv_iinc (pc := 29) (v := x8) (lv' := [(4, .int x8), (3, .int r7), (0, .ref self), (1, .int p0)]) hx hb dX1_ancestorIn_29 hl (k := 3) rfl (by rw [ex8]; rfl) (by decide) rfl (fun ls hl => ?_)
  refine lv_goto (pc := 32) (tgt := 8) hx hb dX1_ancestorIn_32 (by decide) ?_
  exact ihrec6 _ _ h ls (lv_sub hl [2, 3, 1, 0] rfl)
theorem hdX1_howManyAreAncestors : yX1_howManyAreAncestors.cls ≠ "java/lang/invoke/MethodHandle" ∧ yX1_howManyAreAncestors.cls ≠ "java/lang/invoke/VarHandle" ∧ (parseMethodDescriptor yX1_howManyAreAncestors.desc).map (fun d => d.parameters.length) = some 1 := by decide +kernel
abbrev rmX1_howManyAreAncestors : Room := { frames := 2, cells := 0, slots := 0, locals := 45 }
set_option maxHeartbeats 20000000 in
set_option maxRecDepth 100000 in
theorem c_X1_howManyAreAncestors (l : Launch) (D : va_G) (cI cJ : ClassId) (self : Nat) (plself : Nat) (pla : Nat) (paself : Nat) (paa : Nat) (ogself : Nat) (oga : Nat) (drself : Nat) (dra : Nat) (spself : Nat) (spa : Nat) (scself : Nat) (sca : Nat) (many : Int32) (gens : Int32) (plf : Nat → Int32) (paf : Nat → Int32) (ogf : Nat → Int32) (drf : Nat → Int32) (spf : Nat → Int32) (scf : Nat → Int32) (p0 : Int32) (r0 : Int32) (hF : F_X1_howManyAreAncestors many gens paf p0 = some r0) : Met l yX1_howManyAreAncestors (wz yX1_howManyAreAncestors cX1_howManyAreAncestors 4 (some .int)) rmX1_howManyAreAncestors (kPc D cI cJ [(self, .inr (1, [.ref plself, .ref paself, .ref ogself, .ref drself, .ref spself, .ref scself, .int many, .int gens])), (plself, .inr (2, [.ref pla])), (pla, .inl (cI, 240, .inl plf)), (paself, .inr (2, [.ref paa])), (paa, .inl (cI, 240, .inl paf)), (ogself, .inr (2, [.ref oga])), (oga, .inl (cI, 20, .inl ogf)), (drself, .inr (2, [.ref dra])), (dra, .inl (cI, 20, .inl drf)), (spself, .inr (2, [.ref spa])), (spa, .inl (cI, 20, .inl spf)), (scself, .inr (2, [.ref sca])), (sca, .inl (cI, 20, .inl scf))] [.ref self, .int p0]) (vp_Si (fun r => r = r0)) 0 0 (fun _ => False) := by
  refine kM_ri cX1_howManyAreAncestors 4 .int (by decide +kernel) rfl rfl (Nat.le_of_ble_eq_true rfl) ⟨rfl, rfl⟩ ?_
  intro p e s m args below meth c Q ls hx hb hml hown hts hP hK hl hret
  have hk65 := hts _ (List.mem_cons_of_mem _ wl65)
  have hnX1 : ∀ w ∈ u_ws RX1 TX1 8, w ∈ wz yX1_howManyAreAncestors cX1_howManyAreAncestors 4 (some .int) := fun w h => List.mem_cons_of_mem _ (inlX1 w h)
  replace hl : lv_has ls 4 [(0, .ref self), (1, .int p0)] := hl
  have h := hF
  unfold F_X1_howManyAreAncestors at h
  refine lv_iconst (v := 0) (pc := 0) hx hb dX1_howManyAreAncestors_0 (by decide) ?_
  refine lv_istore_n (lv' := [(2, .int (0 : Int32)), (0, .ref self), (1, .int p0)]) (pc := 1) hx hb dX1_howManyAreAncestors_1 rfl hl (by decide) rfl (fun ls hl => ?_)
  refine lv_iconst (v := 0) (pc := 2) hx hb dX1_howManyAreAncestors_2 (by decide) ?_
  refine lv_istore_n (lv' := [(3, .int (0 : Int32)), (2, .int (0 : Int32)), (0, .ref self), (1, .int p0)]) (pc := 3) hx hb dX1_howManyAreAncestors_3 rfl hl (by decide) rfl (fun ls hl => ?_)
  refine am_join1_s (fun (x1 : Int32) => ∀ (ls : Array Slot), lv_has ls 4 [(2, .int x1)] → W p l e rmX1_howManyAreAncestors s m args below meth c s.heap [] 0 0 Q (F0 m 29 ls [])) h (fun x1 h ls hl => ?_) (fun K2 hK2 h => ?_)
  · refine lv_iload_n (pc := 29) hx hb dX1_howManyAreAncestors_29 rfl (lv_at hl 0 rfl) ?_
    obtain ⟨r3, hc3, h⟩ := am_bind_s h
    refine kc_Si (pc := 30) ⟨hx, hb, hml, hown, hts⟩ hP hK [.int x1] (c_J6_bitCount_0f7a4 l D cI cJ x1 r3 hc3) [] rfl (va_cwS 1 hts (gzS wl273 wl274 wl275 wl276) rfl rfl rfl hdJ6_bitCount_0f7a4 ⟨Nat.le_of_ble_eq_true rfl, Nat.le_of_ble_eq_true rfl⟩) [] rfl hl.1 rfl (Nat.le_of_ble_eq_true rfl) dX1_howManyAreAncestors_30 ⟨Nat.zero_le _, Nat.zero_le _⟩ ?_
    obtain e1 := am_ret1 h
    exact hret _ _ _ dX1_howManyAreAncestors_33 rfl e1
  refine am_loop2_s (fun (x4 : Int32) (x5 : Int32) => ∀ (ls : Array Slot), lv_has ls 4 [(0, .ref self), (1, .int p0), (2, .int x4), (3, .int x5)] → W p l e rmX1_howManyAreAncestors s m args below meth c s.heap [] 0 0 Q (F0 m 4 ls [])) (fun rec6 ihrec6 x4 x5 h ls hl => ?_) _ _ _ h ls (lv_sub hl [2, 3, 1, 0] rfl)
  unfold F_X1_howManyAreAncestors_B4 at h
  refine lv_iload_n (pc := 4) hx hb dX1_howManyAreAncestors_4 rfl (lv_at hl 3 rfl) ?_
  refine lv_aload_n (pc := 5) hx hb dX1_howManyAreAncestors_5 rfl (lv_at hl 0 rfl) ?_
  refine va_get (pc := 6) (D := D) (ci := 1) (v := .int many) (C := RX1) (T := TX1) (N := 8) hx hb hts hnX1 hown hK.1 hP 0 rfl rfl 6 (Nat.le_of_ble_eq_true rfl) hk65 (fun _ h9 => h9) rfl dX1_howManyAreAncestors_6 ?_
  refine lv_icmp_ge (pc := 9) (tgt := 29) hx hb dX1_howManyAreAncestors_9 (by decide) (fun cc => ?_) (fun cc => ?_)
  · replace h := am_t cc h
    exact hK2 _ h ls (lv_sub hl [2] rfl)
  replace h := am_f cc h
  refine lv_iload_n (pc := 12) hx hb dX1_howManyAreAncestors_12 rfl (lv_at hl 2 rfl) ?_
  refine lv_iconst (v := 1) (pc := 13) hx hb dX1_howManyAreAncestors_13 (by decide) ?_
  refine lv_aload_n (pc := 14) hx hb dX1_howManyAreAncestors_14 rfl (lv_at hl 0 rfl) ?_
  refine lv_iload_n (pc := 15) hx hb dX1_howManyAreAncestors_15 rfl (lv_at hl 1 rfl) ?_
  refine lv_iload_n (pc := 16) hx hb dX1_howManyAreAncestors_16 rfl (lv_at hl 3 rfl) ?_
  obtain ⟨r7, hc7, h⟩ := am_bind_s h
  refine kc_Vi (pc := 17) (ci := 1) ⟨hx, hb, hml, hown, hts⟩ hP hK [.int p0, .int x5] (c_X1_ancestorIn l D cI cJ self plself pla paself paa ogself oga drself dra spself spa scself sca many gens plf paf ogf drf spf scf p0 x5 r7 hc7) [0, 1, 2, 3, 4, 5, 6, 7, 8, 9, 10, 11, 12] rfl (cwV 2 hts (gzV wl268 wl269 wl270 wl43 wl271) rfl rfl rfl ⟨rfl, hdX1_ancestorIn⟩ ⟨Nat.le_of_ble_eq_true rfl, Nat.le_of_ble_eq_true rfl⟩) rfl rfl [.int (1 : Int32), .int x4] rfl hl.1 rfl (Nat.le_of_ble_eq_true rfl) dX1_howManyAreAncestors_17 ⟨Nat.zero_le _, Nat.zero_le _⟩ ?_
  refine lv_ishl (pc := 20) hx hb dX1_howManyAreAncestors_20 ?_
  refine lv_ior (pc := 21) hx hb dX1_howManyAreAncestors_21 ?_
  refine lv_topi (fun x8 ex8 => ?_)
  replace h := am_let_s ex8 h
  refine lv_istore_n (lv' := [(2, .int x8), (0, .ref self), (1, .int p0), (3, .int x5)]) (pc := 22) hx hb dX1_howManyAreAncestors_22 rfl hl (by decide) rfl (fun ls hl => ?_)
  obtain ⟨x9, ex9⟩ : ∃ y : Int32, y = (x5 + (1 : Int32)) := ⟨_, rfl⟩
  replace h := am_let_s ex9 h
  refine lv_iinc (pc := 23) (v := x9) (lv' := [(3, .int x9), (2, .int x8), (0, .ref self), (1, .int p0)]) hx hb dX1_howManyAreAncestors_23 hl (k := 3) rfl (by rw [ex9]; rfl) (by decide) rfl (fun ls hl => ?_)
  refine lv_goto (pc := 26) (tgt := 4) hx hb dX1_howManyAreAncestors_26 (by decide) ?_
  exact ihrec6 _ _ h ls (lv_sub hl [2, 3, 1, 0] rfl)
theorem hdX1_howManyAt : yX1_howManyAt.cls ≠ "java/lang/invoke/MethodHandle" ∧ yX1_howManyAt.cls ≠ "java/lang/invoke/VarHandle" ∧ (parseMethodDescriptor yX1_howManyAt.desc).map (fun d => d.parameters.length) = some 2 := by decide +kernel
abbrev rmX1_howManyAt : Room := { frames := 2, cells := 0, slots := 0, locals := 43 }
set_option maxHeartbeats 20000000 in
set_option maxRecDepth 100000 in
theorem c_X1_howManyAt (l : Launch) (D : va_G) (cI cJ : ClassId) (self : Nat) (plself : Nat) (pla : Nat) (paself : Nat) (paa : Nat) (ogself : Nat) (oga : Nat) (drself : Nat) (dra : Nat) (spself : Nat) (spa : Nat) (scself : Nat) (sca : Nat) (many : Int32) (gens : Int32) (plf : Nat → Int32) (paf : Nat → Int32) (ogf : Nat → Int32) (drf : Nat → Int32) (spf : Nat → Int32) (scf : Nat → Int32) (p0 : Int32) (p1 : Int32) (r0 : Int32) (hF : F_X1_howManyAt many plf p0 p1 = some r0) : Met l yX1_howManyAt (wz yX1_howManyAt cX1_howManyAt 5 (some .int)) rmX1_howManyAt (kPc D cI cJ [(self, .inr (1, [.ref plself, .ref paself, .ref ogself, .ref drself, .ref spself, .ref scself, .int many, .int gens])), (plself, .inr (2, [.ref pla])), (pla, .inl (cI, 240, .inl plf)), (paself, .inr (2, [.ref paa])), (paa, .inl (cI, 240, .inl paf)), (ogself, .inr (2, [.ref oga])), (oga, .inl (cI, 20, .inl ogf)), (drself, .inr (2, [.ref dra])), (dra, .inl (cI, 20, .inl drf)), (spself, .inr (2, [.ref spa])), (spa, .inl (cI, 20, .inl spf)), (scself, .inr (2, [.ref sca])), (sca, .inl (cI, 20, .inl scf))] [.ref self, .int p0, .int p1]) (vp_Si (fun r => r = r0)) 0 0 (fun _ => False) := by
  refine kM_ri cX1_howManyAt 5 .int (by decide +kernel) rfl rfl (Nat.le_of_ble_eq_true rfl) ⟨rfl, rfl⟩ ?_
  intro p e s m args below meth c Q ls hx hb hml hown hts hP hK hl hret
  have hk65 := hts _ (List.mem_cons_of_mem _ wl65)
  have hnX1 : ∀ w ∈ u_ws RX1 TX1 8, w ∈ wz yX1_howManyAt cX1_howManyAt 5 (some .int) := fun w h => List.mem_cons_of_mem _ (inlX1 w h)
  replace hl : lv_has ls 5 [(0, .ref self), (1, .int p0), (2, .int p1)] := hl
  have h := hF
  unfold F_X1_howManyAt at h
  refine lv_iconst (v := 0) (pc := 0) hx hb dX1_howManyAt_0 (by decide) ?_
  refine lv_istore_n (lv' := [(3, .int (0 : Int32)), (0, .ref self), (1, .int p0), (2, .int p1)]) (pc := 1) hx hb dX1_howManyAt_1 rfl hl (by decide) rfl (fun ls hl => ?_)
  refine lv_iconst (v := 0) (pc := 2) hx hb dX1_howManyAt_2 (by decide) ?_
  refine lv_istore (lv' := [(4, .int (0 : Int32)), (3, .int (0 : Int32)), (0, .ref self), (1, .int p0), (2, .int p1)]) (pc := 3) hx hb dX1_howManyAt_3 hl (by decide) rfl (fun ls hl => ?_)
  refine am_join1_s (fun (x1 : Int32) => ∀ (ls : Array Slot), lv_has ls 5 [(3, .int x1)] → W p l e rmX1_howManyAt s m args below meth c s.heap [] 0 0 Q (F0 m 34 ls [])) h (fun x1 h ls hl => ?_) (fun K2 hK2 h => ?_)
  · refine lv_iload_n (pc := 34) hx hb dX1_howManyAt_34 rfl (lv_at hl 0 rfl) ?_
    obtain e1 := am_ret1 h
    exact hret _ _ _ dX1_howManyAt_35 rfl e1
  refine am_loop2_s (fun (x3 : Int32) (x4 : Int32) => ∀ (ls : Array Slot), lv_has ls 5 [(0, .ref self), (1, .int p0), (2, .int p1), (3, .int x3), (4, .int x4)] → W p l e rmX1_howManyAt s m args below meth c s.heap [] 0 0 Q (F0 m 5 ls [])) (fun rec5 ihrec5 x3 x4 h ls hl => ?_) _ _ _ h ls (lv_sub hl [2, 3, 4, 1, 0] rfl)
  unfold F_X1_howManyAt_B5 at h
  refine lv_iload (pc := 5) hx hb dX1_howManyAt_5 (lv_at hl 4 rfl) ?_
  refine lv_aload_n (pc := 7) hx hb dX1_howManyAt_7 rfl (lv_at hl 0 rfl) ?_
  refine va_get (pc := 8) (D := D) (ci := 1) (v := .int many) (C := RX1) (T := TX1) (N := 8) hx hb hts hnX1 hown hK.1 hP 0 rfl rfl 6 (Nat.le_of_ble_eq_true rfl) hk65 (fun _ h9 => h9) rfl dX1_howManyAt_8 ?_
  refine lv_icmp_ge (pc := 11) (tgt := 34) hx hb dX1_howManyAt_11 (by decide) (fun cc => ?_) (fun cc => ?_)
  · replace h := am_t cc h
    exact hK2 _ h ls (lv_sub hl [3] rfl)
  replace h := am_f cc h
  refine lv_aload_n (pc := 14) hx hb dX1_howManyAt_14 rfl (lv_at hl 0 rfl) ?_
  refine lv_iload_n (pc := 15) hx hb dX1_howManyAt_15 rfl (lv_at hl 1 rfl) ?_
  refine lv_iload (pc := 16) hx hb dX1_howManyAt_16 (lv_at hl 4 rfl) ?_
  obtain ⟨r6, hc6, h⟩ := am_bind_s h
  refine kc_Vi (pc := 18) (ci := 1) ⟨hx, hb, hml, hown, hts⟩ hP hK [.int p0, .int x4] (c_X1_placeIn l D cI cJ self plself pla paself paa ogself oga drself dra spself spa scself sca many gens plf paf ogf drf spf scf p0 x4 r6 hc6) [0, 1, 2, 3, 4, 5, 6, 7, 8, 9, 10, 11, 12] rfl (cwV 2 hts (gzV wl183 wl164 wl165 wl43 wl166) rfl rfl rfl ⟨rfl, hdX1_placeIn⟩ ⟨Nat.le_of_ble_eq_true rfl, Nat.le_of_ble_eq_true rfl⟩) rfl rfl [] rfl hl.1 rfl (Nat.le_of_ble_eq_true rfl) dX1_howManyAt_18 ⟨Nat.zero_le _, Nat.zero_le _⟩ ?_
  refine lv_iload_n (pc := 21) hx hb dX1_howManyAt_21 rfl (lv_at hl 2 rfl) ?_
  refine lv_icmp_ne (pc := 22) (tgt := 28) hx hb dX1_howManyAt_22 (by decide) (fun cc => ?_) (fun cc => ?_)
  · replace h := am_f cc h
    obtain ⟨x7, ex7⟩ : ∃ y : Int32, y = (x4 + (1 : Int32)) := ⟨_, rfl⟩
    replace h := am_let_s ex7 h
    refine lv_iinc (pc := 28) (v := x7) (lv' := [(4, .int x7), (0, .ref self), (1, .int p0), (2, .int p1), (3, .int x3)]) hx hb dX1_howManyAt_28 hl (k := 4) rfl (by rw [ex7]; rfl) (by decide) rfl (fun ls hl => ?_)
    refine lv_goto (pc := 31) (tgt := 5) hx hb dX1_howManyAt_31 (by decide) ?_
    exact ihrec5 _ _ h ls (lv_sub hl [1, 2, 3, 4, 0] rfl)
  replace h := am_t cc h
  obtain ⟨x8, ex8⟩ : ∃ y : Int32, y = (x3 + (1 : Int32)) := ⟨_, rfl⟩
  replace h := am_let_s ex8 h
  refine lv_iinc (pc := 25) (v := x8) (lv' := [(3, .int x8), (0, .ref self), (1, .int p0), (2, .int p1), (4, .int x4)]) hx hb dX1_howManyAt_25 hl (k := 3) rfl (by rw [ex8]; rfl) (by decide) rfl (fun ls hl => ?_)
  obtain ⟨x9, ex9⟩ : ∃ y : Int32, y = (x4 + (1 : Int32)) := ⟨_, rfl⟩
  replace h := am_let_s ex9 h
  refine lv_iinc (pc := 28) (v := x9) (lv' := [(4, .int x9), (3, .int x8), (0, .ref self), (1, .int p0), (2, .int p1)]) hx hb dX1_howManyAt_28 hl (k := 4) rfl (by rw [ex9]; rfl) (by decide) rfl (fun ls hl => ?_)
  refine lv_goto (pc := 31) (tgt := 5) hx hb dX1_howManyAt_31 (by decide) ?_
  exact ihrec5 _ _ h ls (lv_sub hl [2, 3, 4, 1, 0] rfl)
theorem hdX1_isFirstAtItsPlace : yX1_isFirstAtItsPlace.cls ≠ "java/lang/invoke/MethodHandle" ∧ yX1_isFirstAtItsPlace.cls ≠ "java/lang/invoke/VarHandle" ∧ (parseMethodDescriptor yX1_isFirstAtItsPlace.desc).map (fun d => d.parameters.length) = some 2 := by decide +kernel
abbrev rmX1_isFirstAtItsPlace : Room := { frames := 2, cells := 0, slots := 0, locals := 43 }
set_option maxHeartbeats 20000000 in
set_option maxRecDepth 100000 in
theorem c_X1_isFirstAtItsPlace (l : Launch) (D : va_G) (cI cJ : ClassId) (self : Nat) (plself : Nat) (pla : Nat) (paself : Nat) (paa : Nat) (ogself : Nat) (oga : Nat) (drself : Nat) (dra : Nat) (spself : Nat) (spa : Nat) (scself : Nat) (sca : Nat) (many : Int32) (gens : Int32) (plf : Nat → Int32) (paf : Nat → Int32) (ogf : Nat → Int32) (drf : Nat → Int32) (spf : Nat → Int32) (scf : Nat → Int32) (p0 : Int32) (p1 : Int32) (r0 : Int32) (hF : F_X1_isFirstAtItsPlace plf p0 p1 = some r0) : Met l yX1_isFirstAtItsPlace (wz yX1_isFirstAtItsPlace cX1_isFirstAtItsPlace 5 (some .boolean)) rmX1_isFirstAtItsPlace (kPc D cI cJ [(self, .inr (1, [.ref plself, .ref paself, .ref ogself, .ref drself, .ref spself, .ref scself, .int many, .int gens])), (plself, .inr (2, [.ref pla])), (pla, .inl (cI, 240, .inl plf)), (paself, .inr (2, [.ref paa])), (paa, .inl (cI, 240, .inl paf)), (ogself, .inr (2, [.ref oga])), (oga, .inl (cI, 20, .inl ogf)), (drself, .inr (2, [.ref dra])), (dra, .inl (cI, 20, .inl drf)), (spself, .inr (2, [.ref spa])), (spa, .inl (cI, 20, .inl spf)), (scself, .inr (2, [.ref sca])), (sca, .inl (cI, 20, .inl scf))] [.ref self, .int p0, .int p1]) (vp_Si (fun r => r = r0)) 0 0 (fun _ => False) := by
  refine kM_ri cX1_isFirstAtItsPlace 5 .boolean (by decide +kernel) rfl rfl (Nat.le_of_ble_eq_true rfl) ⟨rfl, rfl⟩ ?_
  intro p e s m args below meth c Q ls hx hb hml hown hts hP hK hl hret
  replace hl : lv_has ls 5 [(0, .ref self), (1, .int p0), (2, .int p1)] := hl
  have h := hF
  unfold F_X1_isFirstAtItsPlace at h
  refine lv_aload_n (pc := 0) hx hb dX1_isFirstAtItsPlace_0 rfl (lv_at hl 0 rfl) ?_
  refine lv_iload_n (pc := 1) hx hb dX1_isFirstAtItsPlace_1 rfl (lv_at hl 1 rfl) ?_
  refine lv_iload_n (pc := 2) hx hb dX1_isFirstAtItsPlace_2 rfl (lv_at hl 2 rfl) ?_
  obtain ⟨r1, hc1, h⟩ := am_bind_s h
  refine kc_Vi (pc := 3) (ci := 1) ⟨hx, hb, hml, hown, hts⟩ hP hK [.int p0, .int p1] (c_X1_placeIn l D cI cJ self plself pla paself paa ogself oga drself dra spself spa scself sca many gens plf paf ogf drf spf scf p0 p1 r1 hc1) [0, 1, 2, 3, 4, 5, 6, 7, 8, 9, 10, 11, 12] rfl (cwV 2 hts (gzV wl183 wl164 wl165 wl43 wl166) rfl rfl rfl ⟨rfl, hdX1_placeIn⟩ ⟨Nat.le_of_ble_eq_true rfl, Nat.le_of_ble_eq_true rfl⟩) rfl rfl [] rfl hl.1 rfl (Nat.le_of_ble_eq_true rfl) dX1_isFirstAtItsPlace_3 ⟨Nat.zero_le _, Nat.zero_le _⟩ ?_
  refine lv_istore_n (lv' := [(3, .int r1), (0, .ref self), (1, .int p0), (2, .int p1)]) (pc := 6) hx hb dX1_isFirstAtItsPlace_6 rfl hl (by decide) rfl (fun ls hl => ?_)
  refine lv_iconst (v := 0) (pc := 7) hx hb dX1_isFirstAtItsPlace_7 (by decide) ?_
  refine lv_istore (lv' := [(4, .int (0 : Int32)), (3, .int r1), (0, .ref self), (1, .int p0), (2, .int p1)]) (pc := 8) hx hb dX1_isFirstAtItsPlace_8 hl (by decide) rfl (fun ls hl => ?_)
  refine am_join0_s (∀ (ls : Array Slot), lv_has ls 5 [] → W p l e rmX1_isFirstAtItsPlace s m args below meth c s.heap [] 0 0 Q (F0 m 35 ls [])) h (fun h ls hl => ?_) (fun K2 hK2 h => ?_)
  · refine lv_iconst (v := 1) (pc := 35) hx hb dX1_isFirstAtItsPlace_35 (by decide) ?_
    obtain e1 := am_ret1 h
    exact hret _ _ _ dX1_isFirstAtItsPlace_36 rfl e1
  refine am_loop1_s (fun (x3 : Int32) => ∀ (ls : Array Slot), lv_has ls 5 [(0, .ref self), (1, .int p0), (2, .int p1), (3, .int r1), (4, .int x3)] → W p l e rmX1_isFirstAtItsPlace s m args below meth c s.heap [] 0 0 Q (F0 m 10 ls [])) (fun rec4 ihrec4 x3 h ls hl => ?_) _ _ h ls (lv_sub hl [2, 3, 4, 1, 0] rfl)
  unfold F_X1_isFirstAtItsPlace_B10 at h
  refine lv_iload (pc := 10) hx hb dX1_isFirstAtItsPlace_10 (lv_at hl 4 rfl) ?_
  refine lv_iload_n (pc := 12) hx hb dX1_isFirstAtItsPlace_12 rfl (lv_at hl 2 rfl) ?_
  refine lv_icmp_ge (pc := 13) (tgt := 35) hx hb dX1_isFirstAtItsPlace_13 (by decide) (fun cc => ?_) (fun cc => ?_)
  · replace h := am_t cc h
    exact hK2 h ls (lv_sub hl [] rfl)
  replace h := am_f cc h
  refine lv_aload_n (pc := 16) hx hb dX1_isFirstAtItsPlace_16 rfl (lv_at hl 0 rfl) ?_
  refine lv_iload_n (pc := 17) hx hb dX1_isFirstAtItsPlace_17 rfl (lv_at hl 1 rfl) ?_
  refine lv_iload (pc := 18) hx hb dX1_isFirstAtItsPlace_18 (lv_at hl 4 rfl) ?_
  obtain ⟨r5, hc5, h⟩ := am_bind_s h
  refine kc_Vi (pc := 20) (ci := 1) ⟨hx, hb, hml, hown, hts⟩ hP hK [.int p0, .int x3] (c_X1_placeIn l D cI cJ self plself pla paself paa ogself oga drself dra spself spa scself sca many gens plf paf ogf drf spf scf p0 x3 r5 hc5) [0, 1, 2, 3, 4, 5, 6, 7, 8, 9, 10, 11, 12] rfl (cwV 2 hts (gzV wl183 wl164 wl165 wl43 wl166) rfl rfl rfl ⟨rfl, hdX1_placeIn⟩ ⟨Nat.le_of_ble_eq_true rfl, Nat.le_of_ble_eq_true rfl⟩) rfl rfl [] rfl hl.1 rfl (Nat.le_of_ble_eq_true rfl) dX1_isFirstAtItsPlace_20 ⟨Nat.zero_le _, Nat.zero_le _⟩ ?_
  refine lv_iload_n (pc := 23) hx hb dX1_isFirstAtItsPlace_23 rfl (lv_at hl 3 rfl) ?_
  refine lv_icmp_ne (pc := 24) (tgt := 29) hx hb dX1_isFirstAtItsPlace_24 (by decide) (fun cc => ?_) (fun cc => ?_)
  · replace h := am_f cc h
    obtain ⟨x6, ex6⟩ : ∃ y : Int32, y = (x3 + (1 : Int32)) := ⟨_, rfl⟩
    replace h := am_let_s ex6 h
    refine lv_iinc (pc := 29) (v := x6) (lv' := [(4, .int x6), (0, .ref self), (1, .int p0), (2, .int p1), (3, .int r1)]) hx hb dX1_isFirstAtItsPlace_29 hl (k := 4) rfl (by rw [ex6]; rfl) (by decide) rfl (fun ls hl => ?_)
    refine lv_goto (pc := 32) (tgt := 10) hx hb dX1_isFirstAtItsPlace_32 (by decide) ?_
    exact ihrec4 _ h ls (lv_sub hl [1, 2, 3, 4, 0] rfl)
  replace h := am_t cc h
  refine lv_iconst (v := 0) (pc := 27) hx hb dX1_isFirstAtItsPlace_27 (by decide) ?_
  obtain e1 := am_ret1 h
  exact hret _ _ _ dX1_isFirstAtItsPlace_28 rfl e1
theorem hdX1_howManyUnlikePlaces : yX1_howManyUnlikePlaces.cls ≠ "java/lang/invoke/MethodHandle" ∧ yX1_howManyUnlikePlaces.cls ≠ "java/lang/invoke/VarHandle" ∧ (parseMethodDescriptor yX1_howManyUnlikePlaces.desc).map (fun d => d.parameters.length) = some 1 := by decide +kernel
abbrev rmX1_howManyUnlikePlaces : Room := { frames := 3, cells := 0, slots := 0, locals := 67 }
set_option maxHeartbeats 20000000 in
set_option maxRecDepth 100000 in
theorem c_X1_howManyUnlikePlaces (l : Launch) (D : va_G) (cI cJ : ClassId) (self : Nat) (plself : Nat) (pla : Nat) (paself : Nat) (paa : Nat) (ogself : Nat) (oga : Nat) (drself : Nat) (dra : Nat) (spself : Nat) (spa : Nat) (scself : Nat) (sca : Nat) (many : Int32) (gens : Int32) (plf : Nat → Int32) (paf : Nat → Int32) (ogf : Nat → Int32) (drf : Nat → Int32) (spf : Nat → Int32) (scf : Nat → Int32) (p0 : Int32) (r0 : Int32) (hF : F_X1_howManyUnlikePlaces many plf p0 = some r0) : Met l yX1_howManyUnlikePlaces (wz yX1_howManyUnlikePlaces cX1_howManyUnlikePlaces 4 (some .int)) rmX1_howManyUnlikePlaces (kPc D cI cJ [(self, .inr (1, [.ref plself, .ref paself, .ref ogself, .ref drself, .ref spself, .ref scself, .int many, .int gens])), (plself, .inr (2, [.ref pla])), (pla, .inl (cI, 240, .inl plf)), (paself, .inr (2, [.ref paa])), (paa, .inl (cI, 240, .inl paf)), (ogself, .inr (2, [.ref oga])), (oga, .inl (cI, 20, .inl ogf)), (drself, .inr (2, [.ref dra])), (dra, .inl (cI, 20, .inl drf)), (spself, .inr (2, [.ref spa])), (spa, .inl (cI, 20, .inl spf)), (scself, .inr (2, [.ref sca])), (sca, .inl (cI, 20, .inl scf))] [.ref self, .int p0]) (vp_Si (fun r => r = r0)) 0 0 (fun _ => False) := by
  refine kM_ri cX1_howManyUnlikePlaces 4 .int (by decide +kernel) rfl rfl (Nat.le_of_ble_eq_true rfl) ⟨rfl, rfl⟩ ?_
  intro p e s m args below meth c Q ls hx hb hml hown hts hP hK hl hret
  have hk65 := hts _ (List.mem_cons_of_mem _ wl65)
  have hnX1 : ∀ w ∈ u_ws RX1 TX1 8, w ∈ wz yX1_howManyUnlikePlaces cX1_howManyUnlikePlaces 4 (some .int) := fun w h => List.mem_cons_of_mem _ (inlX1 w h)
  replace hl : lv_has ls 4 [(0, .ref self), (1, .int p0)] := hl
  have h := hF
  unfold F_X1_howManyUnlikePlaces at h
  refine lv_iconst (v := 0) (pc := 0) hx hb dX1_howManyUnlikePlaces_0 (by decide) ?_
  refine lv_istore_n (lv' := [(2, .int (0 : Int32)), (0, .ref self), (1, .int p0)]) (pc := 1) hx hb dX1_howManyUnlikePlaces_1 rfl hl (by decide) rfl (fun ls hl => ?_)
  refine lv_iconst (v := 0) (pc := 2) hx hb dX1_howManyUnlikePlaces_2 (by decide) ?_
  refine lv_istore_n (lv' := [(3, .int (0 : Int32)), (2, .int (0 : Int32)), (0, .ref self), (1, .int p0)]) (pc := 3) hx hb dX1_howManyUnlikePlaces_3 rfl hl (by decide) rfl (fun ls hl => ?_)
  refine am_join1_s (fun (x1 : Int32) => ∀ (ls : Array Slot), lv_has ls 4 [(2, .int x1)] → W p l e rmX1_howManyUnlikePlaces s m args below meth c s.heap [] 0 0 Q (F0 m 30 ls [])) h (fun x1 h ls hl => ?_) (fun K2 hK2 h => ?_)
  · refine lv_iload_n (pc := 30) hx hb dX1_howManyUnlikePlaces_30 rfl (lv_at hl 0 rfl) ?_
    obtain e1 := am_ret1 h
    exact hret _ _ _ dX1_howManyUnlikePlaces_31 rfl e1
  refine am_loop2_s (fun (x3 : Int32) (x4 : Int32) => ∀ (ls : Array Slot), lv_has ls 4 [(0, .ref self), (1, .int p0), (2, .int x3), (3, .int x4)] → W p l e rmX1_howManyUnlikePlaces s m args below meth c s.heap [] 0 0 Q (F0 m 4 ls [])) (fun rec5 ihrec5 x3 x4 h ls hl => ?_) _ _ _ h ls (lv_sub hl [2, 3, 1, 0] rfl)
  unfold F_X1_howManyUnlikePlaces_B4 at h
  refine lv_iload_n (pc := 4) hx hb dX1_howManyUnlikePlaces_4 rfl (lv_at hl 3 rfl) ?_
  refine lv_aload_n (pc := 5) hx hb dX1_howManyUnlikePlaces_5 rfl (lv_at hl 0 rfl) ?_
  refine va_get (pc := 6) (D := D) (ci := 1) (v := .int many) (C := RX1) (T := TX1) (N := 8) hx hb hts hnX1 hown hK.1 hP 0 rfl rfl 6 (Nat.le_of_ble_eq_true rfl) hk65 (fun _ h9 => h9) rfl dX1_howManyUnlikePlaces_6 ?_
  refine lv_icmp_ge (pc := 9) (tgt := 30) hx hb dX1_howManyUnlikePlaces_9 (by decide) (fun cc => ?_) (fun cc => ?_)
  · replace h := am_t cc h
    exact hK2 _ h ls (lv_sub hl [2] rfl)
  replace h := am_f cc h
  refine lv_aload_n (pc := 12) hx hb dX1_howManyUnlikePlaces_12 rfl (lv_at hl 0 rfl) ?_
  refine lv_iload_n (pc := 13) hx hb dX1_howManyUnlikePlaces_13 rfl (lv_at hl 1 rfl) ?_
  refine lv_iload_n (pc := 14) hx hb dX1_howManyUnlikePlaces_14 rfl (lv_at hl 3 rfl) ?_
  obtain ⟨r6, hc6, h⟩ := am_bind_s h
  refine kc_Vi (pc := 15) (ci := 1) ⟨hx, hb, hml, hown, hts⟩ hP hK [.int p0, .int x4] (c_X1_isFirstAtItsPlace l D cI cJ self plself pla paself paa ogself oga drself dra spself spa scself sca many gens plf paf ogf drf spf scf p0 x4 r6 hc6) [0, 1, 2, 3, 4, 5, 6, 7, 8, 9, 10, 11, 12] rfl (cwV 2 hts (gzV wl228 wl229 wl230 wl43 wl231) rfl rfl rfl ⟨rfl, hdX1_isFirstAtItsPlace⟩ ⟨Nat.le_of_ble_eq_true rfl, Nat.le_of_ble_eq_true rfl⟩) rfl rfl [] rfl hl.1 rfl (Nat.le_of_ble_eq_true rfl) dX1_howManyUnlikePlaces_15 ⟨Nat.zero_le _, Nat.zero_le _⟩ ?_
  refine lv_if_eq (pc := 18) (tgt := 24) hx hb dX1_howManyUnlikePlaces_18 (by decide) (fun cc => ?_) (fun cc => ?_)
  · replace h := am_t cc h
    obtain ⟨x7, ex7⟩ : ∃ y : Int32, y = (x4 + (1 : Int32)) := ⟨_, rfl⟩
    replace h := am_let_s ex7 h
    refine lv_iinc (pc := 24) (v := x7) (lv' := [(3, .int x7), (0, .ref self), (1, .int p0), (2, .int x3)]) hx hb dX1_howManyUnlikePlaces_24 hl (k := 3) rfl (by rw [ex7]; rfl) (by decide) rfl (fun ls hl => ?_)
    refine lv_goto (pc := 27) (tgt := 4) hx hb dX1_howManyUnlikePlaces_27 (by decide) ?_
    exact ihrec5 _ _ h ls (lv_sub hl [1, 2, 3, 0] rfl)
  replace h := am_f cc h
  obtain ⟨x8, ex8⟩ : ∃ y : Int32, y = (x3 + (1 : Int32)) := ⟨_, rfl⟩
  replace h := am_let_s ex8 h
  refine lv_iinc (pc := 21) (v := x8) (lv' := [(2, .int x8), (0, .ref self), (1, .int p0), (3, .int x4)]) hx hb dX1_howManyUnlikePlaces_21 hl (k := 2) rfl (by rw [ex8]; rfl) (by decide) rfl (fun ls hl => ?_)
  obtain ⟨x9, ex9⟩ : ∃ y : Int32, y = (x4 + (1 : Int32)) := ⟨_, rfl⟩
  replace h := am_let_s ex9 h
  refine lv_iinc (pc := 24) (v := x9) (lv' := [(3, .int x9), (2, .int x8), (0, .ref self), (1, .int p0)]) hx hb dX1_howManyUnlikePlaces_24 hl (k := 3) rfl (by rw [ex9]; rfl) (by decide) rfl (fun ls hl => ?_)
  refine lv_goto (pc := 27) (tgt := 4) hx hb dX1_howManyUnlikePlaces_27 (by decide) ?_
  exact ihrec5 _ _ h ls (lv_sub hl [2, 3, 1, 0] rfl)
