-- the law's own method on the class's object, printed by wip/p23/gen23.py
theorem hdL_isSo : yL_isSo.cls ≠ "java/lang/invoke/MethodHandle" ∧ yL_isSo.cls ≠ "java/lang/invoke/VarHandle" ∧ (parseMethodDescriptor yL_isSo.desc).map (fun d => d.parameters.length) = some 5 := by decide +kernel
abbrev rmL_isSo : Room := { frames := 6, cells := 0, slots := 0, locals := 135 }
set_option maxHeartbeats 20000000 in
set_option maxRecDepth 100000 in
theorem c_L_isSo (l : Launch) (D : va_G) (cI cJ : ClassId) (o : Nat → Nat) (rec : Int32) (A : Nat → Nat → Nat) (v : Nat → Nat → Int32) (f : Nat → Nat → Nat → Int32) (u ch : Nat → Int32) (xn : Int32) (xa : Nat → Int32) (xr : Nat → Int64) (bg : Nat) (bw : Nat) (bq : Nat) (bc : Nat) (yg : Nat → Int32) (yw : Nat → Int32) (yq : Nat → Int32) (yc : Nat → Int64)  (r0 : Int32) (hF : F_L_isSo rec v f u yg yw yq yc = some r0) : Met l yL_isSo (wz yL_isSo cL_isSo 21 (some .boolean)) rmL_isSo (kPc D cI cJ ((bg, .inl (cI, 8, .inl yg)) :: (bw, .inl (cI, 12, .inl yw)) :: (bq, .inl (cI, 60, .inl yq)) :: (bc, .inl (cJ, 60, .inr (.inl yc))) :: plW cI cJ o rec A v f u ch xn xa xr) [.ref (o 0), .ref bg, .ref bw, .ref bq, .ref bc]) (vp_Si (fun r => r = r0)) 0 0 (fun _ => False) := by
  refine kM_ri cL_isSo 21 .boolean (by decide +kernel) rfl rfl (Nat.le_of_ble_eq_true rfl) ⟨rfl, rfl⟩ ?_
  intro p e s m args below meth c Q ls hx hb hml hown hts hP hK hl hret
  have hk128 := hts _ (List.mem_cons_of_mem _ wl128)
  have hk6 := hts _ (List.mem_cons_of_mem _ wl6)
  replace hl : lv_has ls 21 [(0, .ref (o 0)), (1, .ref bg), (2, .ref bw), (3, .ref bq), (4, .ref bc)] := hl
  have hPo := vP_tl (vP_tl (vP_tl (vP_tl hP)))
  have h := hF
  unfold F_L_isSo at h
  refine lv_aload_n (pc := 0) hx hb dL_isSo_0 rfl (lv_at hl 1 rfl) ?_
  refine lv_iconst (v := 0) (pc := 1) hx hb dL_isSo_1 (by decide) ?_
  refine va_iald (pc := 2) hx hb hK.1 hP 0 0 rfl rfl (vp_in_nI (n := 0) (N := 8) (by decide) (by decide)) dL_isSo_2 ?_
  refine lv_topi (fun x1 ex1 => ?_)
  replace h := am_let_s ex1 h
  refine lv_istore (lv' := [(5, .int x1), (0, .ref (o 0)), (1, .ref bg), (2, .ref bw), (3, .ref bq), (4, .ref bc)]) (pc := 3) hx hb dL_isSo_3 hl (by decide) rfl (fun ls hl => ?_)
  refine lv_aload_n (pc := 5) hx hb dL_isSo_5 rfl (lv_at hl 2 rfl) ?_
  refine lv_aload_n (pc := 6) hx hb dL_isSo_6 rfl (lv_at hl 3 rfl) ?_
  obtain ⟨r2, hc2, h⟩ := am_bind_s h
  refine kc_Si (pc := 7) ⟨hx, hb, hml, hown, hts⟩ hP hK [.ref bg, .ref bw] (c_L_all l D cI cJ bg bw yg yw r2 hc2) [0, 1] rfl (cwS 2 hts (gzS wl129 wl130 wl118 wl131) rfl rfl rfl ⟨rfl, hdL_all⟩ ⟨Nat.le_of_ble_eq_true rfl, Nat.le_of_ble_eq_true rfl⟩) [] rfl hl.1 rfl (Nat.le_of_ble_eq_true rfl) dL_isSo_7 ⟨Nat.zero_le _, Nat.zero_le _⟩ ?_
  refine lv_istore (lv' := [(6, .int r2), (5, .int x1), (0, .ref (o 0)), (1, .ref bg), (2, .ref bw), (3, .ref bq), (4, .ref bc)]) (pc := 10) hx hb dL_isSo_10 hl (by decide) rfl (fun ls hl => ?_)
  refine lv_iconst (v := 0) (pc := 12) hx hb dL_isSo_12 (by decide) ?_
  refine lv_istore (lv' := [(7, .int (0 : Int32)), (6, .int r2), (5, .int x1), (0, .ref (o 0)), (1, .ref bg), (2, .ref bw), (3, .ref bq), (4, .ref bc)]) (pc := 13) hx hb dL_isSo_13 hl (by decide) rfl (fun ls hl => ?_)
  refine lv_iconst (v := 0) (pc := 15) hx hb dL_isSo_15 (by decide) ?_
  refine lv_istore (lv' := [(8, .int (0 : Int32)), (7, .int (0 : Int32)), (6, .int r2), (5, .int x1), (0, .ref (o 0)), (1, .ref bg), (2, .ref bw), (3, .ref bq), (4, .ref bc)]) (pc := 16) hx hb dL_isSo_16 hl (by decide) rfl (fun ls hl => ?_)
  refine lv_iconst (v := 0) (pc := 18) hx hb dL_isSo_18 (by decide) ?_
  refine lv_istore (lv' := [(9, .int (0 : Int32)), (8, .int (0 : Int32)), (7, .int (0 : Int32)), (6, .int r2), (5, .int x1), (0, .ref (o 0)), (1, .ref bg), (2, .ref bw), (3, .ref bq), (4, .ref bc)]) (pc := 19) hx hb dL_isSo_19 hl (by decide) rfl (fun ls hl => ?_)
  refine lv_iconst (v := 1) (pc := 21) hx hb dL_isSo_21 (by decide) ?_
  refine lv_istore (lv' := [(10, .int (1 : Int32)), (9, .int (0 : Int32)), (8, .int (0 : Int32)), (7, .int (0 : Int32)), (6, .int r2), (5, .int x1), (0, .ref (o 0)), (1, .ref bg), (2, .ref bw), (3, .ref bq), (4, .ref bc)]) (pc := 22) hx hb dL_isSo_22 hl (by decide) rfl (fun ls hl => ?_)
  refine lv_iconst (v := 0) (pc := 24) hx hb dL_isSo_24 (by decide) ?_
  refine lv_istore (lv' := [(11, .int (0 : Int32)), (10, .int (1 : Int32)), (9, .int (0 : Int32)), (8, .int (0 : Int32)), (7, .int (0 : Int32)), (6, .int r2), (5, .int x1), (0, .ref (o 0)), (1, .ref bg), (2, .ref bw), (3, .ref bq), (4, .ref bc)]) (pc := 25) hx hb dL_isSo_25 hl (by decide) rfl (fun ls hl => ?_)
  refine am_join4_s (fun (x3 : Int32) (x4 : Int32) (x5 : Int32) (x6 : Int32) => ∀ (ls : Array Slot), lv_has ls 21 [(0, .ref (o 0)), (1, .ref bg), (2, .ref bw), (3, .ref bq), (5, .int x1), (6, .int r2), (7, .int x3), (8, .int x4), (9, .int x5), (10, .int x6)] → W p l e rmL_isSo s m args below meth c s.heap [] 0 0 Q (F0 m 448 ls [])) h (fun x3 x4 x5 x6 h ls hl => ?_) (fun K7 hK7 h => ?_)
  · refine lv_iload (pc := 448) hx hb dL_isSo_448 (lv_at hl 9 rfl) ?_
    refine am_join1_s (fun (j8 : Int32) => ∀ (ls : Array Slot), lv_has ls 21 [(0, .ref (o 0)), (1, .ref bg), (3, .ref bq)] → W p l e rmL_isSo s m args below meth c s.heap [] 0 0 Q (F0 m 577 ls [.int j8])) h (fun j8 h ls hl => ?_) (fun J9 hJ9 h => ?_)
    · refine lv_istore (lv' := [(10, .int j8), (0, .ref (o 0)), (1, .ref bg), (3, .ref bq)]) (pc := 577) hx hb dL_isSo_577 hl (by decide) rfl (fun ls hl => ?_)
      refine lv_iconst (v := 0) (pc := 579) hx hb dL_isSo_579 (by decide) ?_
      refine lv_istore (lv' := [(11, .int (0 : Int32)), (10, .int j8), (0, .ref (o 0)), (1, .ref bg), (3, .ref bq)]) (pc := 580) hx hb dL_isSo_580 hl (by decide) rfl (fun ls hl => ?_)
      refine am_join1_s (fun (x10 : Int32) => ∀ (ls : Array Slot), lv_has ls 21 [(0, .ref (o 0)), (1, .ref bg), (10, .int x10)] → W p l e rmL_isSo s m args below meth c s.heap [] 0 0 Q (F0 m 718 ls [])) h (fun x10 h ls hl => ?_) (fun K11 hK11 h => ?_)
      · refine lv_iload (pc := 718) hx hb dL_isSo_718 (lv_at hl 2 rfl) ?_
        refine lv_if_eq (pc := 720) (tgt := 787) hx hb dL_isSo_720 (by decide) (fun cc => ?_) (fun cc => ?_)
        · replace h := am_t cc h
          refine lv_iconst (v := 0) (pc := 787) hx hb dL_isSo_787 (by decide) ?_
          obtain e1 := am_ret1 h
          exact hret _ _ _ dL_isSo_788 rfl e1
        replace h := am_f cc h
        refine lv_aload_n (pc := 723) hx hb dL_isSo_723 rfl (lv_at hl 0 rfl) ?_
        refine lv_aload_n (pc := 724) hx hb dL_isSo_724 rfl (lv_at hl 1 rfl) ?_
        refine lv_iconst (v := 1) (pc := 725) hx hb dL_isSo_725 (by decide) ?_
        refine va_iald (pc := 726) hx hb hK.1 hP 0 0 rfl rfl (vp_in_nI (n := 1) (N := 8) (by decide) (by decide)) dL_isSo_726 ?_
        refine lv_iconst (v := 0) (pc := 727) hx hb dL_isSo_727 (by decide) ?_
        obtain ⟨r12, hc12, h⟩ := am_bind_s h
        refine kG_V (pc := 728) (ci := 6) ⟨hx, hb, hml, hown, hts⟩ hPo hK [.int (yg (1 : Int32).toNatClampNeg), .int (0 : Int32)] (p_generationOf l D cI cJ o rec A v f u ch xn xa xr (yg (1 : Int32).toNatClampNeg) (0 : Int32) r12 hc12) (cwV 2 hts (gzV wl236 wl237 wl238 wl2 wl239) rfl rfl rfl ⟨rfl, hdX6_generationOf⟩ ⟨Nat.le_of_ble_eq_true rfl, Nat.le_of_ble_eq_true rfl⟩) rfl rfl [] rfl hl.1 rfl (Nat.le_of_ble_eq_true rfl) dL_isSo_728 ⟨Nat.zero_le _, Nat.zero_le _⟩ ?_
        refine lv_ldc (pc := 731) hx hb hown hk6 dL_isSo_731 ?_
        refine lv_icmp_ne (pc := 733) (tgt := 787) hx hb dL_isSo_733 (by decide) (fun cc => ?_) (fun cc => ?_)
        · replace h := am_f cc h
          refine lv_iconst (v := 0) (pc := 787) hx hb dL_isSo_787 (by decide) ?_
          obtain e1 := am_ret1 h
          exact hret _ _ _ dL_isSo_788 rfl e1
        replace h := am_t cc h
        refine lv_aload_n (pc := 736) hx hb dL_isSo_736 rfl (lv_at hl 0 rfl) ?_
        refine lv_bipush (v := 20) (pc := 737) hx hb dL_isSo_737 (by decide) ?_
        obtain ⟨r13, hc13, h⟩ := am_bind_s h
        refine kG_V (pc := 739) (ci := 6) ⟨hx, hb, hml, hown, hts⟩ hPo hK [.int (20 : Int32)] (p_count l D cI cJ o rec A v f u ch xn xa xr (20 : Int32) r13 hc13) (cwV 1 hts (gzV wl198 wl199 wl200 wl2 wl201) rfl rfl rfl ⟨rfl, hdX6_count⟩ ⟨Nat.le_of_ble_eq_true rfl, Nat.le_of_ble_eq_true rfl⟩) rfl rfl [] rfl hl.1 rfl (Nat.le_of_ble_eq_true rfl) dL_isSo_739 ⟨Nat.zero_le _, Nat.zero_le _⟩ ?_
        refine lv_aload_n (pc := 742) hx hb dL_isSo_742 rfl (lv_at hl 1 rfl) ?_
        refine lv_iconst (v := 5) (pc := 743) hx hb dL_isSo_743 (by decide) ?_
        refine va_iald (pc := 744) hx hb hK.1 hP 0 0 rfl rfl (vp_in_nI (n := 5) (N := 8) (by decide) (by decide)) dL_isSo_744 ?_
        refine lv_icmp_ne (pc := 745) (tgt := 787) hx hb dL_isSo_745 (by decide) (fun cc => ?_) (fun cc => ?_)
        · replace h := am_f cc h
          refine lv_iconst (v := 0) (pc := 787) hx hb dL_isSo_787 (by decide) ?_
          obtain e1 := am_ret1 h
          exact hret _ _ _ dL_isSo_788 rfl e1
        replace h := am_t cc h
        refine lv_aload_n (pc := 748) hx hb dL_isSo_748 rfl (lv_at hl 0 rfl) ?_
        refine lv_bipush (v := 21) (pc := 749) hx hb dL_isSo_749 (by decide) ?_
        obtain ⟨r14, hc14, h⟩ := am_bind_s h
        refine kG_V (pc := 751) (ci := 6) ⟨hx, hb, hml, hown, hts⟩ hPo hK [.int (21 : Int32)] (p_count l D cI cJ o rec A v f u ch xn xa xr (21 : Int32) r14 hc14) (cwV 1 hts (gzV wl198 wl199 wl200 wl2 wl201) rfl rfl rfl ⟨rfl, hdX6_count⟩ ⟨Nat.le_of_ble_eq_true rfl, Nat.le_of_ble_eq_true rfl⟩) rfl rfl [] rfl hl.1 rfl (Nat.le_of_ble_eq_true rfl) dL_isSo_751 ⟨Nat.zero_le _, Nat.zero_le _⟩ ?_
        refine lv_aload_n (pc := 754) hx hb dL_isSo_754 rfl (lv_at hl 1 rfl) ?_
        refine lv_bipush (v := 6) (pc := 755) hx hb dL_isSo_755 (by decide) ?_
        refine va_iald (pc := 757) hx hb hK.1 hP 0 0 rfl rfl (vp_in_nI (n := 6) (N := 8) (by decide) (by decide)) dL_isSo_757 ?_
        refine lv_icmp_ne (pc := 758) (tgt := 787) hx hb dL_isSo_758 (by decide) (fun cc => ?_) (fun cc => ?_)
        · replace h := am_f cc h
          refine lv_iconst (v := 0) (pc := 787) hx hb dL_isSo_787 (by decide) ?_
          obtain e1 := am_ret1 h
          exact hret _ _ _ dL_isSo_788 rfl e1
        replace h := am_t cc h
        refine lv_aload_n (pc := 761) hx hb dL_isSo_761 rfl (lv_at hl 0 rfl) ?_
        refine lv_bipush (v := 22) (pc := 762) hx hb dL_isSo_762 (by decide) ?_
        obtain ⟨r15, hc15, h⟩ := am_bind_s h
        refine kG_V (pc := 764) (ci := 6) ⟨hx, hb, hml, hown, hts⟩ hPo hK [.int (22 : Int32)] (p_count l D cI cJ o rec A v f u ch xn xa xr (22 : Int32) r15 hc15) (cwV 1 hts (gzV wl198 wl199 wl200 wl2 wl201) rfl rfl rfl ⟨rfl, hdX6_count⟩ ⟨Nat.le_of_ble_eq_true rfl, Nat.le_of_ble_eq_true rfl⟩) rfl rfl [] rfl hl.1 rfl (Nat.le_of_ble_eq_true rfl) dL_isSo_764 ⟨Nat.zero_le _, Nat.zero_le _⟩ ?_
        refine lv_aload_n (pc := 767) hx hb dL_isSo_767 rfl (lv_at hl 1 rfl) ?_
        refine lv_bipush (v := 7) (pc := 768) hx hb dL_isSo_768 (by decide) ?_
        refine va_iald (pc := 770) hx hb hK.1 hP 0 0 rfl rfl (vp_in_nI (n := 7) (N := 8) (by decide) (by decide)) dL_isSo_770 ?_
        refine lv_icmp_ne (pc := 771) (tgt := 787) hx hb dL_isSo_771 (by decide) (fun cc => ?_) (fun cc => ?_)
        · replace h := am_f cc h
          refine lv_iconst (v := 0) (pc := 787) hx hb dL_isSo_787 (by decide) ?_
          obtain e1 := am_ret1 h
          exact hret _ _ _ dL_isSo_788 rfl e1
        replace h := am_t cc h
        refine lv_aload_n (pc := 774) hx hb dL_isSo_774 rfl (lv_at hl 0 rfl) ?_
        refine lv_bipush (v := 10) (pc := 775) hx hb dL_isSo_775 (by decide) ?_
        obtain ⟨r16, hc16, h⟩ := am_bind_s h
        refine kG_V (pc := 777) (ci := 6) ⟨hx, hb, hml, hown, hts⟩ hPo hK [.int (10 : Int32)] (p_count l D cI cJ o rec A v f u ch xn xa xr (10 : Int32) r16 hc16) (cwV 1 hts (gzV wl198 wl199 wl200 wl2 wl201) rfl rfl rfl ⟨rfl, hdX6_count⟩ ⟨Nat.le_of_ble_eq_true rfl, Nat.le_of_ble_eq_true rfl⟩) rfl rfl [] rfl hl.1 rfl (Nat.le_of_ble_eq_true rfl) dL_isSo_777 ⟨Nat.zero_le _, Nat.zero_le _⟩ ?_
        refine lv_if_ne (pc := 780) (tgt := 787) hx hb dL_isSo_780 (by decide) (fun cc => ?_) (fun cc => ?_)
        · replace h := am_f cc h
          refine lv_iconst (v := 0) (pc := 787) hx hb dL_isSo_787 (by decide) ?_
          obtain e1 := am_ret1 h
          exact hret _ _ _ dL_isSo_788 rfl e1
        replace h := am_t cc h
        refine lv_iconst (v := 1) (pc := 783) hx hb dL_isSo_783 (by decide) ?_
        refine lv_goto (pc := 784) (tgt := 788) hx hb dL_isSo_784 (by decide) ?_
        obtain e1 := am_ret1 h
        exact hret _ _ _ dL_isSo_788 rfl e1
      refine am_loop2_s (fun (x17 : Int32) (x18 : Int32) => ∀ (ls : Array Slot), lv_has ls 21 [(0, .ref (o 0)), (1, .ref bg), (3, .ref bq), (10, .int x17), (11, .int x18)] → W p l e rmL_isSo s m args below meth c s.heap [] 0 0 Q (F0 m 582 ls [])) (fun rec19 ihrec19 x17 x18 h ls hl => ?_) _ _ _ h ls (lv_sub hl [2, 3, 4, 1, 0] rfl)
      unfold F_L_isSo_B582 at h
      refine lv_iload (pc := 582) hx hb dL_isSo_582 (lv_at hl 4 rfl) ?_
      refine lv_aload_n (pc := 584) hx hb dL_isSo_584 rfl (lv_at hl 1 rfl) ?_
      refine lv_iconst (v := 1) (pc := 585) hx hb dL_isSo_585 (by decide) ?_
      refine va_iald (pc := 586) hx hb hK.1 hP 0 0 rfl rfl (vp_in_nI (n := 1) (N := 8) (by decide) (by decide)) dL_isSo_586 ?_
      refine lv_icmp_ge (pc := 587) (tgt := 718) hx hb dL_isSo_587 (by decide) (fun cc => ?_) (fun cc => ?_)
      · replace h := am_t cc h
        exact hK11 _ h ls (lv_sub hl [0, 1, 3] rfl)
      replace h := am_f cc h
      refine lv_iload (pc := 590) hx hb dL_isSo_590 (lv_at hl 3 rfl) ?_
      refine lv_if_eq (pc := 592) (tgt := 718) hx hb dL_isSo_592 (by decide) (fun cc => ?_) (fun cc => ?_)
      · replace h := am_t cc h
        exact hK11 _ h ls (lv_sub hl [0, 1, 3] rfl)
      replace h := am_f cc h
      refine lv_aload_n (pc := 595) hx hb dL_isSo_595 rfl (lv_at hl 2 rfl) ?_
      refine lv_iconst (v := 3) (pc := 596) hx hb dL_isSo_596 (by decide) ?_
      refine lv_iload (pc := 597) hx hb dL_isSo_597 (lv_at hl 4 rfl) ?_
      refine lv_imul (pc := 599) hx hb dL_isSo_599 ?_
      obtain ⟨hi, h⟩ := am_in_s h
      refine va_iald (pc := 600) hx hb hK.1 hP 2 0 rfl rfl hi dL_isSo_600 ?_
      refine lv_topi (fun x20 ex20 => ?_)
      replace h := am_let_s ex20 h
      refine lv_istore (lv' := [(12, .int x20), (0, .ref (o 0)), (1, .ref bg), (3, .ref bq), (10, .int x17), (11, .int x18)]) (pc := 601) hx hb dL_isSo_601 hl (by decide) rfl (fun ls hl => ?_)
      refine lv_aload_n (pc := 603) hx hb dL_isSo_603 rfl (lv_at hl 1 rfl) ?_
      refine lv_iload (pc := 604) hx hb dL_isSo_604 (lv_at hl 5 rfl) ?_
      refine lv_iconst (v := 0) (pc := 606) hx hb dL_isSo_606 (by decide) ?_
      obtain ⟨r21, hc21, h⟩ := am_bind_s h
      refine kG_V (pc := 607) (ci := 6) ⟨hx, hb, hml, hown, hts⟩ hPo hK [.int x18, .int (0 : Int32)] (p_generationOf l D cI cJ o rec A v f u ch xn xa xr x18 (0 : Int32) r21 hc21) (cwV 2 hts (gzV wl236 wl237 wl238 wl2 wl239) rfl rfl rfl ⟨rfl, hdX6_generationOf⟩ ⟨Nat.le_of_ble_eq_true rfl, Nat.le_of_ble_eq_true rfl⟩) rfl rfl [] rfl hl.1 rfl (Nat.le_of_ble_eq_true rfl) dL_isSo_607 ⟨Nat.zero_le _, Nat.zero_le _⟩ ?_
      refine lv_iload (pc := 610) hx hb dL_isSo_610 (lv_at hl 0 rfl) ?_
      refine lv_icmp_ne (pc := 612) (tgt := 709) hx hb dL_isSo_612 (by decide) (fun cc => ?_) (fun cc => ?_)
      · replace h := am_f cc h
        refine lv_iconst (v := 0) (pc := 709) hx hb dL_isSo_709 (by decide) ?_
        refine lv_istore (lv' := [(10, .int (0 : Int32)), (12, .int x20), (0, .ref (o 0)), (1, .ref bg), (3, .ref bq), (11, .int x18)]) (pc := 710) hx hb dL_isSo_710 hl (by decide) rfl (fun ls hl => ?_)
        obtain ⟨x22, ex22⟩ : ∃ y : Int32, y = (x18 + (1 : Int32)) := ⟨_, rfl⟩
        replace h := am_let_s ex22 h
        refine lv_iinc (pc := 712) (v := x22) (lv' := [(11, .int x22), (10, .int (0 : Int32)), (12, .int x20), (0, .ref (o 0)), (1, .ref bg), (3, .ref bq)]) hx hb dL_isSo_712 hl (k := 5) rfl (by rw [ex22]; rfl) (by decide) rfl (fun ls hl => ?_)
        refine lv_goto (pc := 715) (tgt := 582) hx hb dL_isSo_715 (by decide) ?_
        exact ihrec19 _ _ h ls (lv_sub hl [3, 4, 5, 1, 0] rfl)
      replace h := am_t cc h
      refine lv_aload_n (pc := 615) hx hb dL_isSo_615 rfl (lv_at hl 1 rfl) ?_
      refine lv_iload (pc := 616) hx hb dL_isSo_616 (lv_at hl 5 rfl) ?_
      refine lv_iconst (v := 1) (pc := 618) hx hb dL_isSo_618 (by decide) ?_
      obtain ⟨r23, hc23, h⟩ := am_bind_s h
      refine kG_V (pc := 619) (ci := 6) ⟨hx, hb, hml, hown, hts⟩ hPo hK [.int x18, .int (1 : Int32)] (p_generationOf l D cI cJ o rec A v f u ch xn xa xr x18 (1 : Int32) r23 hc23) (cwV 2 hts (gzV wl236 wl237 wl238 wl2 wl239) rfl rfl rfl ⟨rfl, hdX6_generationOf⟩ ⟨Nat.le_of_ble_eq_true rfl, Nat.le_of_ble_eq_true rfl⟩) rfl rfl [] rfl hl.1 rfl (Nat.le_of_ble_eq_true rfl) dL_isSo_619 ⟨Nat.zero_le _, Nat.zero_le _⟩ ?_
      refine lv_iload (pc := 622) hx hb dL_isSo_622 (lv_at hl 0 rfl) ?_
      refine lv_iconst (v := 1) (pc := 624) hx hb dL_isSo_624 (by decide) ?_
      refine am_join1_s (fun (j24 : Int32) => ∀ (ls : Array Slot), lv_has ls 21 [(0, .ref (o 0)), (1, .ref bg), (3, .ref bq), (11, .int x18), (12, .int x20)] → W p l e rmL_isSo s m args below meth c s.heap [] 0 0 Q (F0 m 644 ls [.int j24, .int r23])) h (fun j24 h ls hl => ?_) (fun J25 hJ25 h => ?_)
      · refine lv_icmp_ne (pc := 644) (tgt := 709) hx hb dL_isSo_644 (by decide) (fun cc => ?_) (fun cc => ?_)
        · replace h := am_f cc h
          refine lv_iconst (v := 0) (pc := 709) hx hb dL_isSo_709 (by decide) ?_
          refine lv_istore (lv' := [(10, .int (0 : Int32)), (0, .ref (o 0)), (1, .ref bg), (3, .ref bq), (11, .int x18), (12, .int x20)]) (pc := 710) hx hb dL_isSo_710 hl (by decide) rfl (fun ls hl => ?_)
          obtain ⟨x26, ex26⟩ : ∃ y : Int32, y = (x18 + (1 : Int32)) := ⟨_, rfl⟩
          replace h := am_let_s ex26 h
          refine lv_iinc (pc := 712) (v := x26) (lv' := [(11, .int x26), (10, .int (0 : Int32)), (0, .ref (o 0)), (1, .ref bg), (3, .ref bq), (12, .int x20)]) hx hb dL_isSo_712 hl (k := 4) rfl (by rw [ex26]; rfl) (by decide) rfl (fun ls hl => ?_)
          refine lv_goto (pc := 715) (tgt := 582) hx hb dL_isSo_715 (by decide) ?_
          exact ihrec19 _ _ h ls (lv_sub hl [2, 3, 4, 1, 0] rfl)
        replace h := am_t cc h
        refine lv_aload_n (pc := 647) hx hb dL_isSo_647 rfl (lv_at hl 0 rfl) ?_
        refine lv_iload (pc := 648) hx hb dL_isSo_648 (lv_at hl 3 rfl) ?_
        refine lv_iconst (v := 2) (pc := 650) hx hb dL_isSo_650 (by decide) ?_
        obtain ⟨r27, hc27, h⟩ := am_bind_s h
        refine kG_V (pc := 651) (ci := 6) ⟨hx, hb, hml, hown, hts⟩ hPo hK [.int x18, .int (2 : Int32)] (p_generationOf l D cI cJ o rec A v f u ch xn xa xr x18 (2 : Int32) r27 hc27) (cwV 2 hts (gzV wl236 wl237 wl238 wl2 wl239) rfl rfl rfl ⟨rfl, hdX6_generationOf⟩ ⟨Nat.le_of_ble_eq_true rfl, Nat.le_of_ble_eq_true rfl⟩) rfl rfl [] rfl hl.1 rfl (Nat.le_of_ble_eq_true rfl) dL_isSo_651 ⟨Nat.zero_le _, Nat.zero_le _⟩ ?_
        refine lv_iload (pc := 654) hx hb dL_isSo_654 (lv_at hl 4 rfl) ?_
        refine lv_iconst (v := 1) (pc := 656) hx hb dL_isSo_656 (by decide) ?_
        refine am_join1_s (fun (j28 : Int32) => ∀ (ls : Array Slot), lv_has ls 21 [(0, .ref (o 0)), (1, .ref bg), (3, .ref bq), (11, .int x18), (12, .int x20)] → W p l e rmL_isSo s m args below meth c s.heap [] 0 0 Q (F0 m 673 ls [.int j28, .int r27])) h (fun j28 h ls hl => ?_) (fun J29 hJ29 h => ?_)
        · refine lv_icmp_ne (pc := 673) (tgt := 709) hx hb dL_isSo_673 (by decide) (fun cc => ?_) (fun cc => ?_)
          · replace h := am_f cc h
            refine lv_iconst (v := 0) (pc := 709) hx hb dL_isSo_709 (by decide) ?_
            refine lv_istore (lv' := [(10, .int (0 : Int32)), (0, .ref (o 0)), (1, .ref bg), (3, .ref bq), (11, .int x18), (12, .int x20)]) (pc := 710) hx hb dL_isSo_710 hl (by decide) rfl (fun ls hl => ?_)
            obtain ⟨x30, ex30⟩ : ∃ y : Int32, y = (x18 + (1 : Int32)) := ⟨_, rfl⟩
            replace h := am_let_s ex30 h
            refine lv_iinc (pc := 712) (v := x30) (lv' := [(11, .int x30), (10, .int (0 : Int32)), (0, .ref (o 0)), (1, .ref bg), (3, .ref bq), (12, .int x20)]) hx hb dL_isSo_712 hl (k := 4) rfl (by rw [ex30]; rfl) (by decide) rfl (fun ls hl => ?_)
            refine lv_goto (pc := 715) (tgt := 582) hx hb dL_isSo_715 (by decide) ?_
            exact ihrec19 _ _ h ls (lv_sub hl [2, 3, 4, 1, 0] rfl)
          replace h := am_t cc h
          refine lv_aload_n (pc := 676) hx hb dL_isSo_676 rfl (lv_at hl 0 rfl) ?_
          refine lv_iload (pc := 677) hx hb dL_isSo_677 (lv_at hl 3 rfl) ?_
          refine lv_iconst (v := 3) (pc := 679) hx hb dL_isSo_679 (by decide) ?_
          obtain ⟨r31, hc31, h⟩ := am_bind_s h
          refine kG_V (pc := 680) (ci := 6) ⟨hx, hb, hml, hown, hts⟩ hPo hK [.int x18, .int (3 : Int32)] (p_generationOf l D cI cJ o rec A v f u ch xn xa xr x18 (3 : Int32) r31 hc31) (cwV 2 hts (gzV wl236 wl237 wl238 wl2 wl239) rfl rfl rfl ⟨rfl, hdX6_generationOf⟩ ⟨Nat.le_of_ble_eq_true rfl, Nat.le_of_ble_eq_true rfl⟩) rfl rfl [] rfl hl.1 rfl (Nat.le_of_ble_eq_true rfl) dL_isSo_680 ⟨Nat.zero_le _, Nat.zero_le _⟩ ?_
          refine lv_iload (pc := 683) hx hb dL_isSo_683 (lv_at hl 4 rfl) ?_
          refine lv_iconst (v := 2) (pc := 685) hx hb dL_isSo_685 (by decide) ?_
          refine am_join1_s (fun (j32 : Int32) => ∀ (ls : Array Slot), lv_has ls 21 [(0, .ref (o 0)), (1, .ref bg), (3, .ref bq), (11, .int x18)] → W p l e rmL_isSo s m args below meth c s.heap [] 0 0 Q (F0 m 702 ls [.int j32, .int r31])) h (fun j32 h ls hl => ?_) (fun J33 hJ33 h => ?_)
          · refine lv_icmp_ne (pc := 702) (tgt := 709) hx hb dL_isSo_702 (by decide) (fun cc => ?_) (fun cc => ?_)
            · replace h := am_f cc h
              refine lv_iconst (v := 0) (pc := 709) hx hb dL_isSo_709 (by decide) ?_
              refine lv_istore (lv' := [(10, .int (0 : Int32)), (0, .ref (o 0)), (1, .ref bg), (3, .ref bq), (11, .int x18)]) (pc := 710) hx hb dL_isSo_710 hl (by decide) rfl (fun ls hl => ?_)
              obtain ⟨x34, ex34⟩ : ∃ y : Int32, y = (x18 + (1 : Int32)) := ⟨_, rfl⟩
              replace h := am_let_s ex34 h
              refine lv_iinc (pc := 712) (v := x34) (lv' := [(11, .int x34), (10, .int (0 : Int32)), (0, .ref (o 0)), (1, .ref bg), (3, .ref bq)]) hx hb dL_isSo_712 hl (k := 4) rfl (by rw [ex34]; rfl) (by decide) rfl (fun ls hl => ?_)
              refine lv_goto (pc := 715) (tgt := 582) hx hb dL_isSo_715 (by decide) ?_
              exact ihrec19 _ _ h ls (lv_sub hl [2, 3, 4, 1, 0] rfl)
            replace h := am_t cc h
            refine lv_iconst (v := 1) (pc := 705) hx hb dL_isSo_705 (by decide) ?_
            refine lv_goto (pc := 706) (tgt := 710) hx hb dL_isSo_706 (by decide) ?_
            refine lv_istore (lv' := [(10, .int (1 : Int32)), (0, .ref (o 0)), (1, .ref bg), (3, .ref bq), (11, .int x18)]) (pc := 710) hx hb dL_isSo_710 hl (by decide) rfl (fun ls hl => ?_)
            obtain ⟨x35, ex35⟩ : ∃ y : Int32, y = (x18 + (1 : Int32)) := ⟨_, rfl⟩
            replace h := am_let_s ex35 h
            refine lv_iinc (pc := 712) (v := x35) (lv' := [(11, .int x35), (10, .int (1 : Int32)), (0, .ref (o 0)), (1, .ref bg), (3, .ref bq)]) hx hb dL_isSo_712 hl (k := 4) rfl (by rw [ex35]; rfl) (by decide) rfl (fun ls hl => ?_)
            refine lv_goto (pc := 715) (tgt := 582) hx hb dL_isSo_715 (by decide) ?_
            exact ihrec19 _ _ h ls (lv_sub hl [2, 3, 4, 1, 0] rfl)
          refine lv_icmp_ne (pc := 686) (tgt := 700) hx hb dL_isSo_686 (by decide) (fun cc => ?_) (fun cc => ?_)
          · replace h := am_f cc h
            refine lv_ldc (pc := 700) hx hb hown hk128 dL_isSo_700 ?_
            exact hJ33 _ h ls (lv_sub hl [0, 1, 2, 3] rfl)
          replace h := am_t cc h
          refine lv_aload_n (pc := 689) hx hb dL_isSo_689 rfl (lv_at hl 2 rfl) ?_
          refine lv_iconst (v := 3) (pc := 690) hx hb dL_isSo_690 (by decide) ?_
          refine lv_iload (pc := 691) hx hb dL_isSo_691 (lv_at hl 3 rfl) ?_
          refine lv_imul (pc := 693) hx hb dL_isSo_693 ?_
          refine lv_iconst (v := 2) (pc := 694) hx hb dL_isSo_694 (by decide) ?_
          refine lv_iadd (pc := 695) hx hb dL_isSo_695 ?_
          obtain ⟨hi, h⟩ := am_in_s h
          refine va_iald (pc := 696) hx hb hK.1 hP 2 0 rfl rfl hi dL_isSo_696 ?_
          refine lv_goto (pc := 697) (tgt := 702) hx hb dL_isSo_697 (by decide) ?_
          exact hJ33 _ h ls (lv_sub hl [0, 1, 2, 3] rfl)
        refine lv_icmp_ne (pc := 657) (tgt := 671) hx hb dL_isSo_657 (by decide) (fun cc => ?_) (fun cc => ?_)
        · replace h := am_f cc h
          refine lv_ldc (pc := 671) hx hb hown hk128 dL_isSo_671 ?_
          exact hJ29 _ h ls (lv_sub hl [0, 1, 2, 3, 4] rfl)
        replace h := am_t cc h
        refine lv_aload_n (pc := 660) hx hb dL_isSo_660 rfl (lv_at hl 2 rfl) ?_
        refine lv_iconst (v := 3) (pc := 661) hx hb dL_isSo_661 (by decide) ?_
        refine lv_iload (pc := 662) hx hb dL_isSo_662 (lv_at hl 3 rfl) ?_
        refine lv_imul (pc := 664) hx hb dL_isSo_664 ?_
        refine lv_iconst (v := 2) (pc := 665) hx hb dL_isSo_665 (by decide) ?_
        refine lv_iadd (pc := 666) hx hb dL_isSo_666 ?_
        obtain ⟨hi, h⟩ := am_in_s h
        refine va_iald (pc := 667) hx hb hK.1 hP 2 0 rfl rfl hi dL_isSo_667 ?_
        refine lv_goto (pc := 668) (tgt := 673) hx hb dL_isSo_668 (by decide) ?_
        exact hJ29 _ h ls (lv_sub hl [0, 1, 2, 3, 4] rfl)
      refine lv_icmp_ne (pc := 625) (tgt := 642) hx hb dL_isSo_625 (by decide) (fun cc => ?_) (fun cc => ?_)
      · replace h := am_f cc h
        refine lv_ldc (pc := 642) hx hb hown hk128 dL_isSo_642 ?_
        exact hJ25 _ h ls (lv_sub hl [1, 2, 3, 5, 0] rfl)
      replace h := am_t cc h
      refine lv_aload_n (pc := 628) hx hb dL_isSo_628 rfl (lv_at hl 3 rfl) ?_
      refine lv_iconst (v := 3) (pc := 629) hx hb dL_isSo_629 (by decide) ?_
      refine lv_iload (pc := 630) hx hb dL_isSo_630 (lv_at hl 5 rfl) ?_
      refine lv_imul (pc := 632) hx hb dL_isSo_632 ?_
      refine lv_iconst (v := 1) (pc := 633) hx hb dL_isSo_633 (by decide) ?_
      refine lv_iadd (pc := 634) hx hb dL_isSo_634 ?_
      obtain ⟨hi, h⟩ := am_in_s h
      refine va_iald (pc := 635) hx hb hK.1 hP 2 0 rfl rfl hi dL_isSo_635 ?_
      refine lv_bipush (v := 100) (pc := 636) hx hb dL_isSo_636 (by decide) ?_
      refine lv_iadd (pc := 638) hx hb dL_isSo_638 ?_
      refine lv_goto (pc := 639) (tgt := 644) hx hb dL_isSo_639 (by decide) ?_
      exact hJ25 _ h ls (lv_sub hl [1, 2, 3, 5, 0] rfl)
    refine am_join0_s (∀ (ls : Array Slot), lv_has ls 21 [(0, .ref (o 0)), (1, .ref bg), (3, .ref bq)] → W p l e rmL_isSo s m args below meth c s.heap [] 0 0 Q (F0 m 576 ls [])) h (fun h ls hl => ?_) (fun J36 hJ36 h => ?_)
    · refine lv_iconst (v := 0) (pc := 576) hx hb dL_isSo_576 (by decide) ?_
      exact hJ9 _ h ls (lv_sub hl [0, 1, 2] rfl)
    refine lv_if_eq (pc := 450) (tgt := 576) hx hb dL_isSo_450 (by decide) (fun cc => ?_) (fun cc => ?_)
    · replace h := am_t cc h
      exact hJ36 h ls (lv_sub hl [0, 1, 3] rfl)
    replace h := am_f cc h
    refine lv_iload (pc := 453) hx hb dL_isSo_453 (lv_at hl 8 rfl) ?_
    refine lv_iload (pc := 455) hx hb dL_isSo_455 (lv_at hl 5 rfl) ?_
    refine lv_icmp_ne (pc := 457) (tgt := 576) hx hb dL_isSo_457 (by decide) (fun cc => ?_) (fun cc => ?_)
    · replace h := am_f cc h
      exact hJ36 h ls (lv_sub hl [0, 1, 3] rfl)
    replace h := am_t cc h
    refine lv_aload_n (pc := 460) hx hb dL_isSo_460 rfl (lv_at hl 0 rfl) ?_
    refine lv_iload (pc := 461) hx hb dL_isSo_461 (lv_at hl 4 rfl) ?_
    refine lv_iconst (v := 0) (pc := 463) hx hb dL_isSo_463 (by decide) ?_
    obtain ⟨r37, hc37, h⟩ := am_bind_s h
    refine kG_V (pc := 464) (ci := 6) ⟨hx, hb, hml, hown, hts⟩ hPo hK [.int x1, .int (0 : Int32)] (p_particleOf l D cI cJ o rec A v f u ch xn xa xr x1 (0 : Int32) r37 hc37) (cwV 2 hts (gzV wl138 wl139 wl140 wl2 wl141) rfl rfl rfl ⟨rfl, hdX6_particleOf⟩ ⟨Nat.le_of_ble_eq_true rfl, Nat.le_of_ble_eq_true rfl⟩) rfl rfl [] rfl hl.1 rfl (Nat.le_of_ble_eq_true rfl) dL_isSo_464 ⟨Nat.zero_le _, Nat.zero_le _⟩ ?_
    refine lv_ldc (pc := 467) hx hb hown hk6 dL_isSo_467 ?_
    refine lv_icmp_ne (pc := 469) (tgt := 576) hx hb dL_isSo_469 (by decide) (fun cc => ?_) (fun cc => ?_)
    · replace h := am_f cc h
      exact hJ36 h ls (lv_sub hl [0, 1, 3] rfl)
    replace h := am_t cc h
    refine lv_aload_n (pc := 472) hx hb dL_isSo_472 rfl (lv_at hl 0 rfl) ?_
    refine lv_iconst (v := 0) (pc := 473) hx hb dL_isSo_473 (by decide) ?_
    obtain ⟨r38, hc38, h⟩ := am_bind_s h
    refine kG_V (pc := 474) (ci := 6) ⟨hx, hb, hml, hown, hts⟩ hPo hK [.int (0 : Int32)] (p_count l D cI cJ o rec A v f u ch xn xa xr (0 : Int32) r38 hc38) (cwV 1 hts (gzV wl198 wl199 wl200 wl2 wl201) rfl rfl rfl ⟨rfl, hdX6_count⟩ ⟨Nat.le_of_ble_eq_true rfl, Nat.le_of_ble_eq_true rfl⟩) rfl rfl [] rfl hl.1 rfl (Nat.le_of_ble_eq_true rfl) dL_isSo_474 ⟨Nat.zero_le _, Nat.zero_le _⟩ ?_
    refine lv_iload (pc := 477) hx hb dL_isSo_477 (lv_at hl 4 rfl) ?_
    refine lv_icmp_ne (pc := 479) (tgt := 576) hx hb dL_isSo_479 (by decide) (fun cc => ?_) (fun cc => ?_)
    · replace h := am_f cc h
      exact hJ36 h ls (lv_sub hl [0, 1, 3] rfl)
    replace h := am_t cc h
    refine lv_aload_n (pc := 482) hx hb dL_isSo_482 rfl (lv_at hl 0 rfl) ?_
    refine lv_iconst (v := 1) (pc := 483) hx hb dL_isSo_483 (by decide) ?_
    obtain ⟨r39, hc39, h⟩ := am_bind_s h
    refine kG_V (pc := 484) (ci := 6) ⟨hx, hb, hml, hown, hts⟩ hPo hK [.int (1 : Int32)] (p_count l D cI cJ o rec A v f u ch xn xa xr (1 : Int32) r39 hc39) (cwV 1 hts (gzV wl198 wl199 wl200 wl2 wl201) rfl rfl rfl ⟨rfl, hdX6_count⟩ ⟨Nat.le_of_ble_eq_true rfl, Nat.le_of_ble_eq_true rfl⟩) rfl rfl [] rfl hl.1 rfl (Nat.le_of_ble_eq_true rfl) dL_isSo_484 ⟨Nat.zero_le _, Nat.zero_le _⟩ ?_
    refine lv_aload_n (pc := 487) hx hb dL_isSo_487 rfl (lv_at hl 1 rfl) ?_
    refine lv_iconst (v := 1) (pc := 488) hx hb dL_isSo_488 (by decide) ?_
    refine va_iald (pc := 489) hx hb hK.1 hP 0 0 rfl rfl (vp_in_nI (n := 1) (N := 8) (by decide) (by decide)) dL_isSo_489 ?_
    refine lv_icmp_ne (pc := 490) (tgt := 576) hx hb dL_isSo_490 (by decide) (fun cc => ?_) (fun cc => ?_)
    · replace h := am_f cc h
      exact hJ36 h ls (lv_sub hl [0, 1, 3] rfl)
    replace h := am_t cc h
    refine lv_aload_n (pc := 493) hx hb dL_isSo_493 rfl (lv_at hl 0 rfl) ?_
    refine lv_iconst (v := 2) (pc := 494) hx hb dL_isSo_494 (by decide) ?_
    obtain ⟨r40, hc40, h⟩ := am_bind_s h
    refine kG_V (pc := 495) (ci := 6) ⟨hx, hb, hml, hown, hts⟩ hPo hK [.int (2 : Int32)] (p_count l D cI cJ o rec A v f u ch xn xa xr (2 : Int32) r40 hc40) (cwV 1 hts (gzV wl198 wl199 wl200 wl2 wl201) rfl rfl rfl ⟨rfl, hdX6_count⟩ ⟨Nat.le_of_ble_eq_true rfl, Nat.le_of_ble_eq_true rfl⟩) rfl rfl [] rfl hl.1 rfl (Nat.le_of_ble_eq_true rfl) dL_isSo_495 ⟨Nat.zero_le _, Nat.zero_le _⟩ ?_
    refine lv_iload (pc := 498) hx hb dL_isSo_498 (lv_at hl 5 rfl) ?_
    refine lv_icmp_ne (pc := 500) (tgt := 576) hx hb dL_isSo_500 (by decide) (fun cc => ?_) (fun cc => ?_)
    · replace h := am_f cc h
      exact hJ36 h ls (lv_sub hl [0, 1, 3] rfl)
    replace h := am_t cc h
    refine lv_aload_n (pc := 503) hx hb dL_isSo_503 rfl (lv_at hl 0 rfl) ?_
    refine lv_iconst (v := 3) (pc := 504) hx hb dL_isSo_504 (by decide) ?_
    obtain ⟨r41, hc41, h⟩ := am_bind_s h
    refine kG_V (pc := 505) (ci := 6) ⟨hx, hb, hml, hown, hts⟩ hPo hK [.int (3 : Int32)] (p_count l D cI cJ o rec A v f u ch xn xa xr (3 : Int32) r41 hc41) (cwV 1 hts (gzV wl198 wl199 wl200 wl2 wl201) rfl rfl rfl ⟨rfl, hdX6_count⟩ ⟨Nat.le_of_ble_eq_true rfl, Nat.le_of_ble_eq_true rfl⟩) rfl rfl [] rfl hl.1 rfl (Nat.le_of_ble_eq_true rfl) dL_isSo_505 ⟨Nat.zero_le _, Nat.zero_le _⟩ ?_
    refine lv_aload_n (pc := 508) hx hb dL_isSo_508 rfl (lv_at hl 1 rfl) ?_
    refine lv_aload_n (pc := 509) hx hb dL_isSo_509 rfl (lv_at hl 2 rfl) ?_
    obtain ⟨r42, hc42, h⟩ := am_bind_s h
    refine kc_Si (pc := 510) ⟨hx, hb, hml, hown, hts⟩ hP hK [.ref bg, .ref bw] (c_L_counts l D cI cJ bg bw yg yw r42 hc42) [0, 1] rfl (cwS 2 hts (gzS wl233 wl234 wl118 wl235) rfl rfl rfl ⟨rfl, hdL_counts⟩ ⟨Nat.le_of_ble_eq_true rfl, Nat.le_of_ble_eq_true rfl⟩) [.int r41] rfl hl.1 rfl (Nat.le_of_ble_eq_true rfl) dL_isSo_510 ⟨Nat.zero_le _, Nat.zero_le _⟩ ?_
    refine lv_icmp_ne (pc := 513) (tgt := 576) hx hb dL_isSo_513 (by decide) (fun cc => ?_) (fun cc => ?_)
    · replace h := am_f cc h
      exact hJ36 h ls (lv_sub hl [0, 1, 3] rfl)
    replace h := am_t cc h
    refine lv_aload_n (pc := 516) hx hb dL_isSo_516 rfl (lv_at hl 0 rfl) ?_
    refine lv_iconst (v := 4) (pc := 517) hx hb dL_isSo_517 (by decide) ?_
    obtain ⟨r43, hc43, h⟩ := am_bind_s h
    refine kG_V (pc := 518) (ci := 6) ⟨hx, hb, hml, hown, hts⟩ hPo hK [.int (4 : Int32)] (p_count l D cI cJ o rec A v f u ch xn xa xr (4 : Int32) r43 hc43) (cwV 1 hts (gzV wl198 wl199 wl200 wl2 wl201) rfl rfl rfl ⟨rfl, hdX6_count⟩ ⟨Nat.le_of_ble_eq_true rfl, Nat.le_of_ble_eq_true rfl⟩) rfl rfl [] rfl hl.1 rfl (Nat.le_of_ble_eq_true rfl) dL_isSo_518 ⟨Nat.zero_le _, Nat.zero_le _⟩ ?_
    refine lv_aload_n (pc := 521) hx hb dL_isSo_521 rfl (lv_at hl 1 rfl) ?_
    refine lv_iconst (v := 2) (pc := 522) hx hb dL_isSo_522 (by decide) ?_
    refine va_iald (pc := 523) hx hb hK.1 hP 0 0 rfl rfl (vp_in_nI (n := 2) (N := 8) (by decide) (by decide)) dL_isSo_523 ?_
    refine lv_icmp_ne (pc := 524) (tgt := 576) hx hb dL_isSo_524 (by decide) (fun cc => ?_) (fun cc => ?_)
    · replace h := am_f cc h
      exact hJ36 h ls (lv_sub hl [0, 1, 3] rfl)
    replace h := am_t cc h
    refine lv_aload_n (pc := 527) hx hb dL_isSo_527 rfl (lv_at hl 0 rfl) ?_
    refine lv_iconst (v := 5) (pc := 528) hx hb dL_isSo_528 (by decide) ?_
    obtain ⟨r44, hc44, h⟩ := am_bind_s h
    refine kG_V (pc := 529) (ci := 6) ⟨hx, hb, hml, hown, hts⟩ hPo hK [.int (5 : Int32)] (p_count l D cI cJ o rec A v f u ch xn xa xr (5 : Int32) r44 hc44) (cwV 1 hts (gzV wl198 wl199 wl200 wl2 wl201) rfl rfl rfl ⟨rfl, hdX6_count⟩ ⟨Nat.le_of_ble_eq_true rfl, Nat.le_of_ble_eq_true rfl⟩) rfl rfl [] rfl hl.1 rfl (Nat.le_of_ble_eq_true rfl) dL_isSo_529 ⟨Nat.zero_le _, Nat.zero_le _⟩ ?_
    refine lv_iload (pc := 532) hx hb dL_isSo_532 (lv_at hl 6 rfl) ?_
    refine lv_icmp_ne (pc := 534) (tgt := 576) hx hb dL_isSo_534 (by decide) (fun cc => ?_) (fun cc => ?_)
    · replace h := am_f cc h
      exact hJ36 h ls (lv_sub hl [0, 1, 3] rfl)
    replace h := am_t cc h
    refine lv_aload_n (pc := 537) hx hb dL_isSo_537 rfl (lv_at hl 0 rfl) ?_
    refine lv_bipush (v := 6) (pc := 538) hx hb dL_isSo_538 (by decide) ?_
    obtain ⟨r45, hc45, h⟩ := am_bind_s h
    refine kG_V (pc := 540) (ci := 6) ⟨hx, hb, hml, hown, hts⟩ hPo hK [.int (6 : Int32)] (p_count l D cI cJ o rec A v f u ch xn xa xr (6 : Int32) r45 hc45) (cwV 1 hts (gzV wl198 wl199 wl200 wl2 wl201) rfl rfl rfl ⟨rfl, hdX6_count⟩ ⟨Nat.le_of_ble_eq_true rfl, Nat.le_of_ble_eq_true rfl⟩) rfl rfl [] rfl hl.1 rfl (Nat.le_of_ble_eq_true rfl) dL_isSo_540 ⟨Nat.zero_le _, Nat.zero_le _⟩ ?_
    refine lv_iload (pc := 543) hx hb dL_isSo_543 (lv_at hl 7 rfl) ?_
    refine lv_icmp_ne (pc := 545) (tgt := 576) hx hb dL_isSo_545 (by decide) (fun cc => ?_) (fun cc => ?_)
    · replace h := am_f cc h
      exact hJ36 h ls (lv_sub hl [0, 1, 3] rfl)
    replace h := am_t cc h
    refine lv_aload_n (pc := 548) hx hb dL_isSo_548 rfl (lv_at hl 0 rfl) ?_
    refine lv_bipush (v := 7) (pc := 549) hx hb dL_isSo_549 (by decide) ?_
    obtain ⟨r46, hc46, h⟩ := am_bind_s h
    refine kG_V (pc := 551) (ci := 6) ⟨hx, hb, hml, hown, hts⟩ hPo hK [.int (7 : Int32)] (p_count l D cI cJ o rec A v f u ch xn xa xr (7 : Int32) r46 hc46) (cwV 1 hts (gzV wl198 wl199 wl200 wl2 wl201) rfl rfl rfl ⟨rfl, hdX6_count⟩ ⟨Nat.le_of_ble_eq_true rfl, Nat.le_of_ble_eq_true rfl⟩) rfl rfl [] rfl hl.1 rfl (Nat.le_of_ble_eq_true rfl) dL_isSo_551 ⟨Nat.zero_le _, Nat.zero_le _⟩ ?_
    refine lv_aload_n (pc := 554) hx hb dL_isSo_554 rfl (lv_at hl 1 rfl) ?_
    refine lv_iconst (v := 3) (pc := 555) hx hb dL_isSo_555 (by decide) ?_
    refine va_iald (pc := 556) hx hb hK.1 hP 0 0 rfl rfl (vp_in_nI (n := 3) (N := 8) (by decide) (by decide)) dL_isSo_556 ?_
    refine lv_icmp_ne (pc := 557) (tgt := 576) hx hb dL_isSo_557 (by decide) (fun cc => ?_) (fun cc => ?_)
    · replace h := am_f cc h
      exact hJ36 h ls (lv_sub hl [0, 1, 3] rfl)
    replace h := am_t cc h
    refine lv_aload_n (pc := 560) hx hb dL_isSo_560 rfl (lv_at hl 0 rfl) ?_
    refine lv_bipush (v := 8) (pc := 561) hx hb dL_isSo_561 (by decide) ?_
    obtain ⟨r47, hc47, h⟩ := am_bind_s h
    refine kG_V (pc := 563) (ci := 6) ⟨hx, hb, hml, hown, hts⟩ hPo hK [.int (8 : Int32)] (p_count l D cI cJ o rec A v f u ch xn xa xr (8 : Int32) r47 hc47) (cwV 1 hts (gzV wl198 wl199 wl200 wl2 wl201) rfl rfl rfl ⟨rfl, hdX6_count⟩ ⟨Nat.le_of_ble_eq_true rfl, Nat.le_of_ble_eq_true rfl⟩) rfl rfl [] rfl hl.1 rfl (Nat.le_of_ble_eq_true rfl) dL_isSo_563 ⟨Nat.zero_le _, Nat.zero_le _⟩ ?_
    refine lv_aload_n (pc := 566) hx hb dL_isSo_566 rfl (lv_at hl 1 rfl) ?_
    refine lv_iconst (v := 4) (pc := 567) hx hb dL_isSo_567 (by decide) ?_
    refine va_iald (pc := 568) hx hb hK.1 hP 0 0 rfl rfl (vp_in_nI (n := 4) (N := 8) (by decide) (by decide)) dL_isSo_568 ?_
    refine lv_icmp_ne (pc := 569) (tgt := 576) hx hb dL_isSo_569 (by decide) (fun cc => ?_) (fun cc => ?_)
    · replace h := am_f cc h
      exact hJ36 h ls (lv_sub hl [0, 1, 3] rfl)
    replace h := am_t cc h
    refine lv_iconst (v := 1) (pc := 572) hx hb dL_isSo_572 (by decide) ?_
    refine lv_goto (pc := 573) (tgt := 577) hx hb dL_isSo_573 (by decide) ?_
    exact hJ9 _ h ls (lv_sub hl [0, 1, 3] rfl)
  refine am_loop5_s (fun (x48 : Int32) (x49 : Int32) (x50 : Int32) (x51 : Int32) (x52 : Int32) => ∀ (ls : Array Slot), lv_has ls 21 [(0, .ref (o 0)), (1, .ref bg), (2, .ref bw), (3, .ref bq), (4, .ref bc), (5, .int x1), (6, .int r2), (7, .int x48), (8, .int x49), (9, .int x50), (10, .int x51), (11, .int x52)] → W p l e rmL_isSo s m args below meth c s.heap [] 0 0 Q (F0 m 27 ls [])) (fun rec53 ihrec53 x48 x49 x50 x51 x52 h ls hl => ?_) _ _ _ _ _ _ h ls (lv_sub hl [7, 8, 9, 10, 11, 6, 5, 4, 3, 2, 1, 0] rfl)
  unfold F_L_isSo_B27 at h
  refine lv_iload (pc := 27) hx hb dL_isSo_27 (lv_at hl 11 rfl) ?_
  refine lv_iload (pc := 29) hx hb dL_isSo_29 (lv_at hl 5 rfl) ?_
  refine lv_icmp_ge (pc := 31) (tgt := 448) hx hb dL_isSo_31 (by decide) (fun cc => ?_) (fun cc => ?_)
  · replace h := am_t cc h
    exact hK7 _ _ _ _ h ls (lv_sub hl [0, 1, 2, 3, 5, 6, 7, 8, 9, 10] rfl)
  replace h := am_f cc h
  refine lv_iload (pc := 34) hx hb dL_isSo_34 (lv_at hl 10 rfl) ?_
  refine lv_if_eq (pc := 36) (tgt := 448) hx hb dL_isSo_36 (by decide) (fun cc => ?_) (fun cc => ?_)
  · replace h := am_t cc h
    exact hK7 _ _ _ _ h ls (lv_sub hl [0, 1, 2, 3, 5, 6, 7, 8, 9, 10] rfl)
  replace h := am_f cc h
  refine lv_iconst (v := 0) (pc := 39) hx hb dL_isSo_39 (by decide) ?_
  refine lv_istore (lv' := [(12, .int (0 : Int32)), (0, .ref (o 0)), (1, .ref bg), (2, .ref bw), (3, .ref bq), (4, .ref bc), (5, .int x1), (6, .int r2), (7, .int x48), (8, .int x49), (9, .int x50), (10, .int x51), (11, .int x52)]) (pc := 40) hx hb dL_isSo_40 hl (by decide) rfl (fun ls hl => ?_)
  refine lv_iconst (v := 0) (pc := 42) hx hb dL_isSo_42 (by decide) ?_
  refine lv_istore (lv' := [(13, .int (0 : Int32)), (12, .int (0 : Int32)), (0, .ref (o 0)), (1, .ref bg), (2, .ref bw), (3, .ref bq), (4, .ref bc), (5, .int x1), (6, .int r2), (7, .int x48), (8, .int x49), (9, .int x50), (10, .int x51), (11, .int x52)]) (pc := 43) hx hb dL_isSo_43 hl (by decide) rfl (fun ls hl => ?_)
  refine lv_iconst (v := 1) (pc := 45) hx hb dL_isSo_45 (by decide) ?_
  refine lv_istore (lv' := [(14, .int (1 : Int32)), (13, .int (0 : Int32)), (12, .int (0 : Int32)), (0, .ref (o 0)), (1, .ref bg), (2, .ref bw), (3, .ref bq), (4, .ref bc), (5, .int x1), (6, .int r2), (7, .int x48), (8, .int x49), (9, .int x50), (10, .int x51), (11, .int x52)]) (pc := 46) hx hb dL_isSo_46 hl (by decide) rfl (fun ls hl => ?_)
  refine lv_iconst (v := 0) (pc := 48) hx hb dL_isSo_48 (by decide) ?_
  refine lv_istore (lv' := [(15, .int (0 : Int32)), (14, .int (1 : Int32)), (13, .int (0 : Int32)), (12, .int (0 : Int32)), (0, .ref (o 0)), (1, .ref bg), (2, .ref bw), (3, .ref bq), (4, .ref bc), (5, .int x1), (6, .int r2), (7, .int x48), (8, .int x49), (9, .int x50), (10, .int x51), (11, .int x52)]) (pc := 49) hx hb dL_isSo_49 hl (by decide) rfl (fun ls hl => ?_)
  refine am_join3_s (fun (x54 : Int32) (x55 : Int32) (x56 : Int32) => ∀ (ls : Array Slot), lv_has ls 21 [(0, .ref (o 0)), (1, .ref bg), (2, .ref bw), (3, .ref bq), (4, .ref bc), (5, .int x1), (6, .int r2), (7, .int x48), (8, .int x49), (9, .int x50), (11, .int x52), (12, .int x54), (13, .int x55), (14, .int x56)] → W p l e rmL_isSo s m args below meth c s.heap [] 0 0 Q (F0 m 170 ls [])) h (fun x54 x55 x56 h ls hl => ?_) (fun K57 hK57 h => ?_)
  · refine lv_iload (pc := 170) hx hb dL_isSo_170 (lv_at hl 7 rfl) ?_
    refine lv_aload_n (pc := 172) hx hb dL_isSo_172 rfl (lv_at hl 2 rfl) ?_
    refine lv_iload (pc := 173) hx hb dL_isSo_173 (lv_at hl 10 rfl) ?_
    obtain ⟨hi, h⟩ := am_in_s h
    refine va_iald (pc := 175) hx hb hK.1 hP 1 0 rfl rfl hi dL_isSo_175 ?_
    refine am_join1_s (fun (j58 : Int32) => ∀ (ls : Array Slot), lv_has ls 21 [(0, .ref (o 0)), (1, .ref bg), (2, .ref bw), (3, .ref bq), (4, .ref bc), (5, .int x1), (6, .int r2), (8, .int x49), (9, .int x50), (11, .int x52), (12, .int x54), (13, .int x55), (14, .int x56)] → W p l e rmL_isSo s m args below meth c s.heap [] 0 0 Q (F0 m 184 ls [.int j58, .int x48])) h (fun j58 h ls hl => ?_) (fun J59 hJ59 h => ?_)
    · refine lv_iadd (pc := 184) hx hb dL_isSo_184 ?_
      refine lv_topi (fun x60 ex60 => ?_)
      replace h := am_let_s ex60 h
      refine lv_istore (lv' := [(7, .int x60), (0, .ref (o 0)), (1, .ref bg), (2, .ref bw), (3, .ref bq), (4, .ref bc), (5, .int x1), (6, .int r2), (8, .int x49), (9, .int x50), (11, .int x52), (12, .int x54), (13, .int x55), (14, .int x56)]) (pc := 185) hx hb dL_isSo_185 hl (by decide) rfl (fun ls hl => ?_)
      refine lv_iload (pc := 187) hx hb dL_isSo_187 (lv_at hl 8 rfl) ?_
      refine lv_iload (pc := 189) hx hb dL_isSo_189 (lv_at hl 13 rfl) ?_
      refine am_join1_s (fun (j61 : Int32) => ∀ (ls : Array Slot), lv_has ls 21 [(0, .ref (o 0)), (1, .ref bg), (2, .ref bw), (3, .ref bq), (4, .ref bc), (5, .int x1), (6, .int r2), (7, .int x60), (9, .int x50), (11, .int x52), (12, .int x54), (13, .int x55)] → W p l e rmL_isSo s m args below meth c s.heap [] 0 0 Q (F0 m 199 ls [.int j61, .int x49])) h (fun j61 h ls hl => ?_) (fun J62 hJ62 h => ?_)
      · refine lv_iadd (pc := 199) hx hb dL_isSo_199 ?_
        refine lv_topi (fun x63 ex63 => ?_)
        replace h := am_let_s ex63 h
        refine lv_istore (lv' := [(8, .int x63), (0, .ref (o 0)), (1, .ref bg), (2, .ref bw), (3, .ref bq), (4, .ref bc), (5, .int x1), (6, .int r2), (7, .int x60), (9, .int x50), (11, .int x52), (12, .int x54), (13, .int x55)]) (pc := 200) hx hb dL_isSo_200 hl (by decide) rfl (fun ls hl => ?_)
        refine lv_aload_n (pc := 202) hx hb dL_isSo_202 rfl (lv_at hl 1 rfl) ?_
        refine lv_iload (pc := 203) hx hb dL_isSo_203 (lv_at hl 10 rfl) ?_
        refine lv_iconst (v := 4) (pc := 205) hx hb dL_isSo_205 (by decide) ?_
        obtain ⟨r64, hc64, h⟩ := am_bind_s h
        refine kG_V (pc := 206) (ci := 6) ⟨hx, hb, hml, hown, hts⟩ hPo hK [.int x52, .int (4 : Int32)] (p_particleOf l D cI cJ o rec A v f u ch xn xa xr x52 (4 : Int32) r64 hc64) (cwV 2 hts (gzV wl138 wl139 wl140 wl2 wl141) rfl rfl rfl ⟨rfl, hdX6_particleOf⟩ ⟨Nat.le_of_ble_eq_true rfl, Nat.le_of_ble_eq_true rfl⟩) rfl rfl [] rfl hl.1 rfl (Nat.le_of_ble_eq_true rfl) dL_isSo_206 ⟨Nat.zero_le _, Nat.zero_le _⟩ ?_
        refine lv_istore (lv' := [(15, .int r64), (8, .int x63), (0, .ref (o 0)), (1, .ref bg), (2, .ref bw), (3, .ref bq), (4, .ref bc), (5, .int x1), (6, .int r2), (7, .int x60), (9, .int x50), (11, .int x52), (12, .int x54), (13, .int x55)]) (pc := 209) hx hb dL_isSo_209 hl (by decide) rfl (fun ls hl => ?_)
        refine lv_aload_n (pc := 211) hx hb dL_isSo_211 rfl (lv_at hl 2 rfl) ?_
        refine lv_iload (pc := 212) hx hb dL_isSo_212 (lv_at hl 11 rfl) ?_
        refine lv_iconst (v := 5) (pc := 214) hx hb dL_isSo_214 (by decide) ?_
        obtain ⟨r65, hc65, h⟩ := am_bind_s h
        refine kG_V (pc := 215) (ci := 6) ⟨hx, hb, hml, hown, hts⟩ hPo hK [.int x52, .int (5 : Int32)] (p_particleOf l D cI cJ o rec A v f u ch xn xa xr x52 (5 : Int32) r65 hc65) (cwV 2 hts (gzV wl138 wl139 wl140 wl2 wl141) rfl rfl rfl ⟨rfl, hdX6_particleOf⟩ ⟨Nat.le_of_ble_eq_true rfl, Nat.le_of_ble_eq_true rfl⟩) rfl rfl [] rfl hl.1 rfl (Nat.le_of_ble_eq_true rfl) dL_isSo_215 ⟨Nat.zero_le _, Nat.zero_le _⟩ ?_
        refine lv_istore (lv' := [(16, .int r65), (15, .int r64), (8, .int x63), (0, .ref (o 0)), (1, .ref bg), (2, .ref bw), (3, .ref bq), (4, .ref bc), (5, .int x1), (6, .int r2), (7, .int x60), (9, .int x50), (11, .int x52), (12, .int x54), (13, .int x55)]) (pc := 218) hx hb dL_isSo_218 hl (by decide) rfl (fun ls hl => ?_)
        refine lv_aload (pc := 220) hx hb dL_isSo_220 (lv_at hl 7 rfl) ?_
        refine lv_aload_n (pc := 222) hx hb dL_isSo_222 rfl (lv_at hl 4 rfl) ?_
        refine lv_iconst (v := 1) (pc := 223) hx hb dL_isSo_223 (by decide) ?_
        refine va_iald (pc := 224) hx hb hK.1 hP 0 0 rfl rfl (vp_in_nI (n := 1) (N := 8) (by decide) (by decide)) dL_isSo_224 ?_
        refine lv_iconst (v := 1) (pc := 225) hx hb dL_isSo_225 (by decide) ?_
        refine lv_isub (pc := 226) hx hb dL_isSo_226 ?_
        refine lv_iload (pc := 227) hx hb dL_isSo_227 (lv_at hl 12 rfl) ?_
        obtain ⟨r66, hc66, h⟩ := am_bind_s h
        refine kc_Si (pc := 229) ⟨hx, hb, hml, hown, hts⟩ hP hK [.ref bc, .int ((yg (1 : Int32).toNatClampNeg) - (1 : Int32)), .int x52] (c_L_of l D cI cJ bc yc ((yg (1 : Int32).toNatClampNeg) - (1 : Int32)) x52 r66 hc66) [3] rfl (cwS 3 hts (gzS wl135 wl136 wl118 wl137) rfl rfl rfl ⟨rfl, hdL_of⟩ ⟨Nat.le_of_ble_eq_true rfl, Nat.le_of_ble_eq_true rfl⟩) [] rfl hl.1 rfl (Nat.le_of_ble_eq_true rfl) dL_isSo_229 ⟨Nat.zero_le _, Nat.zero_le _⟩ ?_
        refine lv_sipush (v := 256) (pc := 232) hx hb dL_isSo_232 (by decide) ?_
        refine lv_idiv (pc := 235) hx hb dL_isSo_235 (by decide) ?_
        refine lv_topi (fun x67 ex67 => ?_)
        replace h := am_let_s ex67 h
        refine lv_istore (lv' := [(17, .int x67), (16, .int r65), (15, .int r64), (8, .int x63), (0, .ref (o 0)), (1, .ref bg), (2, .ref bw), (3, .ref bq), (4, .ref bc), (5, .int x1), (6, .int r2), (7, .int x60), (9, .int x50), (11, .int x52), (12, .int x54), (13, .int x55)]) (pc := 236) hx hb dL_isSo_236 hl (by decide) rfl (fun ls hl => ?_)
        refine lv_aload_n (pc := 238) hx hb dL_isSo_238 rfl (lv_at hl 4 rfl) ?_
        refine lv_iload (pc := 239) hx hb dL_isSo_239 (lv_at hl 13 rfl) ?_
        refine lv_iconst (v := 0) (pc := 241) hx hb dL_isSo_241 (by decide) ?_
        obtain ⟨r68, hc68, h⟩ := am_bind_s h
        refine kG_V (pc := 242) (ci := 6) ⟨hx, hb, hml, hown, hts⟩ hPo hK [.int x52, .int (0 : Int32)] (p_particleOf l D cI cJ o rec A v f u ch xn xa xr x52 (0 : Int32) r68 hc68) (cwV 2 hts (gzV wl138 wl139 wl140 wl2 wl141) rfl rfl rfl ⟨rfl, hdX6_particleOf⟩ ⟨Nat.le_of_ble_eq_true rfl, Nat.le_of_ble_eq_true rfl⟩) rfl rfl [] rfl hl.1 rfl (Nat.le_of_ble_eq_true rfl) dL_isSo_242 ⟨Nat.zero_le _, Nat.zero_le _⟩ ?_
        refine lv_aload_n (pc := 245) hx hb dL_isSo_245 rfl (lv_at hl 5 rfl) ?_
        refine lv_aload (pc := 246) hx hb dL_isSo_246 (lv_at hl 8 rfl) ?_
        refine lv_iload (pc := 248) hx hb dL_isSo_248 (lv_at hl 13 rfl) ?_
        obtain ⟨r69, hc69, h⟩ := am_bind_s h
        refine kc_Si (pc := 250) ⟨hx, hb, hml, hown, hts⟩ hP hK [.ref bg, .ref bc, .int x52] (c_L_place l D cI cJ bg bc yg yc x52 r69 hc69) [0, 3] rfl (cwS 3 hts (gzS wl132 wl133 wl118 wl134) rfl rfl rfl ⟨rfl, hdL_place⟩ ⟨Nat.le_of_ble_eq_true rfl, Nat.le_of_ble_eq_true rfl⟩) [.int r68] rfl hl.1 rfl (Nat.le_of_ble_eq_true rfl) dL_isSo_250 ⟨Nat.zero_le _, Nat.zero_le _⟩ ?_
        refine am_join1_s (fun (j70 : Int32) => ∀ (ls : Array Slot), lv_has ls 21 [(0, .ref (o 0)), (1, .ref bg), (2, .ref bw), (3, .ref bq), (4, .ref bc), (5, .int x1), (6, .int r2), (7, .int x60), (8, .int x63), (9, .int x50), (11, .int x52), (15, .int r64), (16, .int r65)] → W p l e rmL_isSo s m args below meth c s.heap [] 0 0 Q (F0 m 369 ls [.int j70])) h (fun j70 h ls hl => ?_) (fun J71 hJ71 h => ?_)
        · refine lv_istore (lv' := [(10, .int j70), (0, .ref (o 0)), (1, .ref bg), (2, .ref bw), (3, .ref bq), (4, .ref bc), (5, .int x1), (6, .int r2), (7, .int x60), (8, .int x63), (9, .int x50), (11, .int x52), (15, .int r64), (16, .int r65)]) (pc := 369) hx hb dL_isSo_369 hl (by decide) rfl (fun ls hl => ?_)
          refine lv_iload (pc := 371) hx hb dL_isSo_371 (lv_at hl 12 rfl) ?_
          refine lv_istore (lv' := [(18, .int r64), (10, .int j70), (0, .ref (o 0)), (1, .ref bg), (2, .ref bw), (3, .ref bq), (4, .ref bc), (5, .int x1), (6, .int r2), (7, .int x60), (8, .int x63), (9, .int x50), (11, .int x52), (15, .int r64), (16, .int r65)]) (pc := 373) hx hb dL_isSo_373 hl (by decide) rfl (fun ls hl => ?_)
          refine lv_iload (pc := 375) hx hb dL_isSo_375 (lv_at hl 14 rfl) ?_
          refine lv_istore (lv' := [(19, .int r65), (18, .int r64), (10, .int j70), (0, .ref (o 0)), (1, .ref bg), (2, .ref bw), (3, .ref bq), (4, .ref bc), (5, .int x1), (6, .int r2), (7, .int x60), (8, .int x63), (9, .int x50), (11, .int x52), (15, .int r64), (16, .int r65)]) (pc := 377) hx hb dL_isSo_377 hl (by decide) rfl (fun ls hl => ?_)
          refine am_join1_s (fun (x72 : Int32) => ∀ (ls : Array Slot), lv_has ls 21 [(0, .ref (o 0)), (1, .ref bg), (2, .ref bw), (3, .ref bq), (4, .ref bc), (5, .int x1), (6, .int r2), (7, .int x60), (8, .int x63), (9, .int x50), (10, .int j70), (11, .int x52), (15, .int r64), (16, .int r65), (19, .int x72)] → W p l e rmL_isSo s m args below meth c s.heap [] 0 0 Q (F0 m 402 ls [])) h (fun x72 h ls hl => ?_) (fun K73 hK73 h => ?_)
          · refine lv_iload (pc := 402) hx hb dL_isSo_402 (lv_at hl 10 rfl) ?_
            refine am_join1_s (fun (j74 : Int32) => ∀ (ls : Array Slot), lv_has ls 21 [(0, .ref (o 0)), (1, .ref bg), (2, .ref bw), (3, .ref bq), (4, .ref bc), (5, .int x1), (6, .int r2), (7, .int x60), (8, .int x63), (9, .int x50), (11, .int x52), (15, .int r64), (16, .int r65)] → W p l e rmL_isSo s m args below meth c s.heap [] 0 0 Q (F0 m 418 ls [.int j74])) h (fun j74 h ls hl => ?_) (fun J75 hJ75 h => ?_)
            · refine lv_istore (lv' := [(10, .int j74), (0, .ref (o 0)), (1, .ref bg), (2, .ref bw), (3, .ref bq), (4, .ref bc), (5, .int x1), (6, .int r2), (7, .int x60), (8, .int x63), (9, .int x50), (11, .int x52), (15, .int r64), (16, .int r65)]) (pc := 418) hx hb dL_isSo_418 hl (by decide) rfl (fun ls hl => ?_)
              refine lv_iload (pc := 420) hx hb dL_isSo_420 (lv_at hl 10 rfl) ?_
              refine lv_iload (pc := 422) hx hb dL_isSo_422 (lv_at hl 13 rfl) ?_
              refine lv_if_le (pc := 424) (tgt := 438) hx hb dL_isSo_424 (by decide) (fun cc => ?_) (fun cc => ?_)
              · replace h := am_t cc h
                refine lv_iconst (v := 0) (pc := 438) hx hb dL_isSo_438 (by decide) ?_
                refine lv_iadd (pc := 439) hx hb dL_isSo_439 ?_
                refine lv_topi (fun x76 ex76 => ?_)
                replace h := am_let_s ex76 h
                refine lv_istore (lv' := [(9, .int x76), (10, .int j74), (0, .ref (o 0)), (1, .ref bg), (2, .ref bw), (3, .ref bq), (4, .ref bc), (5, .int x1), (6, .int r2), (7, .int x60), (8, .int x63), (11, .int x52), (15, .int r64), (16, .int r65)]) (pc := 440) hx hb dL_isSo_440 hl (by decide) rfl (fun ls hl => ?_)
                obtain ⟨x77, ex77⟩ : ∃ y : Int32, y = (x52 + (1 : Int32)) := ⟨_, rfl⟩
                replace h := am_let_s ex77 h
                refine lv_iinc (pc := 442) (v := x77) (lv' := [(11, .int x77), (9, .int x76), (10, .int j74), (0, .ref (o 0)), (1, .ref bg), (2, .ref bw), (3, .ref bq), (4, .ref bc), (5, .int x1), (6, .int r2), (7, .int x60), (8, .int x63), (15, .int r64), (16, .int r65)]) hx hb dL_isSo_442 hl (k := 11) rfl (by rw [ex77]; rfl) (by decide) rfl (fun ls hl => ?_)
                refine lv_goto (pc := 445) (tgt := 27) hx hb dL_isSo_445 (by decide) ?_
                exact ihrec53 _ _ _ _ _ h ls (lv_sub hl [3, 4, 5, 6, 7, 8, 9, 10, 11, 1, 2, 0] rfl)
              replace h := am_f cc h
              refine lv_iload (pc := 427) hx hb dL_isSo_427 (lv_at hl 7 rfl) ?_
              refine lv_iload (pc := 429) hx hb dL_isSo_429 (lv_at hl 13 rfl) ?_
              obtain ⟨hz, h⟩ := am_nz_s h
              refine lv_idiv (pc := 431) hx hb dL_isSo_431 hz ?_
              refine lv_iload (pc := 432) hx hb dL_isSo_432 (lv_at hl 12 rfl) ?_
              refine lv_imul (pc := 434) hx hb dL_isSo_434 ?_
              refine lv_goto (pc := 435) (tgt := 439) hx hb dL_isSo_435 (by decide) ?_
              refine lv_iadd (pc := 439) hx hb dL_isSo_439 ?_
              refine lv_topi (fun x78 ex78 => ?_)
              replace h := am_let_s ex78 h
              refine lv_istore (lv' := [(9, .int x78), (10, .int j74), (0, .ref (o 0)), (1, .ref bg), (2, .ref bw), (3, .ref bq), (4, .ref bc), (5, .int x1), (6, .int r2), (7, .int x60), (8, .int x63), (11, .int x52), (15, .int r64), (16, .int r65)]) (pc := 440) hx hb dL_isSo_440 hl (by decide) rfl (fun ls hl => ?_)
              obtain ⟨x79, ex79⟩ : ∃ y : Int32, y = (x52 + (1 : Int32)) := ⟨_, rfl⟩
              replace h := am_let_s ex79 h
              refine lv_iinc (pc := 442) (v := x79) (lv' := [(11, .int x79), (9, .int x78), (10, .int j74), (0, .ref (o 0)), (1, .ref bg), (2, .ref bw), (3, .ref bq), (4, .ref bc), (5, .int x1), (6, .int r2), (7, .int x60), (8, .int x63), (15, .int r64), (16, .int r65)]) hx hb dL_isSo_442 hl (k := 11) rfl (by rw [ex79]; rfl) (by decide) rfl (fun ls hl => ?_)
              refine lv_goto (pc := 445) (tgt := 27) hx hb dL_isSo_445 (by decide) ?_
              exact ihrec53 _ _ _ _ _ h ls (lv_sub hl [3, 4, 5, 6, 7, 8, 9, 10, 11, 1, 2, 0] rfl)
            refine am_join0_s (∀ (ls : Array Slot), lv_has ls 21 [(0, .ref (o 0)), (1, .ref bg), (2, .ref bw), (3, .ref bq), (4, .ref bc), (5, .int x1), (6, .int r2), (7, .int x60), (8, .int x63), (9, .int x50), (11, .int x52), (15, .int r64), (16, .int r65)] → W p l e rmL_isSo s m args below meth c s.heap [] 0 0 Q (F0 m 417 ls [])) h (fun h ls hl => ?_) (fun J80 hJ80 h => ?_)
            · refine lv_iconst (v := 0) (pc := 417) hx hb dL_isSo_417 (by decide) ?_
              exact hJ75 _ h ls (lv_sub hl [0, 1, 2, 3, 4, 5, 6, 7, 8, 9, 10, 11, 12] rfl)
            refine lv_if_eq (pc := 404) (tgt := 417) hx hb dL_isSo_404 (by decide) (fun cc => ?_) (fun cc => ?_)
            · replace h := am_t cc h
              exact hJ80 h ls (lv_sub hl [0, 1, 2, 3, 4, 5, 6, 7, 8, 9, 11, 12, 13] rfl)
            replace h := am_f cc h
            refine lv_iload (pc := 407) hx hb dL_isSo_407 (lv_at hl 14 rfl) ?_
            refine lv_iconst (v := 1) (pc := 409) hx hb dL_isSo_409 (by decide) ?_
            refine lv_icmp_ne (pc := 410) (tgt := 417) hx hb dL_isSo_410 (by decide) (fun cc => ?_) (fun cc => ?_)
            · replace h := am_f cc h
              exact hJ80 h ls (lv_sub hl [0, 1, 2, 3, 4, 5, 6, 7, 8, 9, 11, 12, 13] rfl)
            replace h := am_t cc h
            refine lv_iconst (v := 1) (pc := 413) hx hb dL_isSo_413 (by decide) ?_
            refine lv_goto (pc := 414) (tgt := 418) hx hb dL_isSo_414 (by decide) ?_
            exact hJ75 _ h ls (lv_sub hl [0, 1, 2, 3, 4, 5, 6, 7, 8, 9, 11, 12, 13] rfl)
          refine am_loop2_s (fun (x81 : Int32) (x82 : Int32) => ∀ (ls : Array Slot), lv_has ls 21 [(0, .ref (o 0)), (1, .ref bg), (2, .ref bw), (3, .ref bq), (4, .ref bc), (5, .int x1), (6, .int r2), (7, .int x60), (8, .int x63), (9, .int x50), (10, .int j70), (11, .int x52), (15, .int r64), (16, .int r65), (18, .int x81), (19, .int x82)] → W p l e rmL_isSo s m args below meth c s.heap [] 0 0 Q (F0 m 379 ls [])) (fun rec83 ihrec83 x81 x82 h ls hl => ?_) _ _ _ h ls (lv_sub hl [3, 4, 5, 6, 7, 8, 9, 10, 11, 12, 2, 13, 14, 15, 1, 0] rfl)
          unfold F_L_isSo_B379 at h
          refine lv_iload (pc := 379) hx hb dL_isSo_379 (lv_at hl 14 rfl) ?_
          refine lv_if_le (pc := 381) (tgt := 402) hx hb dL_isSo_381 (by decide) (fun cc => ?_) (fun cc => ?_)
          · replace h := am_t cc h
            exact hK73 _ h ls (lv_sub hl [0, 1, 2, 3, 4, 5, 6, 7, 8, 9, 10, 11, 12, 13, 15] rfl)
          replace h := am_f cc h
          refine lv_iload (pc := 384) hx hb dL_isSo_384 (lv_at hl 15 rfl) ?_
          refine lv_iload (pc := 386) hx hb dL_isSo_386 (lv_at hl 14 rfl) ?_
          obtain ⟨hz, h⟩ := am_nz_s h
          refine lv_irem (pc := 388) hx hb dL_isSo_388 hz ?_
          refine lv_topi (fun x84 ex84 => ?_)
          replace h := am_let_s ex84 h
          refine lv_istore (lv' := [(20, .int x84), (0, .ref (o 0)), (1, .ref bg), (2, .ref bw), (3, .ref bq), (4, .ref bc), (5, .int x1), (6, .int r2), (7, .int x60), (8, .int x63), (9, .int x50), (10, .int j70), (11, .int x52), (15, .int r64), (16, .int r65), (18, .int x81), (19, .int x82)]) (pc := 389) hx hb dL_isSo_389 hl (by decide) rfl (fun ls hl => ?_)
          refine lv_iload (pc := 391) hx hb dL_isSo_391 (lv_at hl 15 rfl) ?_
          refine lv_istore (lv' := [(19, .int x81), (20, .int x84), (0, .ref (o 0)), (1, .ref bg), (2, .ref bw), (3, .ref bq), (4, .ref bc), (5, .int x1), (6, .int r2), (7, .int x60), (8, .int x63), (9, .int x50), (10, .int j70), (11, .int x52), (15, .int r64), (16, .int r65), (18, .int x81)]) (pc := 393) hx hb dL_isSo_393 hl (by decide) rfl (fun ls hl => ?_)
          refine lv_iload (pc := 395) hx hb dL_isSo_395 (lv_at hl 1 rfl) ?_
          refine lv_istore (lv' := [(18, .int x84), (19, .int x81), (20, .int x84), (0, .ref (o 0)), (1, .ref bg), (2, .ref bw), (3, .ref bq), (4, .ref bc), (5, .int x1), (6, .int r2), (7, .int x60), (8, .int x63), (9, .int x50), (10, .int j70), (11, .int x52), (15, .int r64), (16, .int r65)]) (pc := 397) hx hb dL_isSo_397 hl (by decide) rfl (fun ls hl => ?_)
          refine lv_goto (pc := 399) (tgt := 379) hx hb dL_isSo_399 (by decide) ?_
          exact ihrec83 _ _ h ls (lv_sub hl [3, 4, 5, 6, 7, 8, 9, 10, 11, 12, 13, 14, 15, 16, 0, 1] rfl)
        refine am_join0_s (∀ (ls : Array Slot), lv_has ls 21 [(0, .ref (o 0)), (1, .ref bg), (2, .ref bw), (3, .ref bq), (4, .ref bc), (5, .int x1), (6, .int r2), (7, .int x60), (8, .int x63), (9, .int x50), (11, .int x52), (15, .int r64), (16, .int r65)] → W p l e rmL_isSo s m args below meth c s.heap [] 0 0 Q (F0 m 368 ls [])) h (fun h ls hl => ?_) (fun J85 hJ85 h => ?_)
        · refine lv_iconst (v := 0) (pc := 368) hx hb dL_isSo_368 (by decide) ?_
          exact hJ71 _ h ls (lv_sub hl [0, 1, 2, 3, 4, 5, 6, 7, 8, 9, 10, 11, 12] rfl)
        refine lv_icmp_ne (pc := 253) (tgt := 368) hx hb dL_isSo_253 (by decide) (fun cc => ?_) (fun cc => ?_)
        · replace h := am_f cc h
          exact hJ85 h ls (lv_sub hl [4, 5, 6, 7, 8, 9, 10, 11, 3, 12, 13, 2, 1] rfl)
        replace h := am_t cc h
        refine lv_aload_n (pc := 256) hx hb dL_isSo_256 rfl (lv_at hl 4 rfl) ?_
        refine lv_iload (pc := 257) hx hb dL_isSo_257 (lv_at hl 13 rfl) ?_
        refine lv_iconst (v := 1) (pc := 259) hx hb dL_isSo_259 (by decide) ?_
        obtain ⟨r86, hc86, h⟩ := am_bind_s h
        refine kG_V (pc := 260) (ci := 6) ⟨hx, hb, hml, hown, hts⟩ hPo hK [.int x52, .int (1 : Int32)] (p_particleOf l D cI cJ o rec A v f u ch xn xa xr x52 (1 : Int32) r86 hc86) (cwV 2 hts (gzV wl138 wl139 wl140 wl2 wl141) rfl rfl rfl ⟨rfl, hdX6_particleOf⟩ ⟨Nat.le_of_ble_eq_true rfl, Nat.le_of_ble_eq_true rfl⟩) rfl rfl [] rfl hl.1 rfl (Nat.le_of_ble_eq_true rfl) dL_isSo_260 ⟨Nat.zero_le _, Nat.zero_le _⟩ ?_
        refine lv_aload_n (pc := 263) hx hb dL_isSo_263 rfl (lv_at hl 6 rfl) ?_
        refine lv_iload (pc := 264) hx hb dL_isSo_264 (lv_at hl 13 rfl) ?_
        obtain ⟨hi, h⟩ := am_in_s h
        refine va_iald (pc := 266) hx hb hK.1 hP 1 0 rfl rfl hi dL_isSo_266 ?_
        refine lv_icmp_ne (pc := 267) (tgt := 368) hx hb dL_isSo_267 (by decide) (fun cc => ?_) (fun cc => ?_)
        · replace h := am_f cc h
          exact hJ85 h ls (lv_sub hl [4, 5, 6, 7, 8, 9, 10, 11, 3, 12, 13, 2, 1] rfl)
        replace h := am_t cc h
        refine lv_aload_n (pc := 270) hx hb dL_isSo_270 rfl (lv_at hl 4 rfl) ?_
        refine lv_iload (pc := 271) hx hb dL_isSo_271 (lv_at hl 13 rfl) ?_
        refine lv_iconst (v := 2) (pc := 273) hx hb dL_isSo_273 (by decide) ?_
        obtain ⟨r87, hc87, h⟩ := am_bind_s h
        refine kG_V (pc := 274) (ci := 6) ⟨hx, hb, hml, hown, hts⟩ hPo hK [.int x52, .int (2 : Int32)] (p_particleOf l D cI cJ o rec A v f u ch xn xa xr x52 (2 : Int32) r87 hc87) (cwV 2 hts (gzV wl138 wl139 wl140 wl2 wl141) rfl rfl rfl ⟨rfl, hdX6_particleOf⟩ ⟨Nat.le_of_ble_eq_true rfl, Nat.le_of_ble_eq_true rfl⟩) rfl rfl [] rfl hl.1 rfl (Nat.le_of_ble_eq_true rfl) dL_isSo_274 ⟨Nat.zero_le _, Nat.zero_le _⟩ ?_
        refine lv_iload (pc := 277) hx hb dL_isSo_277 (lv_at hl 0 rfl) ?_
        refine lv_bipush (v := 15) (pc := 279) hx hb dL_isSo_279 (by decide) ?_
        refine am_join1_s (fun (j88 : Int32) => ∀ (ls : Array Slot), lv_has ls 21 [(0, .ref (o 0)), (1, .ref bg), (2, .ref bw), (3, .ref bq), (4, .ref bc), (5, .int x1), (6, .int r2), (7, .int x60), (8, .int x63), (9, .int x50), (11, .int x52), (12, .int x54), (13, .int x55), (15, .int r64), (16, .int r65)] → W p l e rmL_isSo s m args below meth c s.heap [] 0 0 Q (F0 m 291 ls [.int j88, .int r87])) h (fun j88 h ls hl => ?_) (fun J89 hJ89 h => ?_)
        · refine lv_icmp_ne (pc := 291) (tgt := 368) hx hb dL_isSo_291 (by decide) (fun cc => ?_) (fun cc => ?_)
          · replace h := am_f cc h
            exact hJ85 h ls (lv_sub hl [0, 1, 2, 3, 4, 5, 6, 7, 8, 9, 10, 13, 14] rfl)
          replace h := am_t cc h
          refine lv_aload_n (pc := 294) hx hb dL_isSo_294 rfl (lv_at hl 0 rfl) ?_
          refine lv_iload (pc := 295) hx hb dL_isSo_295 (lv_at hl 10 rfl) ?_
          refine lv_iconst (v := 3) (pc := 297) hx hb dL_isSo_297 (by decide) ?_
          obtain ⟨r90, hc90, h⟩ := am_bind_s h
          refine kG_V (pc := 298) (ci := 6) ⟨hx, hb, hml, hown, hts⟩ hPo hK [.int x52, .int (3 : Int32)] (p_particleOf l D cI cJ o rec A v f u ch xn xa xr x52 (3 : Int32) r90 hc90) (cwV 2 hts (gzV wl138 wl139 wl140 wl2 wl141) rfl rfl rfl ⟨rfl, hdX6_particleOf⟩ ⟨Nat.le_of_ble_eq_true rfl, Nat.le_of_ble_eq_true rfl⟩) rfl rfl [] rfl hl.1 rfl (Nat.le_of_ble_eq_true rfl) dL_isSo_298 ⟨Nat.zero_le _, Nat.zero_le _⟩ ?_
          refine lv_iload (pc := 301) hx hb dL_isSo_301 (lv_at hl 11 rfl) ?_
          refine lv_icmp_ne (pc := 303) (tgt := 368) hx hb dL_isSo_303 (by decide) (fun cc => ?_) (fun cc => ?_)
          · replace h := am_f cc h
            exact hJ85 h ls (lv_sub hl [0, 1, 2, 3, 4, 5, 6, 7, 8, 9, 10, 13, 14] rfl)
          replace h := am_t cc h
          refine lv_iload (pc := 306) hx hb dL_isSo_306 (lv_at hl 14 rfl) ?_
          refine lv_if_le (pc := 308) (tgt := 368) hx hb dL_isSo_308 (by decide) (fun cc => ?_) (fun cc => ?_)
          · replace h := am_t cc h
            exact hJ85 h ls (lv_sub hl [0, 1, 2, 3, 4, 5, 6, 7, 8, 9, 10, 13, 14] rfl)
          replace h := am_f cc h
          refine lv_iload (pc := 311) hx hb dL_isSo_311 (lv_at hl 6 rfl) ?_
          refine lv_iload (pc := 313) hx hb dL_isSo_313 (lv_at hl 14 rfl) ?_
          obtain ⟨hz, h⟩ := am_nz_s h
          refine lv_irem (pc := 315) hx hb dL_isSo_315 hz ?_
          refine lv_if_ne (pc := 316) (tgt := 368) hx hb dL_isSo_316 (by decide) (fun cc => ?_) (fun cc => ?_)
          · replace h := am_f cc h
            exact hJ85 h ls (lv_sub hl [0, 1, 2, 3, 4, 5, 6, 7, 8, 9, 10, 13, 14] rfl)
          replace h := am_t cc h
          refine lv_iload (pc := 319) hx hb dL_isSo_319 (lv_at hl 13 rfl) ?_
          refine lv_i2l (pc := 321) hx hb dL_isSo_321 rfl ?_
          refine lv_iload (pc := 322) hx hb dL_isSo_322 (lv_at hl 6 rfl) ?_
          refine lv_iload (pc := 324) hx hb dL_isSo_324 (lv_at hl 14 rfl) ?_
          obtain ⟨hz, h⟩ := am_nz_s h
          refine lv_idiv (pc := 326) hx hb dL_isSo_326 hz ?_
          refine lv_i2l (pc := 327) hx hb dL_isSo_327 rfl ?_
          refine lv_lmul (pc := 328) hx hb dL_isSo_328 ?_
          refine lv_aload_n (pc := 329) hx hb dL_isSo_329 rfl (lv_at hl 2 rfl) ?_
          refine lv_iload (pc := 330) hx hb dL_isSo_330 (lv_at hl 10 rfl) ?_
          obtain ⟨hi, h⟩ := am_in_s h
          refine va_iald (pc := 332) hx hb hK.1 hP 1 0 rfl rfl hi dL_isSo_332 ?_
          refine lv_i2l (pc := 333) hx hb dL_isSo_333 rfl ?_
          refine W.lcmp (pc := 334) hx hb dL_isSo_334 ?_
          refine lv_if_ne (pc := 335) (tgt := 368) hx hb dL_isSo_335 (by decide) (fun cc => ?_) (fun cc => ?_)
          · replace h := am_f cc h
            exact hJ85 h ls (lv_sub hl [0, 1, 2, 3, 4, 5, 6, 7, 8, 9, 10, 13, 14] rfl)
          replace h := am_t cc h
          refine lv_aload_n (pc := 338) hx hb dL_isSo_338 rfl (lv_at hl 0 rfl) ?_
          refine lv_iload (pc := 339) hx hb dL_isSo_339 (lv_at hl 10 rfl) ?_
          refine lv_bipush (v := 6) (pc := 341) hx hb dL_isSo_341 (by decide) ?_
          obtain ⟨r91, hc91, h⟩ := am_bind_s h
          refine kG_V (pc := 343) (ci := 6) ⟨hx, hb, hml, hown, hts⟩ hPo hK [.int x52, .int (6 : Int32)] (p_particleOf l D cI cJ o rec A v f u ch xn xa xr x52 (6 : Int32) r91 hc91) (cwV 2 hts (gzV wl138 wl139 wl140 wl2 wl141) rfl rfl rfl ⟨rfl, hdX6_particleOf⟩ ⟨Nat.le_of_ble_eq_true rfl, Nat.le_of_ble_eq_true rfl⟩) rfl rfl [] rfl hl.1 rfl (Nat.le_of_ble_eq_true rfl) dL_isSo_343 ⟨Nat.zero_le _, Nat.zero_le _⟩ ?_
          refine lv_iload (pc := 346) hx hb dL_isSo_346 (lv_at hl 12 rfl) ?_
          refine lv_icmp_ne (pc := 348) (tgt := 368) hx hb dL_isSo_348 (by decide) (fun cc => ?_) (fun cc => ?_)
          · replace h := am_f cc h
            exact hJ85 h ls (lv_sub hl [0, 1, 2, 3, 4, 5, 6, 7, 8, 9, 10, 13, 14] rfl)
          replace h := am_t cc h
          refine lv_aload_n (pc := 351) hx hb dL_isSo_351 rfl (lv_at hl 0 rfl) ?_
          refine lv_iload (pc := 352) hx hb dL_isSo_352 (lv_at hl 10 rfl) ?_
          refine lv_bipush (v := 7) (pc := 354) hx hb dL_isSo_354 (by decide) ?_
          obtain ⟨r92, hc92, h⟩ := am_bind_s h
          refine kG_V (pc := 356) (ci := 6) ⟨hx, hb, hml, hown, hts⟩ hPo hK [.int x52, .int (7 : Int32)] (p_particleOf l D cI cJ o rec A v f u ch xn xa xr x52 (7 : Int32) r92 hc92) (cwV 2 hts (gzV wl138 wl139 wl140 wl2 wl141) rfl rfl rfl ⟨rfl, hdX6_particleOf⟩ ⟨Nat.le_of_ble_eq_true rfl, Nat.le_of_ble_eq_true rfl⟩) rfl rfl [] rfl hl.1 rfl (Nat.le_of_ble_eq_true rfl) dL_isSo_356 ⟨Nat.zero_le _, Nat.zero_le _⟩ ?_
          refine lv_ldc (pc := 359) hx hb hown hk6 dL_isSo_359 ?_
          refine lv_icmp_ne (pc := 361) (tgt := 368) hx hb dL_isSo_361 (by decide) (fun cc => ?_) (fun cc => ?_)
          · replace h := am_f cc h
            exact hJ85 h ls (lv_sub hl [0, 1, 2, 3, 4, 5, 6, 7, 8, 9, 10, 13, 14] rfl)
          replace h := am_t cc h
          refine lv_iconst (v := 1) (pc := 364) hx hb dL_isSo_364 (by decide) ?_
          refine lv_goto (pc := 365) (tgt := 369) hx hb dL_isSo_365 (by decide) ?_
          exact hJ71 _ h ls (lv_sub hl [0, 1, 2, 3, 4, 5, 6, 7, 8, 9, 10, 13, 14] rfl)
        refine lv_icmp_ne (pc := 281) (tgt := 289) hx hb dL_isSo_281 (by decide) (fun cc => ?_) (fun cc => ?_)
        · replace h := am_f cc h
          refine lv_iload (pc := 289) hx hb dL_isSo_289 (lv_at hl 0 rfl) ?_
          exact hJ89 _ h ls (lv_sub hl [4, 5, 6, 7, 8, 9, 10, 11, 3, 12, 13, 14, 15, 2, 1] rfl)
        replace h := am_t cc h
        refine lv_ldc (pc := 284) hx hb hown hk128 dL_isSo_284 ?_
        refine lv_goto (pc := 286) (tgt := 291) hx hb dL_isSo_286 (by decide) ?_
        exact hJ89 _ h ls (lv_sub hl [4, 5, 6, 7, 8, 9, 10, 11, 3, 12, 13, 14, 15, 2, 1] rfl)
      refine lv_if_eq (pc := 191) (tgt := 198) hx hb dL_isSo_191 (by decide) (fun cc => ?_) (fun cc => ?_)
      · replace h := am_t cc h
        refine lv_iconst (v := 0) (pc := 198) hx hb dL_isSo_198 (by decide) ?_
        exact hJ62 _ h ls (lv_sub hl [1, 2, 3, 4, 5, 6, 7, 0, 9, 10, 11, 12] rfl)
      replace h := am_f cc h
      refine lv_iconst (v := 1) (pc := 194) hx hb dL_isSo_194 (by decide) ?_
      refine lv_goto (pc := 195) (tgt := 199) hx hb dL_isSo_195 (by decide) ?_
      exact hJ62 _ h ls (lv_sub hl [1, 2, 3, 4, 5, 6, 7, 0, 9, 10, 11, 12] rfl)
    refine lv_if_ne (pc := 176) (tgt := 183) hx hb dL_isSo_176 (by decide) (fun cc => ?_) (fun cc => ?_)
    · replace h := am_f cc h
      refine lv_iconst (v := 0) (pc := 183) hx hb dL_isSo_183 (by decide) ?_
      exact hJ59 _ h ls (lv_sub hl [0, 1, 2, 3, 4, 5, 6, 8, 9, 10, 11, 12, 13] rfl)
    replace h := am_t cc h
    refine lv_iconst (v := 1) (pc := 179) hx hb dL_isSo_179 (by decide) ?_
    refine lv_goto (pc := 180) (tgt := 184) hx hb dL_isSo_180 (by decide) ?_
    exact hJ59 _ h ls (lv_sub hl [0, 1, 2, 3, 4, 5, 6, 8, 9, 10, 11, 12, 13] rfl)
  refine am_loop4_s (fun (x93 : Int32) (x94 : Int32) (x95 : Int32) (x96 : Int32) => ∀ (ls : Array Slot), lv_has ls 21 [(0, .ref (o 0)), (1, .ref bg), (2, .ref bw), (3, .ref bq), (4, .ref bc), (5, .int x1), (6, .int r2), (7, .int x48), (8, .int x49), (9, .int x50), (11, .int x52), (12, .int x93), (13, .int x94), (14, .int x95), (15, .int x96)] → W p l e rmL_isSo s m args below meth c s.heap [] 0 0 Q (F0 m 51 ls [])) (fun rec97 ihrec97 x93 x94 x95 x96 h ls hl => ?_) _ _ _ _ _ h ls (lv_sub hl [4, 5, 6, 7, 8, 9, 10, 11, 12, 13, 15, 3, 2, 1, 0] rfl)
  unfold F_L_isSo_B51 at h
  refine lv_iload (pc := 51) hx hb dL_isSo_51 (lv_at hl 14 rfl) ?_
  refine lv_iload (pc := 53) hx hb dL_isSo_53 (lv_at hl 5 rfl) ?_
  refine lv_icmp_ge (pc := 55) (tgt := 170) hx hb dL_isSo_55 (by decide) (fun cc => ?_) (fun cc => ?_)
  · replace h := am_t cc h
    exact hK57 _ _ _ h ls (lv_sub hl [0, 1, 2, 3, 4, 5, 6, 7, 8, 9, 10, 11, 12, 13] rfl)
  replace h := am_f cc h
  refine lv_iload (pc := 58) hx hb dL_isSo_58 (lv_at hl 11 rfl) ?_
  refine lv_aload_n (pc := 60) hx hb dL_isSo_60 rfl (lv_at hl 1 rfl) ?_
  refine lv_aload (pc := 61) hx hb dL_isSo_61 (lv_at hl 4 rfl) ?_
  refine lv_iload (pc := 63) hx hb dL_isSo_63 (lv_at hl 14 rfl) ?_
  obtain ⟨r98, hc98, h⟩ := am_bind_s h
  refine kc_Si (pc := 65) ⟨hx, hb, hml, hown, hts⟩ hP hK [.ref bg, .ref bc, .int x96] (c_L_place l D cI cJ bg bc yg yc x96 r98 hc98) [0, 3] rfl (cwS 3 hts (gzS wl132 wl133 wl118 wl134) rfl rfl rfl ⟨rfl, hdL_place⟩ ⟨Nat.le_of_ble_eq_true rfl, Nat.le_of_ble_eq_true rfl⟩) [.int x93] rfl hl.1 rfl (Nat.le_of_ble_eq_true rfl) dL_isSo_65 ⟨Nat.zero_le _, Nat.zero_le _⟩ ?_
  refine lv_aload_n (pc := 68) hx hb dL_isSo_68 rfl (lv_at hl 1 rfl) ?_
  refine lv_aload (pc := 69) hx hb dL_isSo_69 (lv_at hl 4 rfl) ?_
  refine lv_iload (pc := 71) hx hb dL_isSo_71 (lv_at hl 10 rfl) ?_
  obtain ⟨r99, hc99, h⟩ := am_bind_s h
  refine kc_Si (pc := 73) ⟨hx, hb, hml, hown, hts⟩ hP hK [.ref bg, .ref bc, .int x52] (c_L_place l D cI cJ bg bc yg yc x52 r99 hc99) [0, 3] rfl (cwS 3 hts (gzS wl132 wl133 wl118 wl134) rfl rfl rfl ⟨rfl, hdL_place⟩ ⟨Nat.le_of_ble_eq_true rfl, Nat.le_of_ble_eq_true rfl⟩) [.int r98, .int x93] rfl hl.1 rfl (Nat.le_of_ble_eq_true rfl) dL_isSo_73 ⟨Nat.zero_le _, Nat.zero_le _⟩ ?_
  refine am_join1_s (fun (j100 : Int32) => ∀ (ls : Array Slot), lv_has ls 21 [(0, .ref (o 0)), (1, .ref bg), (2, .ref bw), (3, .ref bq), (4, .ref bc), (5, .int x1), (6, .int r2), (7, .int x48), (8, .int x49), (9, .int x50), (11, .int x52), (13, .int x94), (14, .int x95), (15, .int x96)] → W p l e rmL_isSo s m args below meth c s.heap [] 0 0 Q (F0 m 84 ls [.int j100, .int x93])) h (fun j100 h ls hl => ?_) (fun J101 hJ101 h => ?_)
  · refine lv_iadd (pc := 84) hx hb dL_isSo_84 ?_
    refine lv_topi (fun x102 ex102 => ?_)
    replace h := am_let_s ex102 h
    refine lv_istore (lv' := [(12, .int x102), (0, .ref (o 0)), (1, .ref bg), (2, .ref bw), (3, .ref bq), (4, .ref bc), (5, .int x1), (6, .int r2), (7, .int x48), (8, .int x49), (9, .int x50), (11, .int x52), (13, .int x94), (14, .int x95), (15, .int x96)]) (pc := 85) hx hb dL_isSo_85 hl (by decide) rfl (fun ls hl => ?_)
    refine lv_iload (pc := 87) hx hb dL_isSo_87 (lv_at hl 13 rfl) ?_
    refine am_join1_s (fun (j103 : Int32) => ∀ (ls : Array Slot), lv_has ls 21 [(0, .ref (o 0)), (1, .ref bg), (2, .ref bw), (3, .ref bq), (4, .ref bc), (5, .int x1), (6, .int r2), (7, .int x48), (8, .int x49), (9, .int x50), (11, .int x52), (12, .int x102), (13, .int x94), (15, .int x96)] → W p l e rmL_isSo s m args below meth c s.heap [] 0 0 Q (F0 m 123 ls [.int j103])) h (fun j103 h ls hl => ?_) (fun J104 hJ104 h => ?_)
    · refine lv_istore (lv' := [(14, .int j103), (0, .ref (o 0)), (1, .ref bg), (2, .ref bw), (3, .ref bq), (4, .ref bc), (5, .int x1), (6, .int r2), (7, .int x48), (8, .int x49), (9, .int x50), (11, .int x52), (12, .int x102), (13, .int x94), (15, .int x96)]) (pc := 123) hx hb dL_isSo_123 hl (by decide) rfl (fun ls hl => ?_)
      refine lv_iload (pc := 125) hx hb dL_isSo_125 (lv_at hl 13 rfl) ?_
      refine lv_aload_n (pc := 127) hx hb dL_isSo_127 rfl (lv_at hl 3 rfl) ?_
      refine lv_iload (pc := 128) hx hb dL_isSo_128 (lv_at hl 14 rfl) ?_
      obtain ⟨hi, h⟩ := am_in_s h
      refine va_iald (pc := 130) hx hb hK.1 hP 1 0 rfl rfl hi dL_isSo_130 ?_
      refine lv_aload_n (pc := 131) hx hb dL_isSo_131 rfl (lv_at hl 3 rfl) ?_
      refine lv_iload (pc := 132) hx hb dL_isSo_132 (lv_at hl 11 rfl) ?_
      obtain ⟨hi, h⟩ := am_in_s h
      refine va_iald (pc := 134) hx hb hK.1 hP 1 0 rfl rfl hi dL_isSo_134 ?_
      refine lv_icmp_gt (pc := 135) (tgt := 156) hx hb dL_isSo_135 (by decide) (fun cc => ?_) (fun cc => ?_)
      · replace h := am_t cc h
        refine lv_iconst (v := 1) (pc := 156) hx hb dL_isSo_156 (by decide) ?_
        refine lv_goto (pc := 157) (tgt := 161) hx hb dL_isSo_157 (by decide) ?_
        refine lv_iadd (pc := 161) hx hb dL_isSo_161 ?_
        refine lv_topi (fun x105 ex105 => ?_)
        replace h := am_let_s ex105 h
        refine lv_istore (lv' := [(13, .int x105), (14, .int j103), (0, .ref (o 0)), (1, .ref bg), (2, .ref bw), (3, .ref bq), (4, .ref bc), (5, .int x1), (6, .int r2), (7, .int x48), (8, .int x49), (9, .int x50), (11, .int x52), (12, .int x102), (15, .int x96)]) (pc := 162) hx hb dL_isSo_162 hl (by decide) rfl (fun ls hl => ?_)
        obtain ⟨x106, ex106⟩ : ∃ y : Int32, y = (x96 + (1 : Int32)) := ⟨_, rfl⟩
        replace h := am_let_s ex106 h
        refine lv_iinc (pc := 164) (v := x106) (lv' := [(15, .int x106), (13, .int x105), (14, .int j103), (0, .ref (o 0)), (1, .ref bg), (2, .ref bw), (3, .ref bq), (4, .ref bc), (5, .int x1), (6, .int r2), (7, .int x48), (8, .int x49), (9, .int x50), (11, .int x52), (12, .int x102)]) hx hb dL_isSo_164 hl (k := 14) rfl (by rw [ex106]; rfl) (by decide) rfl (fun ls hl => ?_)
        refine lv_goto (pc := 167) (tgt := 51) hx hb dL_isSo_167 (by decide) ?_
        exact ihrec97 _ _ _ _ h ls (lv_sub hl [3, 4, 5, 6, 7, 8, 9, 10, 11, 12, 13, 14, 1, 2, 0] rfl)
      replace h := am_f cc h
      refine lv_aload_n (pc := 138) hx hb dL_isSo_138 rfl (lv_at hl 3 rfl) ?_
      refine lv_iload (pc := 139) hx hb dL_isSo_139 (lv_at hl 14 rfl) ?_
      obtain ⟨hi, h⟩ := am_in_s h
      refine va_iald (pc := 141) hx hb hK.1 hP 1 0 rfl rfl hi dL_isSo_141 ?_
      refine lv_aload_n (pc := 142) hx hb dL_isSo_142 rfl (lv_at hl 3 rfl) ?_
      refine lv_iload (pc := 143) hx hb dL_isSo_143 (lv_at hl 11 rfl) ?_
      obtain ⟨hi, h⟩ := am_in_s h
      refine va_iald (pc := 145) hx hb hK.1 hP 1 0 rfl rfl hi dL_isSo_145 ?_
      refine lv_icmp_ne (pc := 146) (tgt := 160) hx hb dL_isSo_146 (by decide) (fun cc => ?_) (fun cc => ?_)
      · replace h := am_f cc h
        refine lv_iconst (v := 0) (pc := 160) hx hb dL_isSo_160 (by decide) ?_
        refine lv_iadd (pc := 161) hx hb dL_isSo_161 ?_
        refine lv_topi (fun x107 ex107 => ?_)
        replace h := am_let_s ex107 h
        refine lv_istore (lv' := [(13, .int x107), (14, .int j103), (0, .ref (o 0)), (1, .ref bg), (2, .ref bw), (3, .ref bq), (4, .ref bc), (5, .int x1), (6, .int r2), (7, .int x48), (8, .int x49), (9, .int x50), (11, .int x52), (12, .int x102), (15, .int x96)]) (pc := 162) hx hb dL_isSo_162 hl (by decide) rfl (fun ls hl => ?_)
        obtain ⟨x108, ex108⟩ : ∃ y : Int32, y = (x96 + (1 : Int32)) := ⟨_, rfl⟩
        replace h := am_let_s ex108 h
        refine lv_iinc (pc := 164) (v := x108) (lv' := [(15, .int x108), (13, .int x107), (14, .int j103), (0, .ref (o 0)), (1, .ref bg), (2, .ref bw), (3, .ref bq), (4, .ref bc), (5, .int x1), (6, .int r2), (7, .int x48), (8, .int x49), (9, .int x50), (11, .int x52), (12, .int x102)]) hx hb dL_isSo_164 hl (k := 14) rfl (by rw [ex108]; rfl) (by decide) rfl (fun ls hl => ?_)
        refine lv_goto (pc := 167) (tgt := 51) hx hb dL_isSo_167 (by decide) ?_
        exact ihrec97 _ _ _ _ h ls (lv_sub hl [3, 4, 5, 6, 7, 8, 9, 10, 11, 12, 13, 14, 1, 2, 0] rfl)
      replace h := am_t cc h
      refine lv_iload (pc := 149) hx hb dL_isSo_149 (lv_at hl 14 rfl) ?_
      refine lv_iload (pc := 151) hx hb dL_isSo_151 (lv_at hl 11 rfl) ?_
      refine lv_icmp_ge (pc := 153) (tgt := 160) hx hb dL_isSo_153 (by decide) (fun cc => ?_) (fun cc => ?_)
      · replace h := am_t cc h
        refine lv_iconst (v := 0) (pc := 160) hx hb dL_isSo_160 (by decide) ?_
        refine lv_iadd (pc := 161) hx hb dL_isSo_161 ?_
        refine lv_topi (fun x109 ex109 => ?_)
        replace h := am_let_s ex109 h
        refine lv_istore (lv' := [(13, .int x109), (14, .int j103), (0, .ref (o 0)), (1, .ref bg), (2, .ref bw), (3, .ref bq), (4, .ref bc), (5, .int x1), (6, .int r2), (7, .int x48), (8, .int x49), (9, .int x50), (11, .int x52), (12, .int x102), (15, .int x96)]) (pc := 162) hx hb dL_isSo_162 hl (by decide) rfl (fun ls hl => ?_)
        obtain ⟨x110, ex110⟩ : ∃ y : Int32, y = (x96 + (1 : Int32)) := ⟨_, rfl⟩
        replace h := am_let_s ex110 h
        refine lv_iinc (pc := 164) (v := x110) (lv' := [(15, .int x110), (13, .int x109), (14, .int j103), (0, .ref (o 0)), (1, .ref bg), (2, .ref bw), (3, .ref bq), (4, .ref bc), (5, .int x1), (6, .int r2), (7, .int x48), (8, .int x49), (9, .int x50), (11, .int x52), (12, .int x102)]) hx hb dL_isSo_164 hl (k := 14) rfl (by rw [ex110]; rfl) (by decide) rfl (fun ls hl => ?_)
        refine lv_goto (pc := 167) (tgt := 51) hx hb dL_isSo_167 (by decide) ?_
        exact ihrec97 _ _ _ _ h ls (lv_sub hl [3, 4, 5, 6, 7, 8, 9, 10, 11, 12, 13, 14, 1, 2, 0] rfl)
      replace h := am_f cc h
      refine lv_iconst (v := 1) (pc := 156) hx hb dL_isSo_156 (by decide) ?_
      refine lv_goto (pc := 157) (tgt := 161) hx hb dL_isSo_157 (by decide) ?_
      refine lv_iadd (pc := 161) hx hb dL_isSo_161 ?_
      refine lv_topi (fun x111 ex111 => ?_)
      replace h := am_let_s ex111 h
      refine lv_istore (lv' := [(13, .int x111), (14, .int j103), (0, .ref (o 0)), (1, .ref bg), (2, .ref bw), (3, .ref bq), (4, .ref bc), (5, .int x1), (6, .int r2), (7, .int x48), (8, .int x49), (9, .int x50), (11, .int x52), (12, .int x102), (15, .int x96)]) (pc := 162) hx hb dL_isSo_162 hl (by decide) rfl (fun ls hl => ?_)
      obtain ⟨x112, ex112⟩ : ∃ y : Int32, y = (x96 + (1 : Int32)) := ⟨_, rfl⟩
      replace h := am_let_s ex112 h
      refine lv_iinc (pc := 164) (v := x112) (lv' := [(15, .int x112), (13, .int x111), (14, .int j103), (0, .ref (o 0)), (1, .ref bg), (2, .ref bw), (3, .ref bq), (4, .ref bc), (5, .int x1), (6, .int r2), (7, .int x48), (8, .int x49), (9, .int x50), (11, .int x52), (12, .int x102)]) hx hb dL_isSo_164 hl (k := 14) rfl (by rw [ex112]; rfl) (by decide) rfl (fun ls hl => ?_)
      refine lv_goto (pc := 167) (tgt := 51) hx hb dL_isSo_167 (by decide) ?_
      exact ihrec97 _ _ _ _ h ls (lv_sub hl [3, 4, 5, 6, 7, 8, 9, 10, 11, 12, 13, 14, 1, 2, 0] rfl)
    refine am_join0_s (∀ (ls : Array Slot), lv_has ls 21 [(0, .ref (o 0)), (1, .ref bg), (2, .ref bw), (3, .ref bq), (4, .ref bc), (5, .int x1), (6, .int r2), (7, .int x48), (8, .int x49), (9, .int x50), (11, .int x52), (12, .int x102), (13, .int x94), (15, .int x96)] → W p l e rmL_isSo s m args below meth c s.heap [] 0 0 Q (F0 m 122 ls [])) h (fun h ls hl => ?_) (fun J113 hJ113 h => ?_)
    · refine lv_iconst (v := 0) (pc := 122) hx hb dL_isSo_122 (by decide) ?_
      exact hJ104 _ h ls (lv_sub hl [0, 1, 2, 3, 4, 5, 6, 7, 8, 9, 10, 11, 12, 13] rfl)
    refine lv_if_eq (pc := 89) (tgt := 122) hx hb dL_isSo_89 (by decide) (fun cc => ?_) (fun cc => ?_)
    · replace h := am_t cc h
      exact hJ113 h ls (lv_sub hl [1, 2, 3, 4, 5, 6, 7, 8, 9, 10, 11, 0, 12, 14] rfl)
    replace h := am_f cc h
    refine lv_iload (pc := 92) hx hb dL_isSo_92 (lv_at hl 14 rfl) ?_
    refine lv_iload (pc := 94) hx hb dL_isSo_94 (lv_at hl 11 rfl) ?_
    refine am_join0_s (∀ (ls : Array Slot), lv_has ls 21 [(0, .ref (o 0)), (1, .ref bg), (2, .ref bw), (3, .ref bq), (4, .ref bc), (5, .int x1), (6, .int r2), (7, .int x48), (8, .int x49), (9, .int x50), (11, .int x52), (12, .int x102), (13, .int x94), (15, .int x96)] → W p l e rmL_isSo s m args below meth c s.heap [] 0 0 Q (F0 m 118 ls [])) h (fun h ls hl => ?_) (fun J114 hJ114 h => ?_)
    · refine lv_iconst (v := 1) (pc := 118) hx hb dL_isSo_118 (by decide) ?_
      refine lv_goto (pc := 119) (tgt := 123) hx hb dL_isSo_119 (by decide) ?_
      exact hJ104 _ h ls (lv_sub hl [0, 1, 2, 3, 4, 5, 6, 7, 8, 9, 10, 11, 12, 13] rfl)
    refine lv_icmp_ge (pc := 96) (tgt := 118) hx hb dL_isSo_96 (by decide) (fun cc => ?_) (fun cc => ?_)
    · replace h := am_t cc h
      exact hJ114 h ls (lv_sub hl [1, 2, 3, 4, 5, 6, 7, 8, 9, 10, 11, 0, 12, 14] rfl)
    replace h := am_f cc h
    refine lv_aload_n (pc := 99) hx hb dL_isSo_99 rfl (lv_at hl 2 rfl) ?_
    refine lv_aload (pc := 100) hx hb dL_isSo_100 (lv_at hl 5 rfl) ?_
    refine lv_iload (pc := 102) hx hb dL_isSo_102 (lv_at hl 14 rfl) ?_
    obtain ⟨r115, hc115, h⟩ := am_bind_s h
    refine kc_Si (pc := 104) ⟨hx, hb, hml, hown, hts⟩ hP hK [.ref bg, .ref bc, .int x96] (c_L_place l D cI cJ bg bc yg yc x96 r115 hc115) [0, 3] rfl (cwS 3 hts (gzS wl132 wl133 wl118 wl134) rfl rfl rfl ⟨rfl, hdL_place⟩ ⟨Nat.le_of_ble_eq_true rfl, Nat.le_of_ble_eq_true rfl⟩) [] rfl hl.1 rfl (Nat.le_of_ble_eq_true rfl) dL_isSo_104 ⟨Nat.zero_le _, Nat.zero_le _⟩ ?_
    refine lv_aload_n (pc := 107) hx hb dL_isSo_107 rfl (lv_at hl 2 rfl) ?_
    refine lv_aload (pc := 108) hx hb dL_isSo_108 (lv_at hl 5 rfl) ?_
    refine lv_iload (pc := 110) hx hb dL_isSo_110 (lv_at hl 11 rfl) ?_
    obtain ⟨r116, hc116, h⟩ := am_bind_s h
    refine kc_Si (pc := 112) ⟨hx, hb, hml, hown, hts⟩ hP hK [.ref bg, .ref bc, .int x52] (c_L_place l D cI cJ bg bc yg yc x52 r116 hc116) [0, 3] rfl (cwS 3 hts (gzS wl132 wl133 wl118 wl134) rfl rfl rfl ⟨rfl, hdL_place⟩ ⟨Nat.le_of_ble_eq_true rfl, Nat.le_of_ble_eq_true rfl⟩) [.int r115] rfl hl.1 rfl (Nat.le_of_ble_eq_true rfl) dL_isSo_112 ⟨Nat.zero_le _, Nat.zero_le _⟩ ?_
    refine lv_icmp_eq (pc := 115) (tgt := 122) hx hb dL_isSo_115 (by decide) (fun cc => ?_) (fun cc => ?_)
    · replace h := am_t cc h
      exact hJ113 h ls (lv_sub hl [1, 2, 3, 4, 5, 6, 7, 8, 9, 10, 11, 0, 12, 14] rfl)
    replace h := am_f cc h
    exact hJ114 h ls (lv_sub hl [1, 2, 3, 4, 5, 6, 7, 8, 9, 10, 11, 0, 12, 14] rfl)
  refine lv_icmp_ne (pc := 76) (tgt := 83) hx hb dL_isSo_76 (by decide) (fun cc => ?_) (fun cc => ?_)
  · replace h := am_f cc h
    refine lv_iconst (v := 0) (pc := 83) hx hb dL_isSo_83 (by decide) ?_
    exact hJ101 _ h ls (lv_sub hl [0, 1, 2, 3, 4, 5, 6, 7, 8, 9, 10, 12, 13, 14] rfl)
  replace h := am_t cc h
  refine lv_iconst (v := 1) (pc := 79) hx hb dL_isSo_79 (by decide) ?_
  refine lv_goto (pc := 80) (tgt := 84) hx hb dL_isSo_80 (by decide) ?_
  exact hJ101 _ h ls (lv_sub hl [0, 1, 2, 3, 4, 5, 6, 7, 8, 9, 10, 12, 13, 14] rfl)
