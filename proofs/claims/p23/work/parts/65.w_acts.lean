-- the law's own method on the class's object, printed by wip/p23/gen23.py
theorem hdL_acts : yL_acts.cls ≠ "java/lang/invoke/MethodHandle" ∧ yL_acts.cls ≠ "java/lang/invoke/VarHandle" ∧ (parseMethodDescriptor yL_acts.desc).map (fun d => d.parameters.length) = some 6 := by decide +kernel
abbrev rmL_acts : Room := { frames := 6, cells := 2, slots := 24, locals := 153 }
set_option maxHeartbeats 20000000 in
set_option maxRecDepth 100000 in
theorem c_L_acts (l : Launch) (D : va_G) (cI cJ : ClassId) (bo : Nat) (t : va_W) (s0 s1 : (Nat → Int32) → (Nat → Nat → Int32) → Prop) (KO : Int32 → Int32 → Int32 → Int32 → Option Int32) (bg : Nat) (bw : Nat) (bq : Nat) (bc : Nat) (yg : Nat → Int32) (yw : Nat → Int32) (yq : Nat → Int32) (yc : Nat → Int64) (p5 : Int32) (r0 : Int32) (zyg : Nat → Int32) (zyw : Nat → Int32) (zyq : Nat → Int32) (zyc : Nat → Int64) (hF : F_L_acts KO yg yw yq yc p5 = some (r0, zyg, zyw, zyq, zyc)) (hOW : OW cI cJ bo t s0) (hO : ∀ (kd p0 p1 p2 ans : Int32), KO kd p0 p1 p2 = some ans → OStep kd p0 p1 p2 s0 ans s1) (sz : Nat) : Met l yL_acts (wz yL_acts cL_acts 14 (some .boolean)) rmL_acts (kPw D cI cJ ((bg, .inl (cI, 8, .inl yg)) :: (bw, .inl (cI, 12, .inl yw)) :: (bq, .inl (cI, 60, .inl yq)) :: (bc, .inl (cJ, 60, .inr (.inl yc))) :: t) sz [.ref bo, .ref bg, .ref bw, .ref bq, .ref bc, .int p5]) (kQX D r0 (fun w1 => ∃ t1, OW cI cJ bo t1 s1 ∧ w1 = ((bg, .inl (cI, 8, .inl zyg)) :: (bw, .inl (cI, 12, .inl zyw)) :: (bq, .inl (cI, 60, .inl zyq)) :: (bc, .inl (cJ, 60, .inr (.inl zyc))) :: t1)) (va_A ((bg, .inl (cI, 8, .inl yg)) :: (bw, .inl (cI, 12, .inl yw)) :: (bq, .inl (cI, 60, .inl yq)) :: (bc, .inl (cJ, 60, .inr (.inl yc))) :: t) sz)) 2 24 (va_A ((bg, .inl (cI, 8, .inl yg)) :: (bw, .inl (cI, 12, .inl yw)) :: (bq, .inl (cI, 60, .inl yq)) :: (bc, .inl (cJ, 60, .inr (.inl yc))) :: t) sz) := by
  refine kM_X cL_acts 14 .boolean (by decide +kernel) rfl rfl (Nat.le_of_ble_eq_true rfl) ?_
  intro p e s m args below meth c Q A ls hx hb hml hown hts hP hK hD hA hS hl hret
  have hk287 := hts _ (List.mem_cons_of_mem _ wl287)
  have hk288 := hts _ (List.mem_cons_of_mem _ wl288)
  have hk289 := hts _ (List.mem_cons_of_mem _ wl289)
  have hk290 := hts _ (List.mem_cons_of_mem _ wl290)
  have hk291 := hts _ (List.mem_cons_of_mem _ wl291)
  have hk3 := hts _ (List.mem_cons_of_mem _ wl3)
  replace hl : lv_has ls 14 [(0, .ref bo), (1, .ref bg), (2, .ref bw), (3, .ref bq), (4, .ref bc), (5, .int p5)] := hl
  have h := hF
  unfold F_L_acts at h
  refine lv_iload (pc := 0) hx hb dL_acts_0 (lv_at hl 5 rfl) ?_
  refine lv_iconst (v := 5) (pc := 2) hx hb dL_acts_2 (by decide) ?_
  refine lv_ishr (pc := 3) hx hb dL_acts_3 ?_
  refine lv_ldc (pc := 4) hx hb hown hk287 dL_acts_4 ?_
  obtain ⟨r1, hc1, h⟩ := am_bind_s h
  refine kc_Si (pc := 6) ⟨hx, hb, hml, hown, hts⟩ hP hK [.int (p5 >>> ((5 : Int32) &&& 31)), .int (10000000 : Int32)] (c_L_low l D cI cJ (p5 >>> ((5 : Int32) &&& 31)) (10000000 : Int32) r1 hc1) [] rfl (cwS 2 hts (gzS wl292 wl293 wl118 wl294) rfl rfl rfl ⟨rfl, hdL_low⟩ ⟨Nat.le_of_ble_eq_true rfl, Nat.le_of_ble_eq_true rfl⟩) [] rfl hl.1 rfl (Nat.le_of_ble_eq_true rfl) dL_acts_6 ⟨Nat.zero_le _, Nat.zero_le _⟩ ?_
  refine lv_istore (lv' := [(6, .int r1), (0, .ref bo), (1, .ref bg), (2, .ref bw), (3, .ref bq), (4, .ref bc), (5, .int p5)]) (pc := 9) hx hb dL_acts_9 hl (by decide) rfl (fun ls hl => ?_)
  refine lv_iload (pc := 11) hx hb dL_acts_11 (lv_at hl 6 rfl) ?_
  refine lv_bipush (v := 22) (pc := 13) hx hb dL_acts_13 (by decide) ?_
  obtain ⟨r2, hc2, h⟩ := am_bind_s h
  refine kc_Si (pc := 15) ⟨hx, hb, hml, hown, hts⟩ hP hK [.int p5, .int (22 : Int32)] (c_L_low l D cI cJ p5 (22 : Int32) r2 hc2) [] rfl (cwS 2 hts (gzS wl292 wl293 wl118 wl294) rfl rfl rfl ⟨rfl, hdL_low⟩ ⟨Nat.le_of_ble_eq_true rfl, Nat.le_of_ble_eq_true rfl⟩) [] rfl hl.1 rfl (Nat.le_of_ble_eq_true rfl) dL_acts_15 ⟨Nat.zero_le _, Nat.zero_le _⟩ ?_
  refine lv_istore (lv' := [(7, .int r2), (6, .int r1), (0, .ref bo), (1, .ref bg), (2, .ref bw), (3, .ref bq), (4, .ref bc), (5, .int p5)]) (pc := 18) hx hb dL_acts_18 hl (by decide) rfl (fun ls hl => ?_)
  refine lv_iload (pc := 20) hx hb dL_acts_20 (lv_at hl 0 rfl) ?_
  refine am_join0_s (∀ (ls : Array Slot), lv_has ls 14 [(0, .ref bo), (1, .ref bg), (2, .ref bw), (3, .ref bq), (4, .ref bc), (6, .int r1), (7, .int r2)] → W p l e rmL_acts s m args below meth c s.heap [] 0 0 Q (F0 m 131 ls [])) h (fun h ls hl => ?_) (fun J3 hJ3 h => ?_)
  · refine lv_iload (pc := 131) hx hb dL_acts_131 (lv_at hl 6 rfl) ?_
    refine lv_iconst (v := 4) (pc := 133) hx hb dL_acts_133 (by decide) ?_
    refine lv_icmp_ge (pc := 134) (tgt := 241) hx hb dL_acts_134 (by decide) (fun cc => ?_) (fun cc => ?_)
    · replace h := am_t cc h
      refine lv_iload (pc := 241) hx hb dL_acts_241 (lv_at hl 6 rfl) ?_
      refine lv_bipush (v := 9) (pc := 243) hx hb dL_acts_243 (by decide) ?_
      refine lv_icmp_ge (pc := 245) (tgt := 472) hx hb dL_acts_245 (by decide) (fun cc => ?_) (fun cc => ?_)
      · replace h := am_t cc h
        refine lv_iload (pc := 472) hx hb dL_acts_472 (lv_at hl 6 rfl) ?_
        refine lv_bipush (v := 16) (pc := 474) hx hb dL_acts_474 (by decide) ?_
        refine lv_icmp_ge (pc := 476) (tgt := 792) hx hb dL_acts_476 (by decide) (fun cc => ?_) (fun cc => ?_)
        · replace h := am_t cc h
          refine lv_iload (pc := 792) hx hb dL_acts_792 (lv_at hl 6 rfl) ?_
          refine lv_bipush (v := 19) (pc := 794) hx hb dL_acts_794 (by decide) ?_
          refine lv_icmp_ge (pc := 796) (tgt := 847) hx hb dL_acts_796 (by decide) (fun cc => ?_) (fun cc => ?_)
          · replace h := am_t cc h
            refine lv_iload (pc := 847) hx hb dL_acts_847 (lv_at hl 5 rfl) ?_
            refine lv_iconst (v := 3) (pc := 849) hx hb dL_acts_849 (by decide) ?_
            refine lv_irem (pc := 850) hx hb dL_acts_850 (by decide) ?_
            refine lv_topi (fun x4 ex4 => ?_)
            replace h := am_let_s ex4 h
            refine lv_istore (lv' := [(8, .int x4), (0, .ref bo), (1, .ref bg), (2, .ref bw), (3, .ref bq), (4, .ref bc), (6, .int r1), (7, .int r2)]) (pc := 851) hx hb dL_acts_851 hl (by decide) rfl (fun ls hl => ?_)
            refine lv_aload_n (pc := 853) hx hb dL_acts_853 rfl (lv_at hl 2 rfl) ?_
            refine lv_iconst (v := 5) (pc := 854) hx hb dL_acts_854 (by decide) ?_
            refine lv_iload (pc := 855) hx hb dL_acts_855 (lv_at hl 0 rfl) ?_
            refine lv_iadd (pc := 857) hx hb dL_acts_857 ?_
            obtain ⟨hi, h⟩ := am_in_s h
            refine va_iald (pc := 858) hx hb hK.1 hP 0 0 rfl rfl hi dL_acts_858 ?_
            refine lv_topi (fun x5 ex5 => ?_)
            replace h := am_let_s ex5 h
            refine lv_istore (lv' := [(9, .int x5), (8, .int x4), (0, .ref bo), (1, .ref bg), (2, .ref bw), (3, .ref bq), (4, .ref bc), (6, .int r1), (7, .int r2)]) (pc := 859) hx hb dL_acts_859 hl (by decide) rfl (fun ls hl => ?_)
            refine lv_aload_n (pc := 861) hx hb dL_acts_861 rfl (lv_at hl 3 rfl) ?_
            refine lv_iconst (v := 5) (pc := 862) hx hb dL_acts_862 (by decide) ?_
            refine lv_iload (pc := 863) hx hb dL_acts_863 (lv_at hl 1 rfl) ?_
            refine lv_iadd (pc := 865) hx hb dL_acts_865 ?_
            refine lv_iload (pc := 866) hx hb dL_acts_866 (lv_at hl 7 rfl) ?_
            refine lv_iconst (v := 3) (pc := 868) hx hb dL_acts_868 (by decide) ?_
            refine lv_idiv (pc := 869) hx hb dL_acts_869 (by decide) ?_
            refine lv_iload (pc := 870) hx hb dL_acts_870 (lv_at hl 1 rfl) ?_
            refine am_join1_s (fun (j6 : Int32) => ∀ (ls : Array Slot), lv_has ls 14 [(0, .ref bo), (1, .ref bg), (8, .int x4), (9, .int x5)] → W p l e rmL_acts s m args below meth c s.heap [] 0 0 Q (F0 m 892 ls [.int j6, .int (r1 / (3 : Int32)), .int ((5 : Int32) + x4), .ref bg])) h (fun j6 h ls hl => ?_) (fun J7 hJ7 h => ?_)
            · obtain ⟨hz, h⟩ := am_nz_s h
              refine lv_irem (pc := 892) hx hb dL_acts_892 hz ?_
              obtain ⟨hi, h⟩ := am_in_s h
              obtain ⟨f8, ef8⟩ : ∃ y : Nat → Int32, y = (upd yg ((5 : Int32) + x4).toNatClampNeg ((r1 / (3 : Int32)) - (r1 / (3 : Int32)) / j6 * j6)) := ⟨_, rfl⟩
              replace h := am_let_s ef8 h
              refine va_iast (pc := 893) hx hb hK.1 hP hD hS 0 0 rfl rfl hi dL_acts_893 (fun H locs hP hD hS => ?_)
              rw [← ef8] at hP hD
              replace hP : va_P D vwCl ((bg, .inl (cI, 8, .inl f8)) :: (bw, .inl (cI, 12, .inl yw)) :: (bq, .inl (cI, 60, .inl yq)) :: (bc, .inl (cJ, 60, .inr (.inl yc))) :: t) H := hP
              replace hD : va_D A ((bg, .inl (cI, 8, .inl f8)) :: (bw, .inl (cI, 12, .inl yw)) :: (bq, .inl (cI, 60, .inl yq)) :: (bc, .inl (cJ, 60, .inr (.inl yc))) :: t) := hD
              refine lv_aload_n (pc := 894) hx hb dL_acts_894 rfl (lv_at hl 0 rfl) ?_
              refine lv_iload (pc := 895) hx hb dL_acts_895 (lv_at hl 2 rfl) ?_
              refine lv_aload_n (pc := 897) hx hb dL_acts_897 rfl (lv_at hl 1 rfl) ?_
              refine lv_iconst (v := 5) (pc := 898) hx hb dL_acts_898 (by decide) ?_
              refine lv_iload (pc := 899) hx hb dL_acts_899 (lv_at hl 2 rfl) ?_
              refine lv_iadd (pc := 901) hx hb dL_acts_901 ?_
              obtain ⟨hi, h⟩ := am_in_s h
              refine va_iald (pc := 902) hx hb hK.1 hP 0 0 rfl rfl hi dL_acts_902 ?_
              obtain ⟨r9, hc9, h⟩ := am_bind_s h
              refine ow_set (pc := 903) (aw := [(bg, .inl (cI, 8, .inl f8)), (bw, .inl (cI, 12, .inl yw)), (bq, .inl (cI, 60, .inl yq)), (bc, .inl (cJ, 60, .inr (.inl yc)))]) (t := t) ⟨hx, hb, hml, hown, hts⟩ hP hK hD hS hA hOW (hO _ _ _ _ _ hc9) (cwV 2 hts (gzV wl444 wl445 wl446 wl2 wl447) rfl rfl rfl ⟨rfl, hdX6_set⟩ ⟨Nat.le_of_ble_eq_true rfl, Nat.le_of_ble_eq_true rfl⟩) [] hl.1 rfl (Nat.le_of_ble_eq_true rfl) dL_acts_903 ⟨Nat.zero_le _, Nat.zero_le _⟩ (fun t9 H locs hOW hP hD hS => ?_)
              replace hP : va_P D vwCl ((bg, .inl (cI, 8, .inl f8)) :: (bw, .inl (cI, 12, .inl yw)) :: (bq, .inl (cI, 60, .inl yq)) :: (bc, .inl (cJ, 60, .inr (.inl yc))) :: t9) H := hP
              replace hD : va_D A ((bg, .inl (cI, 8, .inl f8)) :: (bw, .inl (cI, 12, .inl yw)) :: (bq, .inl (cI, 60, .inl yq)) :: (bc, .inl (cJ, 60, .inr (.inl yc))) :: t9) := hD
              refine lv_iload (pc := 906) hx hb dL_acts_906 (lv_at hl 3 rfl) ?_
              refine lv_icmp_ne (pc := 908) (tgt := 915) hx hb dL_acts_908 (by decide) (fun cc => ?_) (fun cc => ?_)
              · replace h := am_f cc h
                refine lv_iconst (v := 0) (pc := 915) hx hb dL_acts_915 (by decide) ?_
                obtain ⟨e1, e2, e3, e4, e5⟩ := am_ret5 h
                subst e2
                subst e3
                subst e4
                subst e5
                refine W.widen (k := 2) (n := 24) (by omega) (by omega) ?_
                exact hret _ _ _ _ _ _ dL_acts_916 rfl e1 ⟨_, hOW, rfl⟩ hP hD hS
              replace h := am_t cc h
              refine lv_iconst (v := 1) (pc := 911) hx hb dL_acts_911 (by decide) ?_
              refine lv_goto (pc := 912) (tgt := 916) hx hb dL_acts_912 (by decide) ?_
              obtain ⟨e1, e2, e3, e4, e5⟩ := am_ret5 h
              subst e2
              subst e3
              subst e4
              subst e5
              refine W.widen (k := 2) (n := 24) (by omega) (by omega) ?_
              exact hret _ _ _ _ _ _ dL_acts_916 rfl e1 ⟨_, hOW, rfl⟩ hP hD hS
            refine lv_if_ne (pc := 872) (tgt := 880) hx hb dL_acts_872 (by decide) (fun cc => ?_) (fun cc => ?_)
            · replace h := am_f cc h
              refine lv_iload (pc := 880) hx hb dL_acts_880 (lv_at hl 1 rfl) ?_
              refine lv_iconst (v := 1) (pc := 882) hx hb dL_acts_882 (by decide) ?_
              refine lv_icmp_ne (pc := 883) (tgt := 890) hx hb dL_acts_883 (by decide) (fun cc => ?_) (fun cc => ?_)
              · replace h := am_f cc h
                refine lv_bipush (v := 100) (pc := 890) hx hb dL_acts_890 (by decide) ?_
                exact hJ7 _ h ls (lv_sub hl [2, 3, 1, 0] rfl)
              replace h := am_t cc h
              refine lv_iconst (v := 3) (pc := 886) hx hb dL_acts_886 (by decide) ?_
              refine lv_goto (pc := 887) (tgt := 892) hx hb dL_acts_887 (by decide) ?_
              exact hJ7 _ h ls (lv_sub hl [2, 3, 1, 0] rfl)
            replace h := am_t cc h
            refine lv_bipush (v := 13) (pc := 875) hx hb dL_acts_875 (by decide) ?_
            refine lv_goto (pc := 877) (tgt := 892) hx hb dL_acts_877 (by decide) ?_
            exact hJ7 _ h ls (lv_sub hl [2, 3, 1, 0] rfl)
          replace h := am_f cc h
          refine lv_aload_n (pc := 799) hx hb dL_acts_799 rfl (lv_at hl 1 rfl) ?_
          refine lv_iconst (v := 1) (pc := 800) hx hb dL_acts_800 (by decide) ?_
          refine va_iald (pc := 801) hx hb hK.1 hP 0 0 rfl rfl (vp_in_nI (n := 1) (N := 8) (by decide) (by decide)) dL_acts_801 ?_
          refine lv_bipush (v := 20) (pc := 802) hx hb dL_acts_802 (by decide) ?_
          refine lv_icmp_ne (pc := 804) (tgt := 822) hx hb dL_acts_804 (by decide) (fun cc => ?_) (fun cc => ?_)
          · replace h := am_f cc h
            refine lv_aload_n (pc := 822) hx hb dL_acts_822 rfl (lv_at hl 1 rfl) ?_
            refine lv_aload_n (pc := 823) hx hb dL_acts_823 rfl (lv_at hl 2 rfl) ?_
            refine lv_aload_n (pc := 824) hx hb dL_acts_824 rfl (lv_at hl 3 rfl) ?_
            refine lv_aload (pc := 825) hx hb dL_acts_825 (lv_at hl 4 rfl) ?_
            obtain ⟨r10, f11, f12, f13, f14, hc14, h⟩ := am_call5_s h
            refine kc_SX (pc := 827) ⟨hx, hb, hml, hown, hts⟩ hP hK hD hS hA [.ref bg, .ref bw, .ref bq, .ref bc] (c_L_again l D cI cJ bg bw bq bc yg yw yq yc r10 f11 f12 f13 f14 hc14 _) [0, 1, 2, 3] rfl rfl (fun w1 hw1 => by rw [hw1]; rfl) (cwS 4 hts (gzS wl429 wl430 wl118 wl431) rfl rfl rfl ⟨rfl, hdL_again⟩ ⟨Nat.le_of_ble_eq_true rfl, Nat.le_of_ble_eq_true rfl⟩) [] rfl hl.1 rfl (Nat.le_of_ble_eq_true rfl) dL_acts_827 ⟨Nat.le_of_ble_eq_true rfl, Nat.le_of_ble_eq_true rfl⟩ (fun w1 H locs hw1 hP hD hS => ?_)
            subst hw1
            replace hP : va_P D vwCl ((bg, .inl (cI, 8, .inl f11)) :: (bw, .inl (cI, 12, .inl f12)) :: (bq, .inl (cI, 60, .inl f13)) :: (bc, .inl (cJ, 60, .inr (.inl f14))) :: t) H := kSet_P (aw := [(bg, .inl (cI, 8, .inl yg)), (bw, .inl (cI, 12, .inl yw)), (bq, .inl (cI, 60, .inl yq)), (bc, .inl (cJ, 60, .inr (.inl yc)))]) (t := t) (isC := [0, 1, 2, 3]) (w1 := [(bg, .inl (cI, 8, .inl f11)), (bw, .inl (cI, 12, .inl f12)), (bq, .inl (cI, 60, .inl f13)), (bc, .inl (cJ, 60, .inr (.inl f14)))]) hP rfl
            replace hD : va_D A ((bg, .inl (cI, 8, .inl f11)) :: (bw, .inl (cI, 12, .inl f12)) :: (bq, .inl (cI, 60, .inl f13)) :: (bc, .inl (cJ, 60, .inr (.inl f14))) :: t) := kSet_D (aw := [(bg, .inl (cI, 8, .inl yg)), (bw, .inl (cI, 12, .inl yw)), (bq, .inl (cI, 60, .inl yq)), (bc, .inl (cJ, 60, .inr (.inl yc)))]) (t := t) (isC := [0, 1, 2, 3]) (w1 := [(bg, .inl (cI, 8, .inl f11)), (bw, .inl (cI, 12, .inl f12)), (bq, .inl (cI, 60, .inl f13)), (bc, .inl (cJ, 60, .inr (.inl f14)))]) hD rfl
            refine W.widen (k := 1) (n := 12) (by omega) (by omega) ?_
            refine lv_istore (lv' := [(8, .int r10), (0, .ref bo), (1, .ref bg), (2, .ref bw), (3, .ref bq), (4, .ref bc), (6, .int r1), (7, .int r2)]) (pc := 830) hx hb dL_acts_830 hl (by decide) rfl (fun ls hl => ?_)
            refine lv_aload_n (pc := 832) hx hb dL_acts_832 rfl (lv_at hl 1 rfl) ?_
            obtain ⟨r15, hc15, h⟩ := am_bind_s h
            refine ow_resample (pc := 833) (aw := [(bg, .inl (cI, 8, .inl f11)), (bw, .inl (cI, 12, .inl f12)), (bq, .inl (cI, 60, .inl f13)), (bc, .inl (cJ, 60, .inr (.inl f14)))]) (t := t) ⟨hx, hb, hml, hown, hts⟩ hP hK hD hS hA hOW (hO _ _ _ _ _ hc15) (cwV 0 hts (gzV wl439 wl440 wl441 wl2 wl442) rfl rfl rfl ⟨rfl, hdX6_resample⟩ ⟨Nat.le_of_ble_eq_true rfl, Nat.le_of_ble_eq_true rfl⟩) [] hl.1 rfl (Nat.le_of_ble_eq_true rfl) dL_acts_833 ⟨Nat.le_of_ble_eq_true rfl, Nat.le_of_ble_eq_true rfl⟩ (fun t15 H locs hOW hP hD hS => ?_)
            replace hP : va_P D vwCl ((bg, .inl (cI, 8, .inl f11)) :: (bw, .inl (cI, 12, .inl f12)) :: (bq, .inl (cI, 60, .inl f13)) :: (bc, .inl (cJ, 60, .inr (.inl f14))) :: t15) H := hP
            replace hD : va_D A ((bg, .inl (cI, 8, .inl f11)) :: (bw, .inl (cI, 12, .inl f12)) :: (bq, .inl (cI, 60, .inl f13)) :: (bc, .inl (cJ, 60, .inr (.inl f14))) :: t15) := hD
            refine lv_iload (pc := 836) hx hb dL_acts_836 (lv_at hl 0 rfl) ?_
            refine lv_icmp_ne (pc := 838) (tgt := 845) hx hb dL_acts_838 (by decide) (fun cc => ?_) (fun cc => ?_)
            · replace h := am_f cc h
              refine lv_iconst (v := 0) (pc := 845) hx hb dL_acts_845 (by decide) ?_
              obtain ⟨e1, e2, e3, e4, e5⟩ := am_ret5 h
              subst e2
              subst e3
              subst e4
              subst e5
              refine W.widen (k := 2) (n := 24) (by omega) (by omega) ?_
              exact hret _ _ _ _ _ _ dL_acts_846 rfl e1 ⟨_, hOW, rfl⟩ hP hD hS
            replace h := am_t cc h
            refine lv_iconst (v := 1) (pc := 841) hx hb dL_acts_841 (by decide) ?_
            refine lv_goto (pc := 842) (tgt := 846) hx hb dL_acts_842 (by decide) ?_
            obtain ⟨e1, e2, e3, e4, e5⟩ := am_ret5 h
            subst e2
            subst e3
            subst e4
            subst e5
            refine W.widen (k := 2) (n := 24) (by omega) (by omega) ?_
            exact hret _ _ _ _ _ _ dL_acts_846 rfl e1 ⟨_, hOW, rfl⟩ hP hD hS
          replace h := am_t cc h
          refine lv_aload_n (pc := 807) hx hb dL_acts_807 rfl (lv_at hl 0 rfl) ?_
          obtain ⟨r16, hc16, h⟩ := am_bind_s h
          refine ow_resample (pc := 808) (aw := [(bg, .inl (cI, 8, .inl yg)), (bw, .inl (cI, 12, .inl yw)), (bq, .inl (cI, 60, .inl yq)), (bc, .inl (cJ, 60, .inr (.inl yc)))]) (t := t) ⟨hx, hb, hml, hown, hts⟩ hP hK hD hS hA hOW (hO _ _ _ _ _ hc16) (cwV 0 hts (gzV wl439 wl440 wl441 wl2 wl442) rfl rfl rfl ⟨rfl, hdX6_resample⟩ ⟨Nat.le_of_ble_eq_true rfl, Nat.le_of_ble_eq_true rfl⟩) [] hl.1 rfl (Nat.le_of_ble_eq_true rfl) dL_acts_808 ⟨Nat.zero_le _, Nat.zero_le _⟩ (fun t16 H locs hOW hP hD hS => ?_)
          replace hP : va_P D vwCl ((bg, .inl (cI, 8, .inl yg)) :: (bw, .inl (cI, 12, .inl yw)) :: (bq, .inl (cI, 60, .inl yq)) :: (bc, .inl (cJ, 60, .inr (.inl yc))) :: t16) H := hP
          replace hD : va_D A ((bg, .inl (cI, 8, .inl yg)) :: (bw, .inl (cI, 12, .inl yw)) :: (bq, .inl (cI, 60, .inl yq)) :: (bc, .inl (cJ, 60, .inr (.inl yc))) :: t16) := hD
          refine lv_ldc (pc := 811) hx hb hown hk290 dL_acts_811 ?_
          refine lv_icmp_ne (pc := 813) (tgt := 820) hx hb dL_acts_813 (by decide) (fun cc => ?_) (fun cc => ?_)
          · replace h := am_f cc h
            refine lv_iconst (v := 0) (pc := 820) hx hb dL_acts_820 (by decide) ?_
            obtain ⟨e1, e2, e3, e4, e5⟩ := am_ret5 h
            subst e2
            subst e3
            subst e4
            subst e5
            refine W.widen (k := 2) (n := 24) (by omega) (by omega) ?_
            exact hret _ _ _ _ _ _ dL_acts_821 rfl e1 ⟨_, hOW, rfl⟩ hP hD hS
          replace h := am_t cc h
          refine lv_iconst (v := 1) (pc := 816) hx hb dL_acts_816 (by decide) ?_
          refine lv_goto (pc := 817) (tgt := 821) hx hb dL_acts_817 (by decide) ?_
          obtain ⟨e1, e2, e3, e4, e5⟩ := am_ret5 h
          subst e2
          subst e3
          subst e4
          subst e5
          refine W.widen (k := 2) (n := 24) (by omega) (by omega) ?_
          exact hret _ _ _ _ _ _ dL_acts_821 rfl e1 ⟨_, hOW, rfl⟩ hP hD hS
        replace h := am_f cc h
        refine lv_iload (pc := 479) hx hb dL_acts_479 (lv_at hl 5 rfl) ?_
        refine lv_iconst (v := 4) (pc := 481) hx hb dL_acts_481 (by decide) ?_
        refine lv_irem (pc := 482) hx hb dL_acts_482 (by decide) ?_
        refine am_join1_s (fun (j17 : Int32) => ∀ (ls : Array Slot), lv_has ls 14 [(0, .ref bo), (1, .ref bg), (2, .ref bw), (3, .ref bq), (4, .ref bc), (6, .int r1)] → W p l e rmL_acts s m args below meth c s.heap [] 0 0 Q (F0 m 510 ls [.int j17])) h (fun j17 h ls hl => ?_) (fun J18 hJ18 h => ?_)
        · refine lv_istore (lv' := [(8, .int j17), (0, .ref bo), (1, .ref bg), (2, .ref bw), (3, .ref bq), (4, .ref bc), (6, .int r1)]) (pc := 510) hx hb dL_acts_510 hl (by decide) rfl (fun ls hl => ?_)
          refine lv_iconst (v := 1) (pc := 512) hx hb dL_acts_512 (by decide) ?_
          refine lv_iload (pc := 513) hx hb dL_acts_513 (lv_at hl 6 rfl) ?_
          refine lv_bipush (v := 48) (pc := 515) hx hb dL_acts_515 (by decide) ?_
          refine lv_idiv (pc := 517) hx hb dL_acts_517 (by decide) ?_
          refine lv_bipush (v := 99) (pc := 518) hx hb dL_acts_518 (by decide) ?_
          refine lv_irem (pc := 520) hx hb dL_acts_520 (by decide) ?_
          refine lv_iadd (pc := 521) hx hb dL_acts_521 ?_
          refine lv_topi (fun x19 ex19 => ?_)
          replace h := am_let_s ex19 h
          refine lv_istore (lv' := [(9, .int x19), (8, .int j17), (0, .ref bo), (1, .ref bg), (2, .ref bw), (3, .ref bq), (4, .ref bc), (6, .int r1)]) (pc := 522) hx hb dL_acts_522 hl (by decide) rfl (fun ls hl => ?_)
          refine lv_bipush (v := 12) (pc := 524) hx hb dL_acts_524 (by decide) ?_
          refine kc_ai (pc := 526) (N := 12) hx hb hk3 hK hP hD hS hA rfl (Nat.le_of_ble_eq_true rfl) (Nat.le_of_ble_eq_true rfl) (Nat.le_of_ble_eq_true rfl) dL_acts_526 (fun zq526 H hP hD hS => ?_)
          replace hP : va_P D vwCl ((zq526, .inl (cI, 12, .inl zI)) :: (bg, .inl (cI, 8, .inl yg)) :: (bw, .inl (cI, 12, .inl yw)) :: (bq, .inl (cI, 60, .inl yq)) :: (bc, .inl (cJ, 60, .inr (.inl yc))) :: t) H := vP_sw hP
          replace hD : va_D A ((zq526, .inl (cI, 12, .inl zI)) :: (bg, .inl (cI, 8, .inl yg)) :: (bw, .inl (cI, 12, .inl yw)) :: (bq, .inl (cI, 60, .inl yq)) :: (bc, .inl (cJ, 60, .inr (.inl yc))) :: t) := vD_sw hD
          refine W.widen (k := 1) (n := 12) (by omega) (by omega) ?_
          refine lv_astore (lv' := [(10, .ref zq526), (9, .int x19), (8, .int j17), (0, .ref bo), (1, .ref bg), (2, .ref bw), (3, .ref bq), (4, .ref bc), (6, .int r1)]) (pc := 528) hx hb dL_acts_528 hl (by decide) rfl (fun ls hl => ?_)
          refine lv_iconst (v := 0) (pc := 530) hx hb dL_acts_530 (by decide) ?_
          refine lv_istore (lv' := [(11, .int (0 : Int32)), (10, .ref zq526), (9, .int x19), (8, .int j17), (0, .ref bo), (1, .ref bg), (2, .ref bw), (3, .ref bq), (4, .ref bc), (6, .int r1)]) (pc := 531) hx hb dL_acts_531 hl (by decide) rfl (fun ls hl => ?_)
          refine am_join1_s (fun (f20 : Nat → Int32) => ∀ (ls : Array Slot), lv_has ls 14 [(0, .ref bo), (1, .ref bg), (2, .ref bw), (3, .ref bq), (4, .ref bc), (8, .int j17), (9, .int x19), (10, .ref zq526)] → ∀ (H : Heap) (locs : List Loc), va_P D vwCl ((zq526, .inl (cI, 12, .inl f20)) :: (bg, .inl (cI, 8, .inl yg)) :: (bw, .inl (cI, 12, .inl yw)) :: (bq, .inl (cI, 60, .inl yq)) :: (bc, .inl (cJ, 60, .inr (.inl yc))) :: t) H → va_D A ((zq526, .inl (cI, 12, .inl f20)) :: (bg, .inl (cI, 8, .inl yg)) :: (bw, .inl (cI, 12, .inl yw)) :: (bq, .inl (cI, 60, .inl yq)) :: (bc, .inl (cJ, 60, .inr (.inl yc))) :: t) → va_S A s.heap H locs → W p l e rmL_acts s m args below meth c H locs 1 12 Q (F0 m 613 ls [])) h (fun f20 h ls hl H locs hP hD hS => ?_) (fun K21 hK21 h => ?_)
          · refine lv_aload_n (pc := 613) hx hb dL_acts_613 rfl (lv_at hl 1 rfl) ?_
            refine lv_aload (pc := 614) hx hb dL_acts_614 (lv_at hl 7 rfl) ?_
            obtain ⟨r22, f23, hc23, h⟩ := am_call2_s h
            refine kc_SWi (pc := 616) ⟨hx, hb, hml, hown, hts⟩ hP hK hD hS hA [.ref bg, .ref zq526] (c_L_thins l D cI cJ bg zq526 yg f20 r22 f23 hc23 _) [1, 0] rfl rfl rfl (cwS 2 hts (gzS wl343 wl344 wl118 wl345) rfl rfl rfl ⟨rfl, hdL_thins⟩ ⟨Nat.le_of_ble_eq_true rfl, Nat.le_of_ble_eq_true rfl⟩) [] rfl hl.1 rfl (Nat.le_of_ble_eq_true rfl) dL_acts_616 ⟨Nat.le_of_ble_eq_true rfl, Nat.le_of_ble_eq_true rfl⟩ (fun H locs hP hD hS => ?_)
            replace hP : va_P D vwCl ((zq526, .inl (cI, 12, .inl f23)) :: (bg, .inl (cI, 8, .inl yg)) :: (bw, .inl (cI, 12, .inl yw)) :: (bq, .inl (cI, 60, .inl yq)) :: (bc, .inl (cJ, 60, .inr (.inl yc))) :: t) H := kSet_P (aw := [(zq526, .inl (cI, 12, .inl f20)), (bg, .inl (cI, 8, .inl yg)), (bw, .inl (cI, 12, .inl yw)), (bq, .inl (cI, 60, .inl yq)), (bc, .inl (cJ, 60, .inr (.inl yc)))]) (t := t) (isC := [1, 0]) (w1 := [(bg, .inl (cI, 8, .inl yg)), (zq526, .inl (cI, 12, .inl f23))]) hP rfl
            replace hD : va_D A ((zq526, .inl (cI, 12, .inl f23)) :: (bg, .inl (cI, 8, .inl yg)) :: (bw, .inl (cI, 12, .inl yw)) :: (bq, .inl (cI, 60, .inl yq)) :: (bc, .inl (cJ, 60, .inr (.inl yc))) :: t) := kSet_D (aw := [(zq526, .inl (cI, 12, .inl f20)), (bg, .inl (cI, 8, .inl yg)), (bw, .inl (cI, 12, .inl yw)), (bq, .inl (cI, 60, .inl yq)), (bc, .inl (cJ, 60, .inr (.inl yc)))]) (t := t) (isC := [1, 0]) (w1 := [(bg, .inl (cI, 8, .inl yg)), (zq526, .inl (cI, 12, .inl f23))]) hD rfl
            refine lv_istore (lv' := [(11, .int r22), (0, .ref bo), (1, .ref bg), (2, .ref bw), (3, .ref bq), (4, .ref bc), (8, .int j17), (9, .int x19), (10, .ref zq526)]) (pc := 619) hx hb dL_acts_619 hl (by decide) rfl (fun ls hl => ?_)
            refine lv_iload (pc := 621) hx hb dL_acts_621 (lv_at hl 0 rfl) ?_
            refine lv_if_ne (pc := 623) (tgt := 645) hx hb dL_acts_623 (by decide) (fun cc => ?_) (fun cc => ?_)
            · replace h := am_f cc h
              refine lv_iload (pc := 645) hx hb dL_acts_645 (lv_at hl 0 rfl) ?_
              refine lv_ldc (pc := 647) hx hb hown hk291 dL_acts_647 ?_
              refine am_join0_s (∀ (ls : Array Slot), lv_has ls 14 [(0, .ref bo), (8, .int j17), (9, .int x19)] → W p l e rmL_acts s m args below meth c H locs 1 12 Q (F0 m 672 ls [])) h (fun h ls hl => ?_) (fun J24 hJ24 h => ?_)
              · refine lv_aload_n (pc := 672) hx hb dL_acts_672 rfl (lv_at hl 0 rfl) ?_
                refine lv_iload (pc := 673) hx hb dL_acts_673 (lv_at hl 1 rfl) ?_
                refine lv_iload (pc := 675) hx hb dL_acts_675 (lv_at hl 2 rfl) ?_
                obtain ⟨r25, hc25, h⟩ := am_bind_s h
                refine ow_observe (pc := 677) (aw := [(zq526, .inl (cI, 12, .inl f23)), (bg, .inl (cI, 8, .inl yg)), (bw, .inl (cI, 12, .inl yw)), (bq, .inl (cI, 60, .inl yq)), (bc, .inl (cJ, 60, .inr (.inl yc)))]) (t := t) ⟨hx, hb, hml, hown, hts⟩ hP hK hD hS hA hOW (hO _ _ _ _ _ hc25) (cwV 2 hts (gzV wl370 wl371 wl372 wl2 wl373) rfl rfl rfl ⟨rfl, hdX6_observe⟩ ⟨Nat.le_of_ble_eq_true rfl, Nat.le_of_ble_eq_true rfl⟩) [] hl.1 rfl (Nat.le_of_ble_eq_true rfl) dL_acts_677 ⟨Nat.le_of_ble_eq_true rfl, Nat.le_of_ble_eq_true rfl⟩ (fun t25 H locs hOW hP hD hS => ?_)
                replace hP : va_P D vwCl ((zq526, .inl (cI, 12, .inl f23)) :: (bg, .inl (cI, 8, .inl yg)) :: (bw, .inl (cI, 12, .inl yw)) :: (bq, .inl (cI, 60, .inl yq)) :: (bc, .inl (cJ, 60, .inr (.inl yc))) :: t25) H := hP
                replace hD : va_D A ((zq526, .inl (cI, 12, .inl f23)) :: (bg, .inl (cI, 8, .inl yg)) :: (bw, .inl (cI, 12, .inl yw)) :: (bq, .inl (cI, 60, .inl yq)) :: (bc, .inl (cJ, 60, .inr (.inl yc))) :: t25) := hD
                refine lv_ldc (pc := 680) hx hb hown hk290 dL_acts_680 ?_
                refine lv_icmp_ne (pc := 682) (tgt := 689) hx hb dL_acts_682 (by decide) (fun cc => ?_) (fun cc => ?_)
                · replace h := am_f cc h
                  refine lv_iconst (v := 0) (pc := 689) hx hb dL_acts_689 (by decide) ?_
                  obtain ⟨e1, e2, e3, e4, e5⟩ := am_ret5 h
                  subst e2
                  subst e3
                  subst e4
                  subst e5
                  replace hP := vP_tl hP
                  replace hD := vD_tl hD
                  refine W.widen (k := 2) (n := 24) (by omega) (by omega) ?_
                  exact hret _ _ _ _ _ _ dL_acts_690 rfl e1 ⟨_, hOW, rfl⟩ hP hD hS
                replace h := am_t cc h
                refine lv_iconst (v := 1) (pc := 685) hx hb dL_acts_685 (by decide) ?_
                refine lv_goto (pc := 686) (tgt := 690) hx hb dL_acts_686 (by decide) ?_
                obtain ⟨e1, e2, e3, e4, e5⟩ := am_ret5 h
                subst e2
                subst e3
                subst e4
                subst e5
                replace hP := vP_tl hP
                replace hD := vD_tl hD
                refine W.widen (k := 2) (n := 24) (by omega) (by omega) ?_
                exact hret _ _ _ _ _ _ dL_acts_690 rfl e1 ⟨_, hOW, rfl⟩ hP hD hS
              refine lv_icmp_gt (pc := 649) (tgt := 672) hx hb dL_acts_649 (by decide) (fun cc => ?_) (fun cc => ?_)
              · replace h := am_t cc h
                exact hJ24 h ls (lv_sub hl [1, 6, 7] rfl)
              replace h := am_f cc h
              refine lv_aload_n (pc := 652) hx hb dL_acts_652 rfl (lv_at hl 2 rfl) ?_
              refine lv_iconst (v := 1) (pc := 653) hx hb dL_acts_653 (by decide) ?_
              refine va_iald (pc := 654) hx hb hK.1 hP 1 0 rfl rfl (vp_in_nI (n := 1) (N := 8) (by decide) (by decide)) dL_acts_654 ?_
              refine lv_bipush (v := 20) (pc := 655) hx hb dL_acts_655 (by decide) ?_
              refine am_join0_s (∀ (ls : Array Slot), lv_has ls 14 [(0, .ref bo), (1, .ref bg), (2, .ref bw), (3, .ref bq), (4, .ref bc), (8, .int j17), (9, .int x19), (10, .ref zq526)] → W p l e rmL_acts s m args below meth c H locs 1 12 Q (F0 m 691 ls [])) h (fun h ls hl => ?_) (fun J26 hJ26 h => ?_)
              · refine lv_iconst (v := 0) (pc := 691) hx hb dL_acts_691 (by decide) ?_
                refine lv_istore (lv' := [(12, .int (0 : Int32)), (0, .ref bo), (1, .ref bg), (2, .ref bw), (3, .ref bq), (4, .ref bc), (8, .int j17), (9, .int x19), (10, .ref zq526)]) (pc := 692) hx hb dL_acts_692 hl (by decide) rfl (fun ls hl => ?_)
                refine am_join1_s (fun (f27 : Nat → Int32) => ∀ (ls : Array Slot), lv_has ls 14 [(0, .ref bo), (1, .ref bg), (2, .ref bw), (3, .ref bq), (4, .ref bc), (8, .int j17), (9, .int x19)] → ∀ (H : Heap) (locs : List Loc), va_P D vwCl ((zq526, .inl (cI, 12, .inl f23)) :: (bg, .inl (cI, 8, .inl yg)) :: (bw, .inl (cI, 12, .inl f27)) :: (bq, .inl (cI, 60, .inl yq)) :: (bc, .inl (cJ, 60, .inr (.inl yc))) :: t) H → va_D A ((zq526, .inl (cI, 12, .inl f23)) :: (bg, .inl (cI, 8, .inl yg)) :: (bw, .inl (cI, 12, .inl f27)) :: (bq, .inl (cI, 60, .inl yq)) :: (bc, .inl (cJ, 60, .inr (.inl yc))) :: t) → va_S A s.heap H locs → W p l e rmL_acts s m args below meth c H locs 1 12 Q (F0 m 717 ls [])) h (fun f27 h ls hl H locs hP hD hS => ?_) (fun K28 hK28 h => ?_)
                · refine lv_aload_n (pc := 717) hx hb dL_acts_717 rfl (lv_at hl 1 rfl) ?_
                  refine lv_aload_n (pc := 718) hx hb dL_acts_718 rfl (lv_at hl 2 rfl) ?_
                  obtain ⟨r29, hc29, h⟩ := am_bind_s h
                  refine kc_Si (pc := 719) ⟨hx, hb, hml, hown, hts⟩ hP hK [.ref bg, .ref bw] (c_L_counts l D cI cJ bg bw yg f27 r29 hc29) [1, 2] rfl (cwS 2 hts (gzS wl233 wl234 wl118 wl235) rfl rfl rfl ⟨rfl, hdL_counts⟩ ⟨Nat.le_of_ble_eq_true rfl, Nat.le_of_ble_eq_true rfl⟩) [] rfl hl.1 rfl (Nat.le_of_ble_eq_true rfl) dL_acts_719 ⟨Nat.le_of_ble_eq_true rfl, Nat.le_of_ble_eq_true rfl⟩ ?_
                  refine lv_istore (lv' := [(12, .int r29), (0, .ref bo), (1, .ref bg), (2, .ref bw), (3, .ref bq), (4, .ref bc), (8, .int j17), (9, .int x19)]) (pc := 722) hx hb dL_acts_722 hl (by decide) rfl (fun ls hl => ?_)
                  refine lv_aload_n (pc := 724) hx hb dL_acts_724 rfl (lv_at hl 2 rfl) ?_
                  refine lv_iconst (v := 3) (pc := 725) hx hb dL_acts_725 (by decide) ?_
                  refine lv_dup2_11 (pc := 726) hx hb dL_acts_726 rfl rfl ?_
                  refine va_iald (pc := 727) hx hb hK.1 hP 1 0 rfl rfl (vp_in_nI (n := 3) (N := 8) (by decide) (by decide)) dL_acts_727 ?_
                  refine lv_iconst (v := 1) (pc := 728) hx hb dL_acts_728 (by decide) ?_
                  refine lv_iadd (pc := 729) hx hb dL_acts_729 ?_
                  obtain ⟨f30, ef30⟩ : ∃ y : Nat → Int32, y = (upd yg (3 : Int32).toNatClampNeg ((yg (3 : Int32).toNatClampNeg) + (1 : Int32))) := ⟨_, rfl⟩
                  replace h := am_let_s ef30 h
                  refine va_iast (pc := 730) hx hb hK.1 hP hD hS 1 0 rfl rfl (vp_in_nI (n := 3) (N := 8) (by decide) (by decide)) dL_acts_730 (fun H locs hP hD hS => ?_)
                  rw [← ef30] at hP hD
                  replace hP : va_P D vwCl ((zq526, .inl (cI, 12, .inl f23)) :: (bg, .inl (cI, 8, .inl f30)) :: (bw, .inl (cI, 12, .inl f27)) :: (bq, .inl (cI, 60, .inl yq)) :: (bc, .inl (cJ, 60, .inr (.inl yc))) :: t) H := hP
                  replace hD : va_D A ((zq526, .inl (cI, 12, .inl f23)) :: (bg, .inl (cI, 8, .inl f30)) :: (bw, .inl (cI, 12, .inl f27)) :: (bq, .inl (cI, 60, .inl yq)) :: (bc, .inl (cJ, 60, .inr (.inl yc))) :: t) := hD
                  refine lv_iload (pc := 731) hx hb dL_acts_731 (lv_at hl 0 rfl) ?_
                  refine lv_aload_n (pc := 733) hx hb dL_acts_733 rfl (lv_at hl 2 rfl) ?_
                  refine lv_iconst (v := 5) (pc := 734) hx hb dL_acts_734 (by decide) ?_
                  refine va_iald (pc := 735) hx hb hK.1 hP 1 0 rfl rfl (vp_in_nI (n := 5) (N := 8) (by decide) (by decide)) dL_acts_735 ?_
                  refine lv_icmp_ge (pc := 736) (tgt := 773) hx hb dL_acts_736 (by decide) (fun cc => ?_) (fun cc => ?_)
                  · replace h := am_t cc h
                    refine lv_aload_n (pc := 773) hx hb dL_acts_773 rfl (lv_at hl 1 rfl) ?_
                    refine lv_iload (pc := 774) hx hb dL_acts_774 (lv_at hl 6 rfl) ?_
                    refine lv_iload (pc := 776) hx hb dL_acts_776 (lv_at hl 7 rfl) ?_
                    obtain ⟨r31, hc31, h⟩ := am_bind_s h
                    refine ow_observe (pc := 778) (aw := [(zq526, .inl (cI, 12, .inl f23)), (bg, .inl (cI, 8, .inl f30)), (bw, .inl (cI, 12, .inl f27)), (bq, .inl (cI, 60, .inl yq)), (bc, .inl (cJ, 60, .inr (.inl yc)))]) (t := t) ⟨hx, hb, hml, hown, hts⟩ hP hK hD hS hA hOW (hO _ _ _ _ _ hc31) (cwV 2 hts (gzV wl370 wl371 wl372 wl2 wl373) rfl rfl rfl ⟨rfl, hdX6_observe⟩ ⟨Nat.le_of_ble_eq_true rfl, Nat.le_of_ble_eq_true rfl⟩) [] hl.1 rfl (Nat.le_of_ble_eq_true rfl) dL_acts_778 ⟨Nat.le_of_ble_eq_true rfl, Nat.le_of_ble_eq_true rfl⟩ (fun t31 H locs hOW hP hD hS => ?_)
                    replace hP : va_P D vwCl ((zq526, .inl (cI, 12, .inl f23)) :: (bg, .inl (cI, 8, .inl f30)) :: (bw, .inl (cI, 12, .inl f27)) :: (bq, .inl (cI, 60, .inl yq)) :: (bc, .inl (cJ, 60, .inr (.inl yc))) :: t31) H := hP
                    replace hD : va_D A ((zq526, .inl (cI, 12, .inl f23)) :: (bg, .inl (cI, 8, .inl f30)) :: (bw, .inl (cI, 12, .inl f27)) :: (bq, .inl (cI, 60, .inl yq)) :: (bc, .inl (cJ, 60, .inr (.inl yc))) :: t31) := hD
                    refine lv_iload (pc := 781) hx hb dL_acts_781 (lv_at hl 0 rfl) ?_
                    refine lv_icmp_ne (pc := 783) (tgt := 790) hx hb dL_acts_783 (by decide) (fun cc => ?_) (fun cc => ?_)
                    · replace h := am_f cc h
                      refine lv_iconst (v := 0) (pc := 790) hx hb dL_acts_790 (by decide) ?_
                      obtain ⟨e1, e2, e3, e4, e5⟩ := am_ret5 h
                      subst e2
                      subst e3
                      subst e4
                      subst e5
                      replace hP := vP_tl hP
                      replace hD := vD_tl hD
                      refine W.widen (k := 2) (n := 24) (by omega) (by omega) ?_
                      exact hret _ _ _ _ _ _ dL_acts_791 rfl e1 ⟨_, hOW, rfl⟩ hP hD hS
                    replace h := am_t cc h
                    refine lv_iconst (v := 1) (pc := 786) hx hb dL_acts_786 (by decide) ?_
                    refine lv_goto (pc := 787) (tgt := 791) hx hb dL_acts_787 (by decide) ?_
                    obtain ⟨e1, e2, e3, e4, e5⟩ := am_ret5 h
                    subst e2
                    subst e3
                    subst e4
                    subst e5
                    replace hP := vP_tl hP
                    replace hD := vD_tl hD
                    refine W.widen (k := 2) (n := 24) (by omega) (by omega) ?_
                    exact hret _ _ _ _ _ _ dL_acts_791 rfl e1 ⟨_, hOW, rfl⟩ hP hD hS
                  replace h := am_f cc h
                  refine lv_aload_n (pc := 739) hx hb dL_acts_739 rfl (lv_at hl 2 rfl) ?_
                  refine lv_aload_n (pc := 740) hx hb dL_acts_740 rfl (lv_at hl 3 rfl) ?_
                  refine lv_aload_n (pc := 741) hx hb dL_acts_741 rfl (lv_at hl 4 rfl) ?_
                  refine lv_aload (pc := 742) hx hb dL_acts_742 (lv_at hl 5 rfl) ?_
                  obtain ⟨r32, f33, f34, f35, f36, hc36, h⟩ := am_call5_s h
                  refine kc_SX (pc := 744) ⟨hx, hb, hml, hown, hts⟩ hP hK hD hS hA [.ref bg, .ref bw, .ref bq, .ref bc] (c_L_again l D cI cJ bg bw bq bc f30 f27 yq yc r32 f33 f34 f35 f36 hc36 _) [1, 2, 3, 4] rfl rfl (fun w1 hw1 => by rw [hw1]; rfl) (cwS 4 hts (gzS wl429 wl430 wl118 wl431) rfl rfl rfl ⟨rfl, hdL_again⟩ ⟨Nat.le_of_ble_eq_true rfl, Nat.le_of_ble_eq_true rfl⟩) [] rfl hl.1 rfl (Nat.le_of_ble_eq_true rfl) dL_acts_744 ⟨Nat.le_of_ble_eq_true rfl, Nat.le_of_ble_eq_true rfl⟩ (fun w1 H locs hw1 hP hD hS => ?_)
                  subst hw1
                  replace hP : va_P D vwCl ((zq526, .inl (cI, 12, .inl f23)) :: (bg, .inl (cI, 8, .inl f33)) :: (bw, .inl (cI, 12, .inl f34)) :: (bq, .inl (cI, 60, .inl f35)) :: (bc, .inl (cJ, 60, .inr (.inl f36))) :: t) H := kSet_P (aw := [(zq526, .inl (cI, 12, .inl f23)), (bg, .inl (cI, 8, .inl f30)), (bw, .inl (cI, 12, .inl f27)), (bq, .inl (cI, 60, .inl yq)), (bc, .inl (cJ, 60, .inr (.inl yc)))]) (t := t) (isC := [1, 2, 3, 4]) (w1 := [(bg, .inl (cI, 8, .inl f33)), (bw, .inl (cI, 12, .inl f34)), (bq, .inl (cI, 60, .inl f35)), (bc, .inl (cJ, 60, .inr (.inl f36)))]) hP rfl
                  replace hD : va_D A ((zq526, .inl (cI, 12, .inl f23)) :: (bg, .inl (cI, 8, .inl f33)) :: (bw, .inl (cI, 12, .inl f34)) :: (bq, .inl (cI, 60, .inl f35)) :: (bc, .inl (cJ, 60, .inr (.inl f36))) :: t) := kSet_D (aw := [(zq526, .inl (cI, 12, .inl f23)), (bg, .inl (cI, 8, .inl f30)), (bw, .inl (cI, 12, .inl f27)), (bq, .inl (cI, 60, .inl yq)), (bc, .inl (cJ, 60, .inr (.inl yc)))]) (t := t) (isC := [1, 2, 3, 4]) (w1 := [(bg, .inl (cI, 8, .inl f33)), (bw, .inl (cI, 12, .inl f34)), (bq, .inl (cI, 60, .inl f35)), (bc, .inl (cJ, 60, .inr (.inl f36)))]) hD rfl
                  refine W.widen (k := 2) (n := 24) (by omega) (by omega) ?_
                  refine lv_istore (lv' := [(13, .int r32), (12, .int r29), (0, .ref bo), (1, .ref bg), (2, .ref bw), (3, .ref bq), (4, .ref bc), (8, .int j17), (9, .int x19)]) (pc := 747) hx hb dL_acts_747 hl (by decide) rfl (fun ls hl => ?_)
                  refine lv_aload_n (pc := 749) hx hb dL_acts_749 rfl (lv_at hl 2 rfl) ?_
                  refine lv_iload (pc := 750) hx hb dL_acts_750 (lv_at hl 7 rfl) ?_
                  refine lv_iload (pc := 752) hx hb dL_acts_752 (lv_at hl 8 rfl) ?_
                  obtain ⟨r37, hc37, h⟩ := am_bind_s h
                  refine ow_observe (pc := 754) (aw := [(zq526, .inl (cI, 12, .inl f23)), (bg, .inl (cI, 8, .inl f33)), (bw, .inl (cI, 12, .inl f34)), (bq, .inl (cI, 60, .inl f35)), (bc, .inl (cJ, 60, .inr (.inl f36)))]) (t := t) ⟨hx, hb, hml, hown, hts⟩ hP hK hD hS hA hOW (hO _ _ _ _ _ hc37) (cwV 2 hts (gzV wl370 wl371 wl372 wl2 wl373) rfl rfl rfl ⟨rfl, hdX6_observe⟩ ⟨Nat.le_of_ble_eq_true rfl, Nat.le_of_ble_eq_true rfl⟩) [] hl.1 rfl (Nat.le_of_ble_eq_true rfl) dL_acts_754 ⟨Nat.le_of_ble_eq_true rfl, Nat.le_of_ble_eq_true rfl⟩ (fun t37 H locs hOW hP hD hS => ?_)
                  replace hP : va_P D vwCl ((zq526, .inl (cI, 12, .inl f23)) :: (bg, .inl (cI, 8, .inl f33)) :: (bw, .inl (cI, 12, .inl f34)) :: (bq, .inl (cI, 60, .inl f35)) :: (bc, .inl (cJ, 60, .inr (.inl f36))) :: t37) H := hP
                  replace hD : va_D A ((zq526, .inl (cI, 12, .inl f23)) :: (bg, .inl (cI, 8, .inl f33)) :: (bw, .inl (cI, 12, .inl f34)) :: (bq, .inl (cI, 60, .inl f35)) :: (bc, .inl (cJ, 60, .inr (.inl f36))) :: t37) := hD
                  refine lv_iload (pc := 757) hx hb dL_acts_757 (lv_at hl 1 rfl) ?_
                  refine lv_icmp_ne (pc := 759) (tgt := 771) hx hb dL_acts_759 (by decide) (fun cc => ?_) (fun cc => ?_)
                  · replace h := am_f cc h
                    refine lv_iconst (v := 0) (pc := 771) hx hb dL_acts_771 (by decide) ?_
                    obtain ⟨e1, e2, e3, e4, e5⟩ := am_ret5 h
                    subst e2
                    subst e3
                    subst e4
                    subst e5
                    replace hP := vP_tl hP
                    replace hD := vD_tl hD
                    exact hret _ _ _ _ _ _ dL_acts_772 rfl e1 ⟨_, hOW, rfl⟩ hP hD hS
                  replace h := am_t cc h
                  refine lv_iload (pc := 762) hx hb dL_acts_762 (lv_at hl 0 rfl) ?_
                  refine lv_if_le (pc := 764) (tgt := 771) hx hb dL_acts_764 (by decide) (fun cc => ?_) (fun cc => ?_)
                  · replace h := am_t cc h
                    refine lv_iconst (v := 0) (pc := 771) hx hb dL_acts_771 (by decide) ?_
                    obtain ⟨e1, e2, e3, e4, e5⟩ := am_ret5 h
                    subst e2
                    subst e3
                    subst e4
                    subst e5
                    replace hP := vP_tl hP
                    replace hD := vD_tl hD
                    exact hret _ _ _ _ _ _ dL_acts_772 rfl e1 ⟨_, hOW, rfl⟩ hP hD hS
                  replace h := am_f cc h
                  refine lv_iconst (v := 1) (pc := 767) hx hb dL_acts_767 (by decide) ?_
                  refine lv_goto (pc := 768) (tgt := 772) hx hb dL_acts_768 (by decide) ?_
                  obtain ⟨e1, e2, e3, e4, e5⟩ := am_ret5 h
                  subst e2
                  subst e3
                  subst e4
                  subst e5
                  replace hP := vP_tl hP
                  replace hD := vD_tl hD
                  exact hret _ _ _ _ _ _ dL_acts_772 rfl e1 ⟨_, hOW, rfl⟩ hP hD hS
                refine am_loop2_s (fun (x38 : Int32) (f39 : Nat → Int32) => ∀ (ls : Array Slot), lv_has ls 14 [(0, .ref bo), (1, .ref bg), (2, .ref bw), (3, .ref bq), (4, .ref bc), (8, .int j17), (9, .int x19), (10, .ref zq526), (12, .int x38)] → ∀ (H : Heap) (locs : List Loc), va_P D vwCl ((zq526, .inl (cI, 12, .inl f23)) :: (bg, .inl (cI, 8, .inl yg)) :: (bw, .inl (cI, 12, .inl f39)) :: (bq, .inl (cI, 60, .inl yq)) :: (bc, .inl (cJ, 60, .inr (.inl yc))) :: t) H → va_D A ((zq526, .inl (cI, 12, .inl f23)) :: (bg, .inl (cI, 8, .inl yg)) :: (bw, .inl (cI, 12, .inl f39)) :: (bq, .inl (cI, 60, .inl yq)) :: (bc, .inl (cJ, 60, .inr (.inl yc))) :: t) → va_S A s.heap H locs → W p l e rmL_acts s m args below meth c H locs 1 12 Q (F0 m 694 ls [])) (fun rec40 ihrec40 x38 f39 h ls hl H locs hP hD hS => ?_) _ _ _ h ls (lv_sub hl [1, 2, 3, 4, 5, 6, 7, 8, 0] rfl) H locs hP hD hS
                unfold F_L_acts_B694 at h
                refine lv_iload (pc := 694) hx hb dL_acts_694 (lv_at hl 8 rfl) ?_
                refine lv_aload_n (pc := 696) hx hb dL_acts_696 rfl (lv_at hl 1 rfl) ?_
                refine lv_iconst (v := 0) (pc := 697) hx hb dL_acts_697 (by decide) ?_
                refine va_iald (pc := 698) hx hb hK.1 hP 1 0 rfl rfl (vp_in_nI (n := 0) (N := 8) (by decide) (by decide)) dL_acts_698 ?_
                refine lv_icmp_ge (pc := 699) (tgt := 717) hx hb dL_acts_699 (by decide) (fun cc => ?_) (fun cc => ?_)
                · replace h := am_t cc h
                  exact hK28 _ h ls (lv_sub hl [0, 1, 2, 3, 4, 5, 6] rfl) H locs hP hD hS
                replace h := am_f cc h
                refine lv_aload_n (pc := 702) hx hb dL_acts_702 rfl (lv_at hl 2 rfl) ?_
                refine lv_iload (pc := 703) hx hb dL_acts_703 (lv_at hl 8 rfl) ?_
                refine lv_aload (pc := 705) hx hb dL_acts_705 (lv_at hl 7 rfl) ?_
                refine lv_iload (pc := 707) hx hb dL_acts_707 (lv_at hl 8 rfl) ?_
                obtain ⟨hi, h⟩ := am_in_s h
                refine va_iald (pc := 709) hx hb hK.1 hP 0 0 rfl rfl hi dL_acts_709 ?_
                obtain ⟨hi, h⟩ := am_in_s h
                obtain ⟨f41, ef41⟩ : ∃ y : Nat → Int32, y = (upd f39 x38.toNatClampNeg (f23 x38.toNatClampNeg)) := ⟨_, rfl⟩
                replace h := am_let_s ef41 h
                refine va_iast (pc := 710) hx hb hK.1 hP hD hS 2 0 rfl rfl hi dL_acts_710 (fun H locs hP hD hS => ?_)
                rw [← ef41] at hP hD
                replace hP : va_P D vwCl ((zq526, .inl (cI, 12, .inl f23)) :: (bg, .inl (cI, 8, .inl yg)) :: (bw, .inl (cI, 12, .inl f41)) :: (bq, .inl (cI, 60, .inl yq)) :: (bc, .inl (cJ, 60, .inr (.inl yc))) :: t) H := hP
                replace hD : va_D A ((zq526, .inl (cI, 12, .inl f23)) :: (bg, .inl (cI, 8, .inl yg)) :: (bw, .inl (cI, 12, .inl f41)) :: (bq, .inl (cI, 60, .inl yq)) :: (bc, .inl (cJ, 60, .inr (.inl yc))) :: t) := hD
                obtain ⟨x42, ex42⟩ : ∃ y : Int32, y = (x38 + (1 : Int32)) := ⟨_, rfl⟩
                replace h := am_let_s ex42 h
                refine lv_iinc (pc := 711) (v := x42) (lv' := [(12, .int x42), (0, .ref bo), (1, .ref bg), (2, .ref bw), (3, .ref bq), (4, .ref bc), (8, .int j17), (9, .int x19), (10, .ref zq526)]) hx hb dL_acts_711 hl (k := 8) rfl (by rw [ex42]; rfl) (by decide) rfl (fun ls hl => ?_)
                refine lv_goto (pc := 714) (tgt := 694) hx hb dL_acts_714 (by decide) ?_
                exact ihrec40 _ _ h ls (lv_sub hl [1, 2, 3, 4, 5, 6, 7, 8, 0] rfl) H locs hP hD hS
              refine lv_icmp_ne (pc := 657) (tgt := 691) hx hb dL_acts_657 (by decide) (fun cc => ?_) (fun cc => ?_)
              · replace h := am_f cc h
                exact hJ26 h ls (lv_sub hl [1, 2, 3, 4, 5, 6, 7, 8] rfl)
              replace h := am_t cc h
              refine lv_aload_n (pc := 660) hx hb dL_acts_660 rfl (lv_at hl 2 rfl) ?_
              refine lv_aload (pc := 661) hx hb dL_acts_661 (lv_at hl 8 rfl) ?_
              obtain ⟨r43, hc43, h⟩ := am_bind_s h
              refine kc_Si (pc := 663) ⟨hx, hb, hml, hown, hts⟩ hP hK [.ref bg, .ref zq526] (c_L_counts l D cI cJ bg zq526 yg f23 r43 hc43) [1, 0] rfl (cwS 2 hts (gzS wl233 wl234 wl118 wl235) rfl rfl rfl ⟨rfl, hdL_counts⟩ ⟨Nat.le_of_ble_eq_true rfl, Nat.le_of_ble_eq_true rfl⟩) [] rfl hl.1 rfl (Nat.le_of_ble_eq_true rfl) dL_acts_663 ⟨Nat.le_of_ble_eq_true rfl, Nat.le_of_ble_eq_true rfl⟩ ?_
              refine lv_aload_n (pc := 666) hx hb dL_acts_666 rfl (lv_at hl 2 rfl) ?_
              refine lv_iconst (v := 5) (pc := 667) hx hb dL_acts_667 (by decide) ?_
              refine va_iald (pc := 668) hx hb hK.1 hP 1 0 rfl rfl (vp_in_nI (n := 5) (N := 8) (by decide) (by decide)) dL_acts_668 ?_
              refine lv_icmp_ge (pc := 669) (tgt := 691) hx hb dL_acts_669 (by decide) (fun cc => ?_) (fun cc => ?_)
              · replace h := am_t cc h
                exact hJ26 h ls (lv_sub hl [1, 2, 3, 4, 5, 6, 7, 8] rfl)
              replace h := am_f cc h
              exact hJ24 h ls (lv_sub hl [1, 6, 7] rfl)
            replace h := am_t cc h
            refine lv_aload_n (pc := 626) hx hb dL_acts_626 rfl (lv_at hl 1 rfl) ?_
            refine lv_iload (pc := 627) hx hb dL_acts_627 (lv_at hl 6 rfl) ?_
            refine lv_iload (pc := 629) hx hb dL_acts_629 (lv_at hl 7 rfl) ?_
            obtain ⟨r44, hc44, h⟩ := am_bind_s h
            refine ow_observe (pc := 631) (aw := [(zq526, .inl (cI, 12, .inl f23)), (bg, .inl (cI, 8, .inl yg)), (bw, .inl (cI, 12, .inl yw)), (bq, .inl (cI, 60, .inl yq)), (bc, .inl (cJ, 60, .inr (.inl yc)))]) (t := t) ⟨hx, hb, hml, hown, hts⟩ hP hK hD hS hA hOW (hO _ _ _ _ _ hc44) (cwV 2 hts (gzV wl370 wl371 wl372 wl2 wl373) rfl rfl rfl ⟨rfl, hdX6_observe⟩ ⟨Nat.le_of_ble_eq_true rfl, Nat.le_of_ble_eq_true rfl⟩) [] hl.1 rfl (Nat.le_of_ble_eq_true rfl) dL_acts_631 ⟨Nat.le_of_ble_eq_true rfl, Nat.le_of_ble_eq_true rfl⟩ (fun t44 H locs hOW hP hD hS => ?_)
            replace hP : va_P D vwCl ((zq526, .inl (cI, 12, .inl f23)) :: (bg, .inl (cI, 8, .inl yg)) :: (bw, .inl (cI, 12, .inl yw)) :: (bq, .inl (cI, 60, .inl yq)) :: (bc, .inl (cJ, 60, .inr (.inl yc))) :: t44) H := hP
            replace hD : va_D A ((zq526, .inl (cI, 12, .inl f23)) :: (bg, .inl (cI, 8, .inl yg)) :: (bw, .inl (cI, 12, .inl yw)) :: (bq, .inl (cI, 60, .inl yq)) :: (bc, .inl (cJ, 60, .inr (.inl yc))) :: t44) := hD
            refine lv_ldc (pc := 634) hx hb hown hk289 dL_acts_634 ?_
            refine lv_icmp_ne (pc := 636) (tgt := 643) hx hb dL_acts_636 (by decide) (fun cc => ?_) (fun cc => ?_)
            · replace h := am_f cc h
              refine lv_iconst (v := 0) (pc := 643) hx hb dL_acts_643 (by decide) ?_
              obtain ⟨e1, e2, e3, e4, e5⟩ := am_ret5 h
              subst e2
              subst e3
              subst e4
              subst e5
              replace hP := vP_tl hP
              replace hD := vD_tl hD
              refine W.widen (k := 2) (n := 24) (by omega) (by omega) ?_
              exact hret _ _ _ _ _ _ dL_acts_644 rfl e1 ⟨_, hOW, rfl⟩ hP hD hS
            replace h := am_t cc h
            refine lv_iconst (v := 1) (pc := 639) hx hb dL_acts_639 (by decide) ?_
            refine lv_goto (pc := 640) (tgt := 644) hx hb dL_acts_640 (by decide) ?_
            obtain ⟨e1, e2, e3, e4, e5⟩ := am_ret5 h
            subst e2
            subst e3
            subst e4
            subst e5
            replace hP := vP_tl hP
            replace hD := vD_tl hD
            refine W.widen (k := 2) (n := 24) (by omega) (by omega) ?_
            exact hret _ _ _ _ _ _ dL_acts_644 rfl e1 ⟨_, hOW, rfl⟩ hP hD hS
          refine am_loop2_s (fun (x45 : Int32) (f46 : Nat → Int32) => ∀ (ls : Array Slot), lv_has ls 14 [(0, .ref bo), (1, .ref bg), (2, .ref bw), (3, .ref bq), (4, .ref bc), (8, .int j17), (9, .int x19), (10, .ref zq526), (11, .int x45)] → ∀ (H : Heap) (locs : List Loc), va_P D vwCl ((zq526, .inl (cI, 12, .inl f46)) :: (bg, .inl (cI, 8, .inl yg)) :: (bw, .inl (cI, 12, .inl yw)) :: (bq, .inl (cI, 60, .inl yq)) :: (bc, .inl (cJ, 60, .inr (.inl yc))) :: t) H → va_D A ((zq526, .inl (cI, 12, .inl f46)) :: (bg, .inl (cI, 8, .inl yg)) :: (bw, .inl (cI, 12, .inl yw)) :: (bq, .inl (cI, 60, .inl yq)) :: (bc, .inl (cJ, 60, .inr (.inl yc))) :: t) → va_S A s.heap H locs → W p l e rmL_acts s m args below meth c H locs 1 12 Q (F0 m 533 ls [])) (fun rec47 ihrec47 x45 f46 h ls hl H locs hP hD hS => ?_) _ _ _ h ls (lv_sub hl [4, 5, 6, 7, 8, 3, 2, 1, 0] rfl) H [] hP hD hS
          unfold F_L_acts_B533 at h
          refine lv_iload (pc := 533) hx hb dL_acts_533 (lv_at hl 8 rfl) ?_
          refine lv_aload_n (pc := 535) hx hb dL_acts_535 rfl (lv_at hl 1 rfl) ?_
          refine lv_iconst (v := 0) (pc := 536) hx hb dL_acts_536 (by decide) ?_
          refine va_iald (pc := 537) hx hb hK.1 hP 1 0 rfl rfl (vp_in_nI (n := 0) (N := 8) (by decide) (by decide)) dL_acts_537 ?_
          refine lv_icmp_ge (pc := 538) (tgt := 613) hx hb dL_acts_538 (by decide) (fun cc => ?_) (fun cc => ?_)
          · replace h := am_t cc h
            exact hK21 _ h ls (lv_sub hl [0, 1, 2, 3, 4, 5, 6, 7] rfl) H locs hP hD hS
          replace h := am_f cc h
          refine lv_aload_n (pc := 541) hx hb dL_acts_541 rfl (lv_at hl 1 rfl) ?_
          refine lv_aload (pc := 542) hx hb dL_acts_542 (lv_at hl 4 rfl) ?_
          refine lv_iload (pc := 544) hx hb dL_acts_544 (lv_at hl 8 rfl) ?_
          obtain ⟨r48, hc48, h⟩ := am_bind_s h
          refine kc_Si (pc := 546) ⟨hx, hb, hml, hown, hts⟩ hP hK [.ref bg, .ref bc, .int x45] (c_L_place l D cI cJ bg bc yg yc x45 r48 hc48) [1, 4] rfl (cwS 3 hts (gzS wl132 wl133 wl118 wl134) rfl rfl rfl ⟨rfl, hdL_place⟩ ⟨Nat.le_of_ble_eq_true rfl, Nat.le_of_ble_eq_true rfl⟩) [] rfl hl.1 rfl (Nat.le_of_ble_eq_true rfl) dL_acts_546 ⟨Nat.le_of_ble_eq_true rfl, Nat.le_of_ble_eq_true rfl⟩ ?_
          refine lv_iload (pc := 549) hx hb dL_acts_549 (lv_at hl 5 rfl) ?_
          refine am_join1_s (fun (j49 : Int32) => ∀ (ls : Array Slot), lv_has ls 14 [(0, .ref bo), (1, .ref bg), (2, .ref bw), (3, .ref bq), (4, .ref bc), (8, .int j17), (9, .int x19), (10, .ref zq526), (11, .int x45)] → W p l e rmL_acts s m args below meth c H locs 1 12 Q (F0 m 579 ls [.int j49])) h (fun j49 h ls hl => ?_) (fun J50 hJ50 h => ?_)
          · refine lv_istore (lv' := [(12, .int j49), (0, .ref bo), (1, .ref bg), (2, .ref bw), (3, .ref bq), (4, .ref bc), (8, .int j17), (9, .int x19), (10, .ref zq526), (11, .int x45)]) (pc := 579) hx hb dL_acts_579 hl (by decide) rfl (fun ls hl => ?_)
            refine lv_aload (pc := 581) hx hb dL_acts_581 (lv_at hl 8 rfl) ?_
            refine lv_iload (pc := 583) hx hb dL_acts_583 (lv_at hl 9 rfl) ?_
            refine lv_iload (pc := 585) hx hb dL_acts_585 (lv_at hl 0 rfl) ?_
            refine lv_iload (pc := 587) hx hb dL_acts_587 (lv_at hl 7 rfl) ?_
            refine lv_icmp_ge (pc := 589) (tgt := 605) hx hb dL_acts_589 (by decide) (fun cc => ?_) (fun cc => ?_)
            · replace h := am_t cc h
              refine lv_iconst (v := 0) (pc := 605) hx hb dL_acts_605 (by decide) ?_
              obtain ⟨hi, h⟩ := am_in_s h
              obtain ⟨f51, ef51⟩ : ∃ y : Nat → Int32, y = (upd f46 x45.toNatClampNeg (0 : Int32)) := ⟨_, rfl⟩
              replace h := am_let_s ef51 h
              refine va_iast (pc := 606) hx hb hK.1 hP hD hS 0 0 rfl rfl hi dL_acts_606 (fun H locs hP hD hS => ?_)
              rw [← ef51] at hP hD
              replace hP : va_P D vwCl ((zq526, .inl (cI, 12, .inl f51)) :: (bg, .inl (cI, 8, .inl yg)) :: (bw, .inl (cI, 12, .inl yw)) :: (bq, .inl (cI, 60, .inl yq)) :: (bc, .inl (cJ, 60, .inr (.inl yc))) :: t) H := hP
              replace hD : va_D A ((zq526, .inl (cI, 12, .inl f51)) :: (bg, .inl (cI, 8, .inl yg)) :: (bw, .inl (cI, 12, .inl yw)) :: (bq, .inl (cI, 60, .inl yq)) :: (bc, .inl (cJ, 60, .inr (.inl yc))) :: t) := hD
              obtain ⟨x52, ex52⟩ : ∃ y : Int32, y = (x45 + (1 : Int32)) := ⟨_, rfl⟩
              replace h := am_let_s ex52 h
              refine lv_iinc (pc := 607) (v := x52) (lv' := [(11, .int x52), (12, .int j49), (0, .ref bo), (1, .ref bg), (2, .ref bw), (3, .ref bq), (4, .ref bc), (8, .int j17), (9, .int x19), (10, .ref zq526)]) hx hb dL_acts_607 hl (k := 9) rfl (by rw [ex52]; rfl) (by decide) rfl (fun ls hl => ?_)
              refine lv_goto (pc := 610) (tgt := 533) hx hb dL_acts_610 (by decide) ?_
              exact ihrec47 _ _ h ls (lv_sub hl [2, 3, 4, 5, 6, 7, 8, 9, 0] rfl) H locs hP hD hS
            replace h := am_f cc h
            refine lv_iload (pc := 592) hx hb dL_acts_592 (lv_at hl 7 rfl) ?_
            refine lv_iload (pc := 594) hx hb dL_acts_594 (lv_at hl 0 rfl) ?_
            refine lv_isub (pc := 596) hx hb dL_acts_596 ?_
            refine lv_aload_n (pc := 597) hx hb dL_acts_597 rfl (lv_at hl 3 rfl) ?_
            refine lv_iload (pc := 598) hx hb dL_acts_598 (lv_at hl 9 rfl) ?_
            obtain ⟨hi, h⟩ := am_in_s h
            refine va_iald (pc := 600) hx hb hK.1 hP 2 0 rfl rfl hi dL_acts_600 ?_
            refine lv_imul (pc := 601) hx hb dL_acts_601 ?_
            refine lv_goto (pc := 602) (tgt := 606) hx hb dL_acts_602 (by decide) ?_
            obtain ⟨hi, h⟩ := am_in_s h
            obtain ⟨f53, ef53⟩ : ∃ y : Nat → Int32, y = (upd f46 x45.toNatClampNeg ((x19 - j49) * (yw x45.toNatClampNeg))) := ⟨_, rfl⟩
            replace h := am_let_s ef53 h
            refine va_iast (pc := 606) hx hb hK.1 hP hD hS 0 0 rfl rfl hi dL_acts_606 (fun H locs hP hD hS => ?_)
            rw [← ef53] at hP hD
            replace hP : va_P D vwCl ((zq526, .inl (cI, 12, .inl f53)) :: (bg, .inl (cI, 8, .inl yg)) :: (bw, .inl (cI, 12, .inl yw)) :: (bq, .inl (cI, 60, .inl yq)) :: (bc, .inl (cJ, 60, .inr (.inl yc))) :: t) H := hP
            replace hD : va_D A ((zq526, .inl (cI, 12, .inl f53)) :: (bg, .inl (cI, 8, .inl yg)) :: (bw, .inl (cI, 12, .inl yw)) :: (bq, .inl (cI, 60, .inl yq)) :: (bc, .inl (cJ, 60, .inr (.inl yc))) :: t) := hD
            obtain ⟨x54, ex54⟩ : ∃ y : Int32, y = (x45 + (1 : Int32)) := ⟨_, rfl⟩
            replace h := am_let_s ex54 h
            refine lv_iinc (pc := 607) (v := x54) (lv' := [(11, .int x54), (12, .int j49), (0, .ref bo), (1, .ref bg), (2, .ref bw), (3, .ref bq), (4, .ref bc), (8, .int j17), (9, .int x19), (10, .ref zq526)]) hx hb dL_acts_607 hl (k := 9) rfl (by rw [ex54]; rfl) (by decide) rfl (fun ls hl => ?_)
            refine lv_goto (pc := 610) (tgt := 533) hx hb dL_acts_610 (by decide) ?_
            exact ihrec47 _ _ h ls (lv_sub hl [2, 3, 4, 5, 6, 7, 8, 9, 0] rfl) H locs hP hD hS
          refine lv_icmp_ge (pc := 551) (tgt := 568) hx hb dL_acts_551 (by decide) (fun cc => ?_) (fun cc => ?_)
          · replace h := am_t cc h
            refine lv_aload_n (pc := 568) hx hb dL_acts_568 rfl (lv_at hl 1 rfl) ?_
            refine lv_aload (pc := 569) hx hb dL_acts_569 (lv_at hl 4 rfl) ?_
            refine lv_iload (pc := 571) hx hb dL_acts_571 (lv_at hl 8 rfl) ?_
            obtain ⟨r55, hc55, h⟩ := am_bind_s h
            refine kc_Si (pc := 573) ⟨hx, hb, hml, hown, hts⟩ hP hK [.ref bg, .ref bc, .int x45] (c_L_place l D cI cJ bg bc yg yc x45 r55 hc55) [1, 4] rfl (cwS 3 hts (gzS wl132 wl133 wl118 wl134) rfl rfl rfl ⟨rfl, hdL_place⟩ ⟨Nat.le_of_ble_eq_true rfl, Nat.le_of_ble_eq_true rfl⟩) [] rfl hl.1 rfl (Nat.le_of_ble_eq_true rfl) dL_acts_573 ⟨Nat.le_of_ble_eq_true rfl, Nat.le_of_ble_eq_true rfl⟩ ?_
            refine lv_iload (pc := 576) hx hb dL_acts_576 (lv_at hl 5 rfl) ?_
            refine lv_isub (pc := 578) hx hb dL_acts_578 ?_
            exact hJ50 _ h ls (lv_sub hl [0, 1, 2, 3, 4, 5, 6, 7, 8] rfl)
          replace h := am_f cc h
          refine lv_iload (pc := 554) hx hb dL_acts_554 (lv_at hl 5 rfl) ?_
          refine lv_aload_n (pc := 556) hx hb dL_acts_556 rfl (lv_at hl 1 rfl) ?_
          refine lv_aload (pc := 557) hx hb dL_acts_557 (lv_at hl 4 rfl) ?_
          refine lv_iload (pc := 559) hx hb dL_acts_559 (lv_at hl 8 rfl) ?_
          obtain ⟨r56, hc56, h⟩ := am_bind_s h
          refine kc_Si (pc := 561) ⟨hx, hb, hml, hown, hts⟩ hP hK [.ref bg, .ref bc, .int x45] (c_L_place l D cI cJ bg bc yg yc x45 r56 hc56) [1, 4] rfl (cwS 3 hts (gzS wl132 wl133 wl118 wl134) rfl rfl rfl ⟨rfl, hdL_place⟩ ⟨Nat.le_of_ble_eq_true rfl, Nat.le_of_ble_eq_true rfl⟩) [.int j17] rfl hl.1 rfl (Nat.le_of_ble_eq_true rfl) dL_acts_561 ⟨Nat.le_of_ble_eq_true rfl, Nat.le_of_ble_eq_true rfl⟩ ?_
          refine lv_isub (pc := 564) hx hb dL_acts_564 ?_
          refine lv_goto (pc := 565) (tgt := 579) hx hb dL_acts_565 (by decide) ?_
          exact hJ50 _ h ls (lv_sub hl [0, 1, 2, 3, 4, 5, 6, 7, 8] rfl)
        refine lv_if_ne (pc := 483) (tgt := 496) hx hb dL_acts_483 (by decide) (fun cc => ?_) (fun cc => ?_)
        · replace h := am_f cc h
          refine lv_aload_n (pc := 496) hx hb dL_acts_496 rfl (lv_at hl 1 rfl) ?_
          refine lv_aload (pc := 497) hx hb dL_acts_497 (lv_at hl 4 rfl) ?_
          refine lv_iload (pc := 499) hx hb dL_acts_499 (lv_at hl 5 rfl) ?_
          refine lv_iconst (v := 4) (pc := 501) hx hb dL_acts_501 (by decide) ?_
          refine lv_idiv (pc := 502) hx hb dL_acts_502 (by decide) ?_
          refine lv_aload_n (pc := 503) hx hb dL_acts_503 rfl (lv_at hl 1 rfl) ?_
          refine lv_iconst (v := 0) (pc := 504) hx hb dL_acts_504 (by decide) ?_
          refine va_iald (pc := 505) hx hb hK.1 hP 0 0 rfl rfl (vp_in_nI (n := 0) (N := 8) (by decide) (by decide)) dL_acts_505 ?_
          obtain ⟨hz, h⟩ := am_nz_s h
          refine lv_irem (pc := 506) hx hb dL_acts_506 hz ?_
          obtain ⟨r57, hc57, h⟩ := am_bind_s h
          refine kc_Si (pc := 507) ⟨hx, hb, hml, hown, hts⟩ hP hK [.ref bg, .ref bc, .int ((r1 / (4 : Int32)) - (r1 / (4 : Int32)) / (yg (0 : Int32).toNatClampNeg) * (yg (0 : Int32).toNatClampNeg))] (c_L_place l D cI cJ bg bc yg yc ((r1 / (4 : Int32)) - (r1 / (4 : Int32)) / (yg (0 : Int32).toNatClampNeg) * (yg (0 : Int32).toNatClampNeg)) r57 hc57) [0, 3] rfl (cwS 3 hts (gzS wl132 wl133 wl118 wl134) rfl rfl rfl ⟨rfl, hdL_place⟩ ⟨Nat.le_of_ble_eq_true rfl, Nat.le_of_ble_eq_true rfl⟩) [] rfl hl.1 rfl (Nat.le_of_ble_eq_true rfl) dL_acts_507 ⟨Nat.zero_le _, Nat.zero_le _⟩ ?_
          exact hJ18 _ h ls (lv_sub hl [0, 1, 2, 3, 4, 5] rfl)
        replace h := am_t cc h
        refine lv_iload (pc := 486) hx hb dL_acts_486 (lv_at hl 5 rfl) ?_
        refine lv_iconst (v := 4) (pc := 488) hx hb dL_acts_488 (by decide) ?_
        refine lv_idiv (pc := 489) hx hb dL_acts_489 (by decide) ?_
        refine lv_bipush (v := 100) (pc := 490) hx hb dL_acts_490 (by decide) ?_
        refine lv_irem (pc := 492) hx hb dL_acts_492 (by decide) ?_
        refine lv_goto (pc := 493) (tgt := 510) hx hb dL_acts_493 (by decide) ?_
        exact hJ18 _ h ls (lv_sub hl [0, 1, 2, 3, 4, 5] rfl)
      replace h := am_f cc h
      refine lv_iload (pc := 248) hx hb dL_acts_248 (lv_at hl 5 rfl) ?_
      refine lv_sipush (v := 199) (pc := 250) hx hb dL_acts_250 (by decide) ?_
      refine lv_irem (pc := 253) hx hb dL_acts_253 (by decide) ?_
      refine lv_bipush (v := 99) (pc := 254) hx hb dL_acts_254 (by decide) ?_
      refine lv_isub (pc := 256) hx hb dL_acts_256 ?_
      refine lv_topi (fun x58 ex58 => ?_)
      replace h := am_let_s ex58 h
      refine lv_istore (lv' := [(8, .int x58), (0, .ref bo), (1, .ref bg), (2, .ref bw), (3, .ref bq), (4, .ref bc), (6, .int r1), (7, .int r2)]) (pc := 257) hx hb dL_acts_257 hl (by decide) rfl (fun ls hl => ?_)
      refine lv_iload (pc := 259) hx hb dL_acts_259 (lv_at hl 6 rfl) ?_
      refine lv_iconst (v := 3) (pc := 261) hx hb dL_acts_261 (by decide) ?_
      refine lv_irem (pc := 262) hx hb dL_acts_262 (by decide) ?_
      refine am_join1_s (fun (j59 : Int32) => ∀ (ls : Array Slot), lv_has ls 14 [(0, .ref bo), (1, .ref bg), (3, .ref bq), (4, .ref bc), (6, .int r1)] → W p l e rmL_acts s m args below meth c s.heap [] 0 0 Q (F0 m 276 ls [.int j59])) h (fun j59 h ls hl => ?_) (fun J60 hJ60 h => ?_)
      · refine lv_istore (lv' := [(8, .int j59), (0, .ref bo), (1, .ref bg), (3, .ref bq), (4, .ref bc), (6, .int r1)]) (pc := 276) hx hb dL_acts_276 hl (by decide) rfl (fun ls hl => ?_)
        refine lv_iload (pc := 278) hx hb dL_acts_278 (lv_at hl 5 rfl) ?_
        refine lv_sipush (v := 199) (pc := 280) hx hb dL_acts_280 (by decide) ?_
        refine lv_idiv (pc := 283) hx hb dL_acts_283 (by decide) ?_
        refine lv_iload (pc := 284) hx hb dL_acts_284 (lv_at hl 5 rfl) ?_
        refine lv_iconst (v := 5) (pc := 286) hx hb dL_acts_286 (by decide) ?_
        refine lv_irem (pc := 287) hx hb dL_acts_287 (by decide) ?_
        refine am_join1_s (fun (j61 : Int32) => ∀ (ls : Array Slot), lv_has ls 14 [(0, .ref bo), (1, .ref bg), (3, .ref bq), (4, .ref bc), (8, .int j59)] → W p l e rmL_acts s m args below meth c s.heap [] 0 0 Q (F0 m 298 ls [.int j61, .int (r1 / (199 : Int32))])) h (fun j61 h ls hl => ?_) (fun J62 hJ62 h => ?_)
        · obtain ⟨hz, h⟩ := am_nz_s h
          refine lv_irem (pc := 298) hx hb dL_acts_298 hz ?_
          refine lv_topi (fun x63 ex63 => ?_)
          replace h := am_let_s ex63 h
          refine lv_istore (lv' := [(9, .int x63), (0, .ref bo), (1, .ref bg), (3, .ref bq), (4, .ref bc), (8, .int j59)]) (pc := 299) hx hb dL_acts_299 hl (by decide) rfl (fun ls hl => ?_)
          refine lv_aload_n (pc := 301) hx hb dL_acts_301 rfl (lv_at hl 2 rfl) ?_
          refine lv_iconst (v := 1) (pc := 302) hx hb dL_acts_302 (by decide) ?_
          refine va_iald (pc := 303) hx hb hK.1 hP 0 0 rfl rfl (vp_in_nI (n := 1) (N := 8) (by decide) (by decide)) dL_acts_303 ?_
          refine lv_bipush (v := 20) (pc := 304) hx hb dL_acts_304 (by decide) ?_
          refine lv_icmp_ne (pc := 306) (tgt := 328) hx hb dL_acts_306 (by decide) (fun cc => ?_) (fun cc => ?_)
          · replace h := am_f cc h
            refine lv_aload_n (pc := 328) hx hb dL_acts_328 rfl (lv_at hl 2 rfl) ?_
            refine lv_iconst (v := 1) (pc := 329) hx hb dL_acts_329 (by decide) ?_
            refine va_iald (pc := 330) hx hb hK.1 hP 0 0 rfl rfl (vp_in_nI (n := 1) (N := 8) (by decide) (by decide)) dL_acts_330 ?_
            refine lv_topi (fun x64 ex64 => ?_)
            replace h := am_let_s ex64 h
            refine lv_istore (lv' := [(10, .int x64), (9, .int x63), (0, .ref bo), (1, .ref bg), (3, .ref bq), (4, .ref bc), (8, .int j59)]) (pc := 331) hx hb dL_acts_331 hl (by decide) rfl (fun ls hl => ?_)
            refine lv_iconst (v := 0) (pc := 333) hx hb dL_acts_333 (by decide) ?_
            refine lv_istore (lv' := [(11, .int (0 : Int32)), (10, .int x64), (9, .int x63), (0, .ref bo), (1, .ref bg), (3, .ref bq), (4, .ref bc), (8, .int j59)]) (pc := 334) hx hb dL_acts_334 hl (by decide) rfl (fun ls hl => ?_)
            refine am_join2_s (fun (f65 : Nat → Int32) (f66 : Nat → Int64) => ∀ (ls : Array Slot), lv_has ls 14 [(0, .ref bo), (1, .ref bg), (3, .ref bq), (8, .int j59), (9, .int x63), (10, .int x64)] → ∀ (H : Heap) (locs : List Loc), va_P D vwCl ((bg, .inl (cI, 8, .inl f65)) :: (bw, .inl (cI, 12, .inl yw)) :: (bq, .inl (cI, 60, .inl yq)) :: (bc, .inl (cJ, 60, .inr (.inl f66))) :: t) H → va_D A ((bg, .inl (cI, 8, .inl f65)) :: (bw, .inl (cI, 12, .inl yw)) :: (bq, .inl (cI, 60, .inl yq)) :: (bc, .inl (cJ, 60, .inr (.inl f66))) :: t) → va_S A s.heap H locs → W p l e rmL_acts s m args below meth c H locs 0 0 Q (F0 m 419 ls [])) h (fun f65 f66 h ls hl H locs hP hD hS => ?_) (fun K67 hK67 h => ?_)
            · refine lv_aload_n (pc := 419) hx hb dL_acts_419 rfl (lv_at hl 2 rfl) ?_
              refine lv_iconst (v := 3) (pc := 420) hx hb dL_acts_420 (by decide) ?_
              refine lv_iload (pc := 421) hx hb dL_acts_421 (lv_at hl 5 rfl) ?_
              refine lv_imul (pc := 423) hx hb dL_acts_423 ?_
              refine lv_iconst (v := 1) (pc := 424) hx hb dL_acts_424 (by decide) ?_
              obtain ⟨hi, h⟩ := am_in_s h
              obtain ⟨f68, ef68⟩ : ∃ y : Nat → Int32, y = (upd yq ((3 : Int32) * x64).toNatClampNeg (1 : Int32)) := ⟨_, rfl⟩
              replace h := am_let_s ef68 h
              refine va_iast (pc := 425) hx hb hK.1 hP hD hS 2 0 rfl rfl hi dL_acts_425 (fun H locs hP hD hS => ?_)
              rw [← ef68] at hP hD
              replace hP : va_P D vwCl ((bg, .inl (cI, 8, .inl f65)) :: (bw, .inl (cI, 12, .inl yw)) :: (bq, .inl (cI, 60, .inl f68)) :: (bc, .inl (cJ, 60, .inr (.inl f66))) :: t) H := hP
              replace hD : va_D A ((bg, .inl (cI, 8, .inl f65)) :: (bw, .inl (cI, 12, .inl yw)) :: (bq, .inl (cI, 60, .inl f68)) :: (bc, .inl (cJ, 60, .inr (.inl f66))) :: t) := hD
              refine lv_aload_n (pc := 426) hx hb dL_acts_426 rfl (lv_at hl 2 rfl) ?_
              refine lv_iconst (v := 3) (pc := 427) hx hb dL_acts_427 (by decide) ?_
              refine lv_iload (pc := 428) hx hb dL_acts_428 (lv_at hl 5 rfl) ?_
              refine lv_imul (pc := 430) hx hb dL_acts_430 ?_
              refine lv_iconst (v := 1) (pc := 431) hx hb dL_acts_431 (by decide) ?_
              refine lv_iadd (pc := 432) hx hb dL_acts_432 ?_
              refine lv_iload (pc := 433) hx hb dL_acts_433 (lv_at hl 3 rfl) ?_
              obtain ⟨hi, h⟩ := am_in_s h
              obtain ⟨f69, ef69⟩ : ∃ y : Nat → Int32, y = (upd f68 (((3 : Int32) * x64) + (1 : Int32)).toNatClampNeg j59) := ⟨_, rfl⟩
              replace h := am_let_s ef69 h
              refine va_iast (pc := 435) hx hb hK.1 hP hD hS 2 0 rfl rfl hi dL_acts_435 (fun H locs hP hD hS => ?_)
              rw [← ef69] at hP hD
              replace hP : va_P D vwCl ((bg, .inl (cI, 8, .inl f65)) :: (bw, .inl (cI, 12, .inl yw)) :: (bq, .inl (cI, 60, .inl f69)) :: (bc, .inl (cJ, 60, .inr (.inl f66))) :: t) H := hP
              replace hD : va_D A ((bg, .inl (cI, 8, .inl f65)) :: (bw, .inl (cI, 12, .inl yw)) :: (bq, .inl (cI, 60, .inl f69)) :: (bc, .inl (cJ, 60, .inr (.inl f66))) :: t) := hD
              refine lv_aload_n (pc := 436) hx hb dL_acts_436 rfl (lv_at hl 2 rfl) ?_
              refine lv_iconst (v := 3) (pc := 437) hx hb dL_acts_437 (by decide) ?_
              refine lv_iload (pc := 438) hx hb dL_acts_438 (lv_at hl 5 rfl) ?_
              refine lv_imul (pc := 440) hx hb dL_acts_440 ?_
              refine lv_iconst (v := 2) (pc := 441) hx hb dL_acts_441 (by decide) ?_
              refine lv_iadd (pc := 442) hx hb dL_acts_442 ?_
              refine lv_iload (pc := 443) hx hb dL_acts_443 (lv_at hl 4 rfl) ?_
              obtain ⟨hi, h⟩ := am_in_s h
              obtain ⟨f70, ef70⟩ : ∃ y : Nat → Int32, y = (upd f69 (((3 : Int32) * x64) + (2 : Int32)).toNatClampNeg x63) := ⟨_, rfl⟩
              replace h := am_let_s ef70 h
              refine va_iast (pc := 445) hx hb hK.1 hP hD hS 2 0 rfl rfl hi dL_acts_445 (fun H locs hP hD hS => ?_)
              rw [← ef70] at hP hD
              replace hP : va_P D vwCl ((bg, .inl (cI, 8, .inl f65)) :: (bw, .inl (cI, 12, .inl yw)) :: (bq, .inl (cI, 60, .inl f70)) :: (bc, .inl (cJ, 60, .inr (.inl f66))) :: t) H := hP
              replace hD : va_D A ((bg, .inl (cI, 8, .inl f65)) :: (bw, .inl (cI, 12, .inl yw)) :: (bq, .inl (cI, 60, .inl f70)) :: (bc, .inl (cJ, 60, .inr (.inl f66))) :: t) := hD
              refine lv_aload_n (pc := 446) hx hb dL_acts_446 rfl (lv_at hl 1 rfl) ?_
              refine lv_iconst (v := 1) (pc := 447) hx hb dL_acts_447 (by decide) ?_
              refine lv_dup2_11 (pc := 448) hx hb dL_acts_448 rfl rfl ?_
              refine va_iald (pc := 449) hx hb hK.1 hP 0 0 rfl rfl (vp_in_nI (n := 1) (N := 8) (by decide) (by decide)) dL_acts_449 ?_
              refine lv_iconst (v := 1) (pc := 450) hx hb dL_acts_450 (by decide) ?_
              refine lv_iadd (pc := 451) hx hb dL_acts_451 ?_
              obtain ⟨f71, ef71⟩ : ∃ y : Nat → Int32, y = (upd f65 (1 : Int32).toNatClampNeg ((f65 (1 : Int32).toNatClampNeg) + (1 : Int32))) := ⟨_, rfl⟩
              replace h := am_let_s ef71 h
              refine va_iast (pc := 452) hx hb hK.1 hP hD hS 0 0 rfl rfl (vp_in_nI (n := 1) (N := 8) (by decide) (by decide)) dL_acts_452 (fun H locs hP hD hS => ?_)
              rw [← ef71] at hP hD
              replace hP : va_P D vwCl ((bg, .inl (cI, 8, .inl f71)) :: (bw, .inl (cI, 12, .inl yw)) :: (bq, .inl (cI, 60, .inl f70)) :: (bc, .inl (cJ, 60, .inr (.inl f66))) :: t) H := hP
              replace hD : va_D A ((bg, .inl (cI, 8, .inl f71)) :: (bw, .inl (cI, 12, .inl yw)) :: (bq, .inl (cI, 60, .inl f70)) :: (bc, .inl (cJ, 60, .inr (.inl f66))) :: t) := hD
              refine lv_aload_n (pc := 453) hx hb dL_acts_453 rfl (lv_at hl 0 rfl) ?_
              refine lv_iload (pc := 454) hx hb dL_acts_454 (lv_at hl 3 rfl) ?_
              refine lv_iload (pc := 456) hx hb dL_acts_456 (lv_at hl 4 rfl) ?_
              obtain ⟨r72, hc72, h⟩ := am_bind_s h
              refine ow_move (pc := 458) (aw := [(bg, .inl (cI, 8, .inl f71)), (bw, .inl (cI, 12, .inl yw)), (bq, .inl (cI, 60, .inl f70)), (bc, .inl (cJ, 60, .inr (.inl f66)))]) (t := t) ⟨hx, hb, hml, hown, hts⟩ hP hK hD hS hA hOW (hO _ _ _ _ _ hc72) (cwV 2 hts (gzV wl346 wl347 wl348 wl2 wl349) rfl rfl rfl ⟨rfl, hdX6_move⟩ ⟨Nat.le_of_ble_eq_true rfl, Nat.le_of_ble_eq_true rfl⟩) [] hl.1 rfl (Nat.le_of_ble_eq_true rfl) dL_acts_458 ⟨Nat.zero_le _, Nat.zero_le _⟩ (fun t72 H locs hOW hP hD hS => ?_)
              replace hP : va_P D vwCl ((bg, .inl (cI, 8, .inl f71)) :: (bw, .inl (cI, 12, .inl yw)) :: (bq, .inl (cI, 60, .inl f70)) :: (bc, .inl (cJ, 60, .inr (.inl f66))) :: t72) H := hP
              replace hD : va_D A ((bg, .inl (cI, 8, .inl f71)) :: (bw, .inl (cI, 12, .inl yw)) :: (bq, .inl (cI, 60, .inl f70)) :: (bc, .inl (cJ, 60, .inr (.inl f66))) :: t72) := hD
              refine lv_iload (pc := 461) hx hb dL_acts_461 (lv_at hl 5 rfl) ?_
              refine lv_icmp_ne (pc := 463) (tgt := 470) hx hb dL_acts_463 (by decide) (fun cc => ?_) (fun cc => ?_)
              · replace h := am_f cc h
                refine lv_iconst (v := 0) (pc := 470) hx hb dL_acts_470 (by decide) ?_
                obtain ⟨e1, e2, e3, e4, e5⟩ := am_ret5 h
                subst e2
                subst e3
                subst e4
                subst e5
                refine W.widen (k := 2) (n := 24) (by omega) (by omega) ?_
                exact hret _ _ _ _ _ _ dL_acts_471 rfl e1 ⟨_, hOW, rfl⟩ hP hD hS
              replace h := am_t cc h
              refine lv_iconst (v := 1) (pc := 466) hx hb dL_acts_466 (by decide) ?_
              refine lv_goto (pc := 467) (tgt := 471) hx hb dL_acts_467 (by decide) ?_
              obtain ⟨e1, e2, e3, e4, e5⟩ := am_ret5 h
              subst e2
              subst e3
              subst e4
              subst e5
              refine W.widen (k := 2) (n := 24) (by omega) (by omega) ?_
              exact hret _ _ _ _ _ _ dL_acts_471 rfl e1 ⟨_, hOW, rfl⟩ hP hD hS
            refine am_loop3_s (fun (x73 : Int32) (f74 : Nat → Int32) (f75 : Nat → Int64) => ∀ (ls : Array Slot), lv_has ls 14 [(0, .ref bo), (1, .ref bg), (3, .ref bq), (4, .ref bc), (8, .int j59), (9, .int x63), (10, .int x64), (11, .int x73)] → ∀ (H : Heap) (locs : List Loc), va_P D vwCl ((bg, .inl (cI, 8, .inl f74)) :: (bw, .inl (cI, 12, .inl yw)) :: (bq, .inl (cI, 60, .inl yq)) :: (bc, .inl (cJ, 60, .inr (.inl f75))) :: t) H → va_D A ((bg, .inl (cI, 8, .inl f74)) :: (bw, .inl (cI, 12, .inl yw)) :: (bq, .inl (cI, 60, .inl yq)) :: (bc, .inl (cJ, 60, .inr (.inl f75))) :: t) → va_S A s.heap H locs → W p l e rmL_acts s m args below meth c H locs 0 0 Q (F0 m 336 ls [])) (fun rec76 ihrec76 x73 f74 f75 h ls hl H locs hP hD hS => ?_) _ _ _ _ h ls (lv_sub hl [3, 4, 5, 6, 7, 2, 1, 0] rfl) s.heap [] hP hD hS
            unfold F_L_acts_B336 at h
            refine lv_iload (pc := 336) hx hb dL_acts_336 (lv_at hl 7 rfl) ?_
            refine lv_aload_n (pc := 338) hx hb dL_acts_338 rfl (lv_at hl 1 rfl) ?_
            refine lv_iconst (v := 0) (pc := 339) hx hb dL_acts_339 (by decide) ?_
            refine va_iald (pc := 340) hx hb hK.1 hP 0 0 rfl rfl (vp_in_nI (n := 0) (N := 8) (by decide) (by decide)) dL_acts_340 ?_
            refine lv_icmp_ge (pc := 341) (tgt := 419) hx hb dL_acts_341 (by decide) (fun cc => ?_) (fun cc => ?_)
            · replace h := am_t cc h
              exact hK67 _ _ h ls (lv_sub hl [0, 1, 2, 4, 5, 6] rfl) H locs hP hD hS
            replace h := am_f cc h
            refine lv_aload (pc := 344) hx hb dL_acts_344 (lv_at hl 3 rfl) ?_
            refine lv_iload (pc := 346) hx hb dL_acts_346 (lv_at hl 6 rfl) ?_
            refine lv_iconst (v := 1) (pc := 348) hx hb dL_acts_348 (by decide) ?_
            refine lv_isub (pc := 349) hx hb dL_acts_349 ?_
            refine lv_iload (pc := 350) hx hb dL_acts_350 (lv_at hl 7 rfl) ?_
            obtain ⟨r77, hc77, h⟩ := am_bind_s h
            refine kc_Si (pc := 352) ⟨hx, hb, hml, hown, hts⟩ hP hK [.ref bc, .int (x64 - (1 : Int32)), .int x73] (c_L_of l D cI cJ bc f75 (x64 - (1 : Int32)) x73 r77 hc77) [3] rfl (cwS 3 hts (gzS wl135 wl136 wl118 wl137) rfl rfl rfl ⟨rfl, hdL_of⟩ ⟨Nat.le_of_ble_eq_true rfl, Nat.le_of_ble_eq_true rfl⟩) [] rfl hl.1 rfl (Nat.le_of_ble_eq_true rfl) dL_acts_352 ⟨Nat.zero_le _, Nat.zero_le _⟩ ?_
            refine lv_sipush (v := 256) (pc := 355) hx hb dL_acts_355 (by decide) ?_
            refine lv_irem (pc := 358) hx hb dL_acts_358 (by decide) ?_
            refine lv_iload (pc := 359) hx hb dL_acts_359 (lv_at hl 4 rfl) ?_
            refine lv_iadd (pc := 361) hx hb dL_acts_361 ?_
            refine lv_iload (pc := 362) hx hb dL_acts_362 (lv_at hl 5 rfl) ?_
            refine lv_isub (pc := 364) hx hb dL_acts_364 ?_
            refine lv_aload_n (pc := 365) hx hb dL_acts_365 rfl (lv_at hl 1 rfl) ?_
            obtain ⟨r78, f79, hc79, h⟩ := am_call2_s h
            refine kc_SWi (pc := 366) ⟨hx, hb, hml, hown, hts⟩ hP hK hD hS hA [.ref bg] (c_L_noise l D cI cJ bg f74 r78 f79 hc79 _) [0] rfl rfl rfl (cwS 1 hts (gzS wl366 wl367 wl118 wl368) rfl rfl rfl ⟨rfl, hdL_noise⟩ ⟨Nat.le_of_ble_eq_true rfl, Nat.le_of_ble_eq_true rfl⟩) [.int (((r77 - r77 / (256 : Int32) * (256 : Int32)) + j59) - x63)] rfl hl.1 rfl (Nat.le_of_ble_eq_true rfl) dL_acts_366 ⟨Nat.zero_le _, Nat.zero_le _⟩ (fun H locs hP hD hS => ?_)
            replace hP : va_P D vwCl ((bg, .inl (cI, 8, .inl f79)) :: (bw, .inl (cI, 12, .inl yw)) :: (bq, .inl (cI, 60, .inl yq)) :: (bc, .inl (cJ, 60, .inr (.inl f75))) :: t) H := kSet_P (aw := [(bg, .inl (cI, 8, .inl f74)), (bw, .inl (cI, 12, .inl yw)), (bq, .inl (cI, 60, .inl yq)), (bc, .inl (cJ, 60, .inr (.inl f75)))]) (t := t) (isC := [0]) (w1 := [(bg, .inl (cI, 8, .inl f79))]) hP rfl
            replace hD : va_D A ((bg, .inl (cI, 8, .inl f79)) :: (bw, .inl (cI, 12, .inl yw)) :: (bq, .inl (cI, 60, .inl yq)) :: (bc, .inl (cJ, 60, .inr (.inl f75))) :: t) := kSet_D (aw := [(bg, .inl (cI, 8, .inl f74)), (bw, .inl (cI, 12, .inl yw)), (bq, .inl (cI, 60, .inl yq)), (bc, .inl (cJ, 60, .inr (.inl f75)))]) (t := t) (isC := [0]) (w1 := [(bg, .inl (cI, 8, .inl f79))]) hD rfl
            refine lv_iconst (v := 1) (pc := 369) hx hb dL_acts_369 (by decide) ?_
            refine lv_iconst (v := 2) (pc := 370) hx hb dL_acts_370 (by decide) ?_
            refine lv_iload (pc := 371) hx hb dL_acts_371 (lv_at hl 5 rfl) ?_
            refine lv_imul (pc := 373) hx hb dL_acts_373 ?_
            refine lv_iadd (pc := 374) hx hb dL_acts_374 ?_
            obtain ⟨hz, h⟩ := am_nz_s h
            refine lv_irem (pc := 375) hx hb dL_acts_375 hz ?_
            refine lv_iadd (pc := 376) hx hb dL_acts_376 ?_
            refine lv_topi (fun x80 ex80 => ?_)
            replace h := am_let_s ex80 h
            refine lv_istore (lv' := [(12, .int x80), (0, .ref bo), (1, .ref bg), (3, .ref bq), (4, .ref bc), (8, .int j59), (9, .int x63), (10, .int x64), (11, .int x73)]) (pc := 377) hx hb dL_acts_377 hl (by decide) rfl (fun ls hl => ?_)
            refine lv_aload (pc := 379) hx hb dL_acts_379 (lv_at hl 4 rfl) ?_
            refine lv_iload (pc := 381) hx hb dL_acts_381 (lv_at hl 7 rfl) ?_
            refine lv_iload (pc := 383) hx hb dL_acts_383 (lv_at hl 8 rfl) ?_
            refine lv_iload (pc := 385) hx hb dL_acts_385 (lv_at hl 0 rfl) ?_
            refine lv_if_ge (pc := 387) (tgt := 394) hx hb dL_acts_387 (by decide) (fun cc => ?_) (fun cc => ?_)
            · replace h := am_t cc h
              refine lv_iload (pc := 394) hx hb dL_acts_394 (lv_at hl 0 rfl) ?_
              refine lv_bipush (v := 99) (pc := 396) hx hb dL_acts_396 (by decide) ?_
              refine lv_icmp_le (pc := 398) (tgt := 406) hx hb dL_acts_398 (by decide) (fun cc => ?_) (fun cc => ?_)
              · replace h := am_t cc h
                refine lv_iload (pc := 406) hx hb dL_acts_406 (lv_at hl 0 rfl) ?_
                refine lv_iload (pc := 408) hx hb dL_acts_408 (lv_at hl 8 rfl) ?_
                obtain ⟨f81, hc81, h⟩ := am_bind_s h
                refine kc_SWv (pc := 410) ⟨hx, hb, hml, hown, hts⟩ hP hK hD hS hA [.ref bc, .int x64, .int x73, .int x80, .int x73] (c_L_put l D cI cJ bc f75 x64 x73 x80 x73 f81 hc81 _) [3] rfl rfl rfl (cwS 5 hts (gzS wl120 wl121 wl118 wl122) rfl rfl rfl ⟨rfl, hdL_put⟩ ⟨Nat.le_of_ble_eq_true rfl, Nat.le_of_ble_eq_true rfl⟩) [] rfl hl.1 rfl (Nat.le_of_ble_eq_true rfl) dL_acts_410 ⟨Nat.zero_le _, Nat.zero_le _⟩ (fun H locs hP hD hS => ?_)
                replace hP : va_P D vwCl ((bg, .inl (cI, 8, .inl f79)) :: (bw, .inl (cI, 12, .inl yw)) :: (bq, .inl (cI, 60, .inl yq)) :: (bc, .inl (cJ, 60, .inr (.inl f81))) :: t) H := kSet_P (aw := [(bg, .inl (cI, 8, .inl f79)), (bw, .inl (cI, 12, .inl yw)), (bq, .inl (cI, 60, .inl yq)), (bc, .inl (cJ, 60, .inr (.inl f75)))]) (t := t) (isC := [3]) (w1 := [(bc, .inl (cJ, 60, .inr (.inl f81)))]) hP rfl
                replace hD : va_D A ((bg, .inl (cI, 8, .inl f79)) :: (bw, .inl (cI, 12, .inl yw)) :: (bq, .inl (cI, 60, .inl yq)) :: (bc, .inl (cJ, 60, .inr (.inl f81))) :: t) := kSet_D (aw := [(bg, .inl (cI, 8, .inl f79)), (bw, .inl (cI, 12, .inl yw)), (bq, .inl (cI, 60, .inl yq)), (bc, .inl (cJ, 60, .inr (.inl f75)))]) (t := t) (isC := [3]) (w1 := [(bc, .inl (cJ, 60, .inr (.inl f81)))]) hD rfl
                obtain ⟨x82, ex82⟩ : ∃ y : Int32, y = (x73 + (1 : Int32)) := ⟨_, rfl⟩
                replace h := am_let_s ex82 h
                refine lv_iinc (pc := 413) (v := x82) (lv' := [(11, .int x82), (12, .int x80), (0, .ref bo), (1, .ref bg), (3, .ref bq), (4, .ref bc), (8, .int j59), (9, .int x63), (10, .int x64)]) hx hb dL_acts_413 hl (k := 8) rfl (by rw [ex82]; rfl) (by decide) rfl (fun ls hl => ?_)
                refine lv_goto (pc := 416) (tgt := 336) hx hb dL_acts_416 (by decide) ?_
                exact ihrec76 _ _ _ h ls (lv_sub hl [2, 3, 4, 5, 6, 7, 8, 0] rfl) H locs hP hD hS
              replace h := am_f cc h
              refine lv_bipush (v := 99) (pc := 401) hx hb dL_acts_401 (by decide) ?_
              refine lv_goto (pc := 403) (tgt := 408) hx hb dL_acts_403 (by decide) ?_
              refine lv_iload (pc := 408) hx hb dL_acts_408 (lv_at hl 8 rfl) ?_
              obtain ⟨f83, hc83, h⟩ := am_bind_s h
              refine kc_SWv (pc := 410) ⟨hx, hb, hml, hown, hts⟩ hP hK hD hS hA [.ref bc, .int x64, .int x73, .int (99 : Int32), .int x73] (c_L_put l D cI cJ bc f75 x64 x73 (99 : Int32) x73 f83 hc83 _) [3] rfl rfl rfl (cwS 5 hts (gzS wl120 wl121 wl118 wl122) rfl rfl rfl ⟨rfl, hdL_put⟩ ⟨Nat.le_of_ble_eq_true rfl, Nat.le_of_ble_eq_true rfl⟩) [] rfl hl.1 rfl (Nat.le_of_ble_eq_true rfl) dL_acts_410 ⟨Nat.zero_le _, Nat.zero_le _⟩ (fun H locs hP hD hS => ?_)
              replace hP : va_P D vwCl ((bg, .inl (cI, 8, .inl f79)) :: (bw, .inl (cI, 12, .inl yw)) :: (bq, .inl (cI, 60, .inl yq)) :: (bc, .inl (cJ, 60, .inr (.inl f83))) :: t) H := kSet_P (aw := [(bg, .inl (cI, 8, .inl f79)), (bw, .inl (cI, 12, .inl yw)), (bq, .inl (cI, 60, .inl yq)), (bc, .inl (cJ, 60, .inr (.inl f75)))]) (t := t) (isC := [3]) (w1 := [(bc, .inl (cJ, 60, .inr (.inl f83)))]) hP rfl
              replace hD : va_D A ((bg, .inl (cI, 8, .inl f79)) :: (bw, .inl (cI, 12, .inl yw)) :: (bq, .inl (cI, 60, .inl yq)) :: (bc, .inl (cJ, 60, .inr (.inl f83))) :: t) := kSet_D (aw := [(bg, .inl (cI, 8, .inl f79)), (bw, .inl (cI, 12, .inl yw)), (bq, .inl (cI, 60, .inl yq)), (bc, .inl (cJ, 60, .inr (.inl f75)))]) (t := t) (isC := [3]) (w1 := [(bc, .inl (cJ, 60, .inr (.inl f83)))]) hD rfl
              obtain ⟨x84, ex84⟩ : ∃ y : Int32, y = (x73 + (1 : Int32)) := ⟨_, rfl⟩
              replace h := am_let_s ex84 h
              refine lv_iinc (pc := 413) (v := x84) (lv' := [(11, .int x84), (12, .int x80), (0, .ref bo), (1, .ref bg), (3, .ref bq), (4, .ref bc), (8, .int j59), (9, .int x63), (10, .int x64)]) hx hb dL_acts_413 hl (k := 8) rfl (by rw [ex84]; rfl) (by decide) rfl (fun ls hl => ?_)
              refine lv_goto (pc := 416) (tgt := 336) hx hb dL_acts_416 (by decide) ?_
              exact ihrec76 _ _ _ h ls (lv_sub hl [2, 3, 4, 5, 6, 7, 8, 0] rfl) H locs hP hD hS
            replace h := am_f cc h
            refine lv_iconst (v := 0) (pc := 390) hx hb dL_acts_390 (by decide) ?_
            refine lv_goto (pc := 391) (tgt := 408) hx hb dL_acts_391 (by decide) ?_
            refine lv_iload (pc := 408) hx hb dL_acts_408 (lv_at hl 8 rfl) ?_
            obtain ⟨f85, hc85, h⟩ := am_bind_s h
            refine kc_SWv (pc := 410) ⟨hx, hb, hml, hown, hts⟩ hP hK hD hS hA [.ref bc, .int x64, .int x73, .int (0 : Int32), .int x73] (c_L_put l D cI cJ bc f75 x64 x73 (0 : Int32) x73 f85 hc85 _) [3] rfl rfl rfl (cwS 5 hts (gzS wl120 wl121 wl118 wl122) rfl rfl rfl ⟨rfl, hdL_put⟩ ⟨Nat.le_of_ble_eq_true rfl, Nat.le_of_ble_eq_true rfl⟩) [] rfl hl.1 rfl (Nat.le_of_ble_eq_true rfl) dL_acts_410 ⟨Nat.zero_le _, Nat.zero_le _⟩ (fun H locs hP hD hS => ?_)
            replace hP : va_P D vwCl ((bg, .inl (cI, 8, .inl f79)) :: (bw, .inl (cI, 12, .inl yw)) :: (bq, .inl (cI, 60, .inl yq)) :: (bc, .inl (cJ, 60, .inr (.inl f85))) :: t) H := kSet_P (aw := [(bg, .inl (cI, 8, .inl f79)), (bw, .inl (cI, 12, .inl yw)), (bq, .inl (cI, 60, .inl yq)), (bc, .inl (cJ, 60, .inr (.inl f75)))]) (t := t) (isC := [3]) (w1 := [(bc, .inl (cJ, 60, .inr (.inl f85)))]) hP rfl
            replace hD : va_D A ((bg, .inl (cI, 8, .inl f79)) :: (bw, .inl (cI, 12, .inl yw)) :: (bq, .inl (cI, 60, .inl yq)) :: (bc, .inl (cJ, 60, .inr (.inl f85))) :: t) := kSet_D (aw := [(bg, .inl (cI, 8, .inl f79)), (bw, .inl (cI, 12, .inl yw)), (bq, .inl (cI, 60, .inl yq)), (bc, .inl (cJ, 60, .inr (.inl f75)))]) (t := t) (isC := [3]) (w1 := [(bc, .inl (cJ, 60, .inr (.inl f85)))]) hD rfl
            obtain ⟨x86, ex86⟩ : ∃ y : Int32, y = (x73 + (1 : Int32)) := ⟨_, rfl⟩
            replace h := am_let_s ex86 h
            refine lv_iinc (pc := 413) (v := x86) (lv' := [(11, .int x86), (12, .int x80), (0, .ref bo), (1, .ref bg), (3, .ref bq), (4, .ref bc), (8, .int j59), (9, .int x63), (10, .int x64)]) hx hb dL_acts_413 hl (k := 8) rfl (by rw [ex86]; rfl) (by decide) rfl (fun ls hl => ?_)
            refine lv_goto (pc := 416) (tgt := 336) hx hb dL_acts_416 (by decide) ?_
            exact ihrec76 _ _ _ h ls (lv_sub hl [2, 3, 4, 5, 6, 7, 8, 0] rfl) H locs hP hD hS
          replace h := am_t cc h
          refine lv_aload_n (pc := 309) hx hb dL_acts_309 rfl (lv_at hl 1 rfl) ?_
          refine lv_iload (pc := 310) hx hb dL_acts_310 (lv_at hl 5 rfl) ?_
          refine lv_iload (pc := 312) hx hb dL_acts_312 (lv_at hl 0 rfl) ?_
          obtain ⟨r87, hc87, h⟩ := am_bind_s h
          refine ow_move (pc := 314) (aw := [(bg, .inl (cI, 8, .inl yg)), (bw, .inl (cI, 12, .inl yw)), (bq, .inl (cI, 60, .inl yq)), (bc, .inl (cJ, 60, .inr (.inl yc)))]) (t := t) ⟨hx, hb, hml, hown, hts⟩ hP hK hD hS hA hOW (hO _ _ _ _ _ hc87) (cwV 2 hts (gzV wl346 wl347 wl348 wl2 wl349) rfl rfl rfl ⟨rfl, hdX6_move⟩ ⟨Nat.le_of_ble_eq_true rfl, Nat.le_of_ble_eq_true rfl⟩) [] hl.1 rfl (Nat.le_of_ble_eq_true rfl) dL_acts_314 ⟨Nat.zero_le _, Nat.zero_le _⟩ (fun t87 H locs hOW hP hD hS => ?_)
          replace hP : va_P D vwCl ((bg, .inl (cI, 8, .inl yg)) :: (bw, .inl (cI, 12, .inl yw)) :: (bq, .inl (cI, 60, .inl yq)) :: (bc, .inl (cJ, 60, .inr (.inl yc))) :: t87) H := hP
          replace hD : va_D A ((bg, .inl (cI, 8, .inl yg)) :: (bw, .inl (cI, 12, .inl yw)) :: (bq, .inl (cI, 60, .inl yq)) :: (bc, .inl (cJ, 60, .inr (.inl yc))) :: t87) := hD
          refine lv_ldc (pc := 317) hx hb hown hk290 dL_acts_317 ?_
          refine lv_icmp_ne (pc := 319) (tgt := 326) hx hb dL_acts_319 (by decide) (fun cc => ?_) (fun cc => ?_)
          · replace h := am_f cc h
            refine lv_iconst (v := 0) (pc := 326) hx hb dL_acts_326 (by decide) ?_
            obtain ⟨e1, e2, e3, e4, e5⟩ := am_ret5 h
            subst e2
            subst e3
            subst e4
            subst e5
            refine W.widen (k := 2) (n := 24) (by omega) (by omega) ?_
            exact hret _ _ _ _ _ _ dL_acts_327 rfl e1 ⟨_, hOW, rfl⟩ hP hD hS
          replace h := am_t cc h
          refine lv_iconst (v := 1) (pc := 322) hx hb dL_acts_322 (by decide) ?_
          refine lv_goto (pc := 323) (tgt := 327) hx hb dL_acts_323 (by decide) ?_
          obtain ⟨e1, e2, e3, e4, e5⟩ := am_ret5 h
          subst e2
          subst e3
          subst e4
          subst e5
          refine W.widen (k := 2) (n := 24) (by omega) (by omega) ?_
          exact hret _ _ _ _ _ _ dL_acts_327 rfl e1 ⟨_, hOW, rfl⟩ hP hD hS
        refine lv_if_ne (pc := 288) (tgt := 296) hx hb dL_acts_288 (by decide) (fun cc => ?_) (fun cc => ?_)
        · replace h := am_f cc h
          refine lv_bipush (v := 12) (pc := 296) hx hb dL_acts_296 (by decide) ?_
          exact hJ62 _ h ls (lv_sub hl [1, 2, 3, 4, 0] rfl)
        replace h := am_t cc h
        refine lv_bipush (v := 100) (pc := 291) hx hb dL_acts_291 (by decide) ?_
        refine lv_goto (pc := 293) (tgt := 298) hx hb dL_acts_293 (by decide) ?_
        exact hJ62 _ h ls (lv_sub hl [1, 2, 3, 4, 0] rfl)
      refine lv_if_le (pc := 263) (tgt := 274) hx hb dL_acts_263 (by decide) (fun cc => ?_) (fun cc => ?_)
      · replace h := am_t cc h
        refine lv_iload (pc := 274) hx hb dL_acts_274 (lv_at hl 0 rfl) ?_
        exact hJ60 _ h ls (lv_sub hl [1, 2, 4, 5, 6] rfl)
      replace h := am_f cc h
      refine lv_iload (pc := 266) hx hb dL_acts_266 (lv_at hl 0 rfl) ?_
      refine lv_bipush (v := 9) (pc := 268) hx hb dL_acts_268 (by decide) ?_
      refine lv_idiv (pc := 270) hx hb dL_acts_270 (by decide) ?_
      refine lv_goto (pc := 271) (tgt := 276) hx hb dL_acts_271 (by decide) ?_
      exact hJ60 _ h ls (lv_sub hl [1, 2, 4, 5, 6] rfl)
    replace h := am_f cc h
    refine lv_iload (pc := 137) hx hb dL_acts_137 (lv_at hl 5 rfl) ?_
    refine lv_aload_n (pc := 139) hx hb dL_acts_139 rfl (lv_at hl 1 rfl) ?_
    refine lv_iconst (v := 0) (pc := 140) hx hb dL_acts_140 (by decide) ?_
    refine va_iald (pc := 141) hx hb hK.1 hP 0 0 rfl rfl (vp_in_nI (n := 0) (N := 8) (by decide) (by decide)) dL_acts_141 ?_
    obtain ⟨hz, h⟩ := am_nz_s h
    refine lv_irem (pc := 142) hx hb dL_acts_142 hz ?_
    refine lv_topi (fun x88 ex88 => ?_)
    replace h := am_let_s ex88 h
    refine lv_istore (lv' := [(8, .int x88), (0, .ref bo), (1, .ref bg), (2, .ref bw), (3, .ref bq), (4, .ref bc), (6, .int r1), (7, .int r2)]) (pc := 143) hx hb dL_acts_143 hl (by decide) rfl (fun ls hl => ?_)
    refine lv_iload (pc := 145) hx hb dL_acts_145 (lv_at hl 6 rfl) ?_
    refine lv_iconst (v := 4) (pc := 147) hx hb dL_acts_147 (by decide) ?_
    refine lv_irem (pc := 148) hx hb dL_acts_148 (by decide) ?_
    refine am_join1_s (fun (j89 : Int32) => ∀ (ls : Array Slot), lv_has ls 14 [(0, .ref bo), (1, .ref bg), (2, .ref bw), (8, .int x88)] → W p l e rmL_acts s m args below meth c s.heap [] 0 0 Q (F0 m 171 ls [.int j89])) h (fun j89 h ls hl => ?_) (fun J90 hJ90 h => ?_)
    · refine lv_istore (lv' := [(9, .int j89), (0, .ref bo), (1, .ref bg), (2, .ref bw), (8, .int x88)]) (pc := 171) hx hb dL_acts_171 hl (by decide) rfl (fun ls hl => ?_)
      refine lv_aload_n (pc := 173) hx hb dL_acts_173 rfl (lv_at hl 2 rfl) ?_
      refine lv_aload_n (pc := 174) hx hb dL_acts_174 rfl (lv_at hl 3 rfl) ?_
      obtain ⟨r91, hc91, h⟩ := am_bind_s h
      refine kc_Si (pc := 175) ⟨hx, hb, hml, hown, hts⟩ hP hK [.ref bg, .ref bw] (c_L_all l D cI cJ bg bw yg yw r91 hc91) [0, 1] rfl (cwS 2 hts (gzS wl129 wl130 wl118 wl131) rfl rfl rfl ⟨rfl, hdL_all⟩ ⟨Nat.le_of_ble_eq_true rfl, Nat.le_of_ble_eq_true rfl⟩) [] rfl hl.1 rfl (Nat.le_of_ble_eq_true rfl) dL_acts_175 ⟨Nat.zero_le _, Nat.zero_le _⟩ ?_
      refine lv_aload_n (pc := 178) hx hb dL_acts_178 rfl (lv_at hl 3 rfl) ?_
      refine lv_iload (pc := 179) hx hb dL_acts_179 (lv_at hl 4 rfl) ?_
      obtain ⟨hi, h⟩ := am_in_s h
      refine va_iald (pc := 181) hx hb hK.1 hP 1 0 rfl rfl hi dL_acts_181 ?_
      refine lv_isub (pc := 182) hx hb dL_acts_182 ?_
      refine lv_iload (pc := 183) hx hb dL_acts_183 (lv_at hl 0 rfl) ?_
      refine lv_iadd (pc := 185) hx hb dL_acts_185 ?_
      refine lv_if_ne (pc := 186) (tgt := 208) hx hb dL_acts_186 (by decide) (fun cc => ?_) (fun cc => ?_)
      · replace h := am_f cc h
        refine lv_aload_n (pc := 208) hx hb dL_acts_208 rfl (lv_at hl 3 rfl) ?_
        refine lv_iload (pc := 209) hx hb dL_acts_209 (lv_at hl 4 rfl) ?_
        refine lv_iload (pc := 211) hx hb dL_acts_211 (lv_at hl 0 rfl) ?_
        obtain ⟨hi, h⟩ := am_in_s h
        obtain ⟨f92, ef92⟩ : ∃ y : Nat → Int32, y = (upd yw x88.toNatClampNeg j89) := ⟨_, rfl⟩
        replace h := am_let_s ef92 h
        refine va_iast (pc := 213) hx hb hK.1 hP hD hS 1 0 rfl rfl hi dL_acts_213 (fun H locs hP hD hS => ?_)
        rw [← ef92] at hP hD
        replace hP : va_P D vwCl ((bg, .inl (cI, 8, .inl yg)) :: (bw, .inl (cI, 12, .inl f92)) :: (bq, .inl (cI, 60, .inl yq)) :: (bc, .inl (cJ, 60, .inr (.inl yc))) :: t) H := hP
        replace hD : va_D A ((bg, .inl (cI, 8, .inl yg)) :: (bw, .inl (cI, 12, .inl f92)) :: (bq, .inl (cI, 60, .inl yq)) :: (bc, .inl (cJ, 60, .inr (.inl yc))) :: t) := hD
        refine lv_aload_n (pc := 214) hx hb dL_acts_214 rfl (lv_at hl 2 rfl) ?_
        refine lv_aload_n (pc := 215) hx hb dL_acts_215 rfl (lv_at hl 3 rfl) ?_
        obtain ⟨r93, f94, hc94, h⟩ := am_call2_s h
        refine kc_SWi (pc := 216) ⟨hx, hb, hml, hown, hts⟩ hP hK hD hS hA [.ref bg, .ref bw] (c_L_thins l D cI cJ bg bw yg f92 r93 f94 hc94 _) [0, 1] rfl rfl rfl (cwS 2 hts (gzS wl343 wl344 wl118 wl345) rfl rfl rfl ⟨rfl, hdL_thins⟩ ⟨Nat.le_of_ble_eq_true rfl, Nat.le_of_ble_eq_true rfl⟩) [] rfl hl.1 rfl (Nat.le_of_ble_eq_true rfl) dL_acts_216 ⟨Nat.zero_le _, Nat.zero_le _⟩ (fun H locs hP hD hS => ?_)
        replace hP : va_P D vwCl ((bg, .inl (cI, 8, .inl yg)) :: (bw, .inl (cI, 12, .inl f94)) :: (bq, .inl (cI, 60, .inl yq)) :: (bc, .inl (cJ, 60, .inr (.inl yc))) :: t) H := kSet_P (aw := [(bg, .inl (cI, 8, .inl yg)), (bw, .inl (cI, 12, .inl f92)), (bq, .inl (cI, 60, .inl yq)), (bc, .inl (cJ, 60, .inr (.inl yc)))]) (t := t) (isC := [0, 1]) (w1 := [(bg, .inl (cI, 8, .inl yg)), (bw, .inl (cI, 12, .inl f94))]) hP rfl
        replace hD : va_D A ((bg, .inl (cI, 8, .inl yg)) :: (bw, .inl (cI, 12, .inl f94)) :: (bq, .inl (cI, 60, .inl yq)) :: (bc, .inl (cJ, 60, .inr (.inl yc))) :: t) := kSet_D (aw := [(bg, .inl (cI, 8, .inl yg)), (bw, .inl (cI, 12, .inl f92)), (bq, .inl (cI, 60, .inl yq)), (bc, .inl (cJ, 60, .inr (.inl yc)))]) (t := t) (isC := [0, 1]) (w1 := [(bg, .inl (cI, 8, .inl yg)), (bw, .inl (cI, 12, .inl f94))]) hD rfl
        refine lv_pop (pc := 219) hx hb dL_acts_219 rfl ?_
        refine lv_aload_n (pc := 220) hx hb dL_acts_220 rfl (lv_at hl 1 rfl) ?_
        refine lv_iload (pc := 221) hx hb dL_acts_221 (lv_at hl 4 rfl) ?_
        refine lv_iload (pc := 223) hx hb dL_acts_223 (lv_at hl 0 rfl) ?_
        obtain ⟨r95, hc95, h⟩ := am_bind_s h
        refine ow_weigh (pc := 225) (aw := [(bg, .inl (cI, 8, .inl yg)), (bw, .inl (cI, 12, .inl f94)), (bq, .inl (cI, 60, .inl yq)), (bc, .inl (cJ, 60, .inr (.inl yc)))]) (t := t) ⟨hx, hb, hml, hown, hts⟩ hP hK hD hS hA hOW (hO _ _ _ _ _ hc95) (cwV 2 hts (gzV wl324 wl325 wl326 wl2 wl327) rfl rfl rfl ⟨rfl, hdX6_weigh⟩ ⟨Nat.le_of_ble_eq_true rfl, Nat.le_of_ble_eq_true rfl⟩) [] hl.1 rfl (Nat.le_of_ble_eq_true rfl) dL_acts_225 ⟨Nat.zero_le _, Nat.zero_le _⟩ (fun t95 H locs hOW hP hD hS => ?_)
        replace hP : va_P D vwCl ((bg, .inl (cI, 8, .inl yg)) :: (bw, .inl (cI, 12, .inl f94)) :: (bq, .inl (cI, 60, .inl yq)) :: (bc, .inl (cJ, 60, .inr (.inl yc))) :: t95) H := hP
        replace hD : va_D A ((bg, .inl (cI, 8, .inl yg)) :: (bw, .inl (cI, 12, .inl f94)) :: (bq, .inl (cI, 60, .inl yq)) :: (bc, .inl (cJ, 60, .inr (.inl yc))) :: t95) := hD
        refine lv_aload_n (pc := 228) hx hb dL_acts_228 rfl (lv_at hl 3 rfl) ?_
        refine lv_iload (pc := 229) hx hb dL_acts_229 (lv_at hl 4 rfl) ?_
        obtain ⟨hi, h⟩ := am_in_s h
        refine va_iald (pc := 231) hx hb hK.1 hP 1 0 rfl rfl hi dL_acts_231 ?_
        refine lv_icmp_ne (pc := 232) (tgt := 239) hx hb dL_acts_232 (by decide) (fun cc => ?_) (fun cc => ?_)
        · replace h := am_f cc h
          refine lv_iconst (v := 0) (pc := 239) hx hb dL_acts_239 (by decide) ?_
          obtain ⟨e1, e2, e3, e4, e5⟩ := am_ret5 h
          subst e2
          subst e3
          subst e4
          subst e5
          refine W.widen (k := 2) (n := 24) (by omega) (by omega) ?_
          exact hret _ _ _ _ _ _ dL_acts_240 rfl e1 ⟨_, hOW, rfl⟩ hP hD hS
        replace h := am_t cc h
        refine lv_iconst (v := 1) (pc := 235) hx hb dL_acts_235 (by decide) ?_
        refine lv_goto (pc := 236) (tgt := 240) hx hb dL_acts_236 (by decide) ?_
        obtain ⟨e1, e2, e3, e4, e5⟩ := am_ret5 h
        subst e2
        subst e3
        subst e4
        subst e5
        refine W.widen (k := 2) (n := 24) (by omega) (by omega) ?_
        exact hret _ _ _ _ _ _ dL_acts_240 rfl e1 ⟨_, hOW, rfl⟩ hP hD hS
      replace h := am_t cc h
      refine lv_aload_n (pc := 189) hx hb dL_acts_189 rfl (lv_at hl 1 rfl) ?_
      refine lv_iload (pc := 190) hx hb dL_acts_190 (lv_at hl 4 rfl) ?_
      refine lv_iload (pc := 192) hx hb dL_acts_192 (lv_at hl 0 rfl) ?_
      obtain ⟨r96, hc96, h⟩ := am_bind_s h
      refine ow_weigh (pc := 194) (aw := [(bg, .inl (cI, 8, .inl yg)), (bw, .inl (cI, 12, .inl yw)), (bq, .inl (cI, 60, .inl yq)), (bc, .inl (cJ, 60, .inr (.inl yc)))]) (t := t) ⟨hx, hb, hml, hown, hts⟩ hP hK hD hS hA hOW (hO _ _ _ _ _ hc96) (cwV 2 hts (gzV wl324 wl325 wl326 wl2 wl327) rfl rfl rfl ⟨rfl, hdX6_weigh⟩ ⟨Nat.le_of_ble_eq_true rfl, Nat.le_of_ble_eq_true rfl⟩) [] hl.1 rfl (Nat.le_of_ble_eq_true rfl) dL_acts_194 ⟨Nat.zero_le _, Nat.zero_le _⟩ (fun t96 H locs hOW hP hD hS => ?_)
      replace hP : va_P D vwCl ((bg, .inl (cI, 8, .inl yg)) :: (bw, .inl (cI, 12, .inl yw)) :: (bq, .inl (cI, 60, .inl yq)) :: (bc, .inl (cJ, 60, .inr (.inl yc))) :: t96) H := hP
      replace hD : va_D A ((bg, .inl (cI, 8, .inl yg)) :: (bw, .inl (cI, 12, .inl yw)) :: (bq, .inl (cI, 60, .inl yq)) :: (bc, .inl (cJ, 60, .inr (.inl yc))) :: t96) := hD
      refine lv_ldc (pc := 197) hx hb hown hk289 dL_acts_197 ?_
      refine lv_icmp_ne (pc := 199) (tgt := 206) hx hb dL_acts_199 (by decide) (fun cc => ?_) (fun cc => ?_)
      · replace h := am_f cc h
        refine lv_iconst (v := 0) (pc := 206) hx hb dL_acts_206 (by decide) ?_
        obtain ⟨e1, e2, e3, e4, e5⟩ := am_ret5 h
        subst e2
        subst e3
        subst e4
        subst e5
        refine W.widen (k := 2) (n := 24) (by omega) (by omega) ?_
        exact hret _ _ _ _ _ _ dL_acts_207 rfl e1 ⟨_, hOW, rfl⟩ hP hD hS
      replace h := am_t cc h
      refine lv_iconst (v := 1) (pc := 202) hx hb dL_acts_202 (by decide) ?_
      refine lv_goto (pc := 203) (tgt := 207) hx hb dL_acts_203 (by decide) ?_
      obtain ⟨e1, e2, e3, e4, e5⟩ := am_ret5 h
      subst e2
      subst e3
      subst e4
      subst e5
      refine W.widen (k := 2) (n := 24) (by omega) (by omega) ?_
      exact hret _ _ _ _ _ _ dL_acts_207 rfl e1 ⟨_, hOW, rfl⟩ hP hD hS
    refine lv_if_ne (pc := 149) (tgt := 163) hx hb dL_acts_149 (by decide) (fun cc => ?_) (fun cc => ?_)
    · replace h := am_f cc h
      refine lv_iload (pc := 163) hx hb dL_acts_163 (lv_at hl 6 rfl) ?_
      refine lv_bipush (v := 12) (pc := 165) hx hb dL_acts_165 (by decide) ?_
      refine lv_idiv (pc := 167) hx hb dL_acts_167 (by decide) ?_
      refine lv_bipush (v := 20) (pc := 168) hx hb dL_acts_168 (by decide) ?_
      refine lv_irem (pc := 170) hx hb dL_acts_170 (by decide) ?_
      exact hJ90 _ h ls (lv_sub hl [1, 2, 3, 0] rfl)
    replace h := am_t cc h
    refine lv_iload (pc := 152) hx hb dL_acts_152 (lv_at hl 6 rfl) ?_
    refine lv_bipush (v := 12) (pc := 154) hx hb dL_acts_154 (by decide) ?_
    refine lv_idiv (pc := 156) hx hb dL_acts_156 (by decide) ?_
    refine lv_ldc (pc := 157) hx hb hown hk288 dL_acts_157 ?_
    refine lv_irem (pc := 159) hx hb dL_acts_159 (by decide) ?_
    refine lv_goto (pc := 160) (tgt := 171) hx hb dL_acts_160 (by decide) ?_
    exact hJ90 _ h ls (lv_sub hl [1, 2, 3, 0] rfl)
  refine lv_if_ne (pc := 22) (tgt := 131) hx hb dL_acts_22 (by decide) (fun cc => ?_) (fun cc => ?_)
  · replace h := am_f cc h
    exact hJ3 h ls (lv_sub hl [2, 3, 4, 5, 6, 1, 0] rfl)
  replace h := am_t cc h
  refine lv_iload (pc := 25) hx hb dL_acts_25 (lv_at hl 1 rfl) ?_
  refine lv_iconst (v := 3) (pc := 27) hx hb dL_acts_27 (by decide) ?_
  refine lv_irem (pc := 28) hx hb dL_acts_28 (by decide) ?_
  refine lv_if_ne (pc := 29) (tgt := 131) hx hb dL_acts_29 (by decide) (fun cc => ?_) (fun cc => ?_)
  · replace h := am_f cc h
    exact hJ3 h ls (lv_sub hl [2, 3, 4, 5, 6, 1, 0] rfl)
  replace h := am_t cc h
  refine lv_iconst (v := 1) (pc := 32) hx hb dL_acts_32 (by decide) ?_
  refine lv_iload (pc := 33) hx hb dL_acts_33 (lv_at hl 1 rfl) ?_
  refine lv_iconst (v := 3) (pc := 35) hx hb dL_acts_35 (by decide) ?_
  refine lv_idiv (pc := 36) hx hb dL_acts_36 (by decide) ?_
  refine lv_bipush (v := 12) (pc := 37) hx hb dL_acts_37 (by decide) ?_
  refine lv_irem (pc := 39) hx hb dL_acts_39 (by decide) ?_
  refine lv_iadd (pc := 40) hx hb dL_acts_40 ?_
  refine lv_topi (fun x97 ex97 => ?_)
  replace h := am_let_s ex97 h
  refine lv_istore (lv' := [(8, .int x97), (7, .int r2), (6, .int r1), (0, .ref bo), (1, .ref bg), (2, .ref bw), (3, .ref bq), (4, .ref bc), (5, .int p5)]) (pc := 41) hx hb dL_acts_41 hl (by decide) rfl (fun ls hl => ?_)
  refine lv_aload_n (pc := 43) hx hb dL_acts_43 rfl (lv_at hl 4 rfl) ?_
  refine lv_iconst (v := 1) (pc := 44) hx hb dL_acts_44 (by decide) ?_
  refine va_iald (pc := 45) hx hb hK.1 hP 0 0 rfl rfl (vp_in_nI (n := 1) (N := 8) (by decide) (by decide)) dL_acts_45 ?_
  refine lv_topi (fun x98 ex98 => ?_)
  replace h := am_let_s ex98 h
  refine lv_istore (lv' := [(9, .int x98), (8, .int x97), (7, .int r2), (6, .int r1), (0, .ref bo), (1, .ref bg), (2, .ref bw), (3, .ref bq), (4, .ref bc), (5, .int p5)]) (pc := 46) hx hb dL_acts_46 hl (by decide) rfl (fun ls hl => ?_)
  refine lv_aload_n (pc := 48) hx hb dL_acts_48 rfl (lv_at hl 5 rfl) ?_
  refine lv_aload_n (pc := 49) hx hb dL_acts_49 rfl (lv_at hl 6 rfl) ?_
  refine lv_aload_n (pc := 50) hx hb dL_acts_50 rfl (lv_at hl 7 rfl) ?_
  refine lv_aload (pc := 51) hx hb dL_acts_51 (lv_at hl 8 rfl) ?_
  refine lv_iload (pc := 53) hx hb dL_acts_53 (lv_at hl 1 rfl) ?_
  refine lv_iload (pc := 55) hx hb dL_acts_55 (lv_at hl 3 rfl) ?_
  refine lv_bipush (v := 36) (pc := 57) hx hb dL_acts_57 (by decide) ?_
  refine lv_idiv (pc := 59) hx hb dL_acts_59 (by decide) ?_
  refine lv_bipush (v := 100) (pc := 60) hx hb dL_acts_60 (by decide) ?_
  refine lv_irem (pc := 62) hx hb dL_acts_62 (by decide) ?_
  refine lv_iload (pc := 63) hx hb dL_acts_63 (lv_at hl 3 rfl) ?_
  refine lv_bipush (v := 7) (pc := 65) hx hb dL_acts_65 (by decide) ?_
  refine lv_idiv (pc := 67) hx hb dL_acts_67 (by decide) ?_
  refine lv_iload (pc := 68) hx hb dL_acts_68 (lv_at hl 3 rfl) ?_
  refine lv_iconst (v := 2) (pc := 70) hx hb dL_acts_70 (by decide) ?_
  refine lv_irem (pc := 71) hx hb dL_acts_71 (by decide) ?_
  refine am_join1_s (fun (j99 : Int32) => ∀ (ls : Array Slot), lv_has ls 14 [(0, .ref bo), (6, .int r1), (8, .int x97), (9, .int x98)] → W p l e rmL_acts s m args below meth c s.heap [] 0 0 Q (F0 m 82 ls [.int j99, .int (r1 / (7 : Int32)), .int ((r1 / (36 : Int32)) - (r1 / (36 : Int32)) / (100 : Int32) * (100 : Int32)), .int x97, .ref bc, .ref bq, .ref bw, .ref bg])) h (fun j99 h ls hl => ?_) (fun J100 hJ100 h => ?_)
  · obtain ⟨hz, h⟩ := am_nz_s h
    refine lv_irem (pc := 82) hx hb dL_acts_82 hz ?_
    obtain ⟨f101, f102, f103, f104, hc104, h⟩ := am_call4_s h
    refine kc_SWv (pc := 83) ⟨hx, hb, hml, hown, hts⟩ hP hK hD hS hA [.ref bg, .ref bw, .ref bq, .ref bc, .int x97, .int ((r1 / (36 : Int32)) - (r1 / (36 : Int32)) / (100 : Int32) * (100 : Int32)), .int ((r1 / (7 : Int32)) - (r1 / (7 : Int32)) / j99 * j99)] (c_L_begins l D cI cJ bg bw bq bc yg yw yq yc x97 ((r1 / (36 : Int32)) - (r1 / (36 : Int32)) / (100 : Int32) * (100 : Int32)) ((r1 / (7 : Int32)) - (r1 / (7 : Int32)) / j99 * j99) f101 f102 f103 f104 hc104 _) [0, 1, 2, 3] rfl rfl rfl (cwS 7 hts (gzS wl116 wl117 wl118 wl119) rfl rfl rfl ⟨rfl, hdL_begins⟩ ⟨Nat.le_of_ble_eq_true rfl, Nat.le_of_ble_eq_true rfl⟩) [] rfl hl.1 rfl (Nat.le_of_ble_eq_true rfl) dL_acts_83 ⟨Nat.zero_le _, Nat.zero_le _⟩ (fun H locs hP hD hS => ?_)
    replace hP : va_P D vwCl ((bg, .inl (cI, 8, .inl f101)) :: (bw, .inl (cI, 12, .inl f102)) :: (bq, .inl (cI, 60, .inl f103)) :: (bc, .inl (cJ, 60, .inr (.inl f104))) :: t) H := kSet_P (aw := [(bg, .inl (cI, 8, .inl yg)), (bw, .inl (cI, 12, .inl yw)), (bq, .inl (cI, 60, .inl yq)), (bc, .inl (cJ, 60, .inr (.inl yc)))]) (t := t) (isC := [0, 1, 2, 3]) (w1 := [(bg, .inl (cI, 8, .inl f101)), (bw, .inl (cI, 12, .inl f102)), (bq, .inl (cI, 60, .inl f103)), (bc, .inl (cJ, 60, .inr (.inl f104)))]) hP rfl
    replace hD : va_D A ((bg, .inl (cI, 8, .inl f101)) :: (bw, .inl (cI, 12, .inl f102)) :: (bq, .inl (cI, 60, .inl f103)) :: (bc, .inl (cJ, 60, .inr (.inl f104))) :: t) := kSet_D (aw := [(bg, .inl (cI, 8, .inl yg)), (bw, .inl (cI, 12, .inl yw)), (bq, .inl (cI, 60, .inl yq)), (bc, .inl (cJ, 60, .inr (.inl yc)))]) (t := t) (isC := [0, 1, 2, 3]) (w1 := [(bg, .inl (cI, 8, .inl f101)), (bw, .inl (cI, 12, .inl f102)), (bq, .inl (cI, 60, .inl f103)), (bc, .inl (cJ, 60, .inr (.inl f104)))]) hD rfl
    refine lv_aload_n (pc := 86) hx hb dL_acts_86 rfl (lv_at hl 0 rfl) ?_
    refine lv_iload (pc := 87) hx hb dL_acts_87 (lv_at hl 2 rfl) ?_
    refine lv_iload (pc := 89) hx hb dL_acts_89 (lv_at hl 1 rfl) ?_
    refine lv_bipush (v := 36) (pc := 91) hx hb dL_acts_91 (by decide) ?_
    refine lv_idiv (pc := 93) hx hb dL_acts_93 (by decide) ?_
    refine lv_bipush (v := 100) (pc := 94) hx hb dL_acts_94 (by decide) ?_
    refine lv_irem (pc := 96) hx hb dL_acts_96 (by decide) ?_
    refine lv_iload (pc := 97) hx hb dL_acts_97 (lv_at hl 1 rfl) ?_
    refine lv_bipush (v := 7) (pc := 99) hx hb dL_acts_99 (by decide) ?_
    refine lv_idiv (pc := 101) hx hb dL_acts_101 (by decide) ?_
    refine lv_iload (pc := 102) hx hb dL_acts_102 (lv_at hl 1 rfl) ?_
    refine lv_iconst (v := 2) (pc := 104) hx hb dL_acts_104 (by decide) ?_
    refine lv_irem (pc := 105) hx hb dL_acts_105 (by decide) ?_
    refine am_join1_s (fun (j105 : Int32) => ∀ (ls : Array Slot), lv_has ls 14 [(9, .int x98)] → W p l e rmL_acts s m args below meth c H locs 0 0 Q (F0 m 116 ls [.int j105, .int (r1 / (7 : Int32)), .int ((r1 / (36 : Int32)) - (r1 / (36 : Int32)) / (100 : Int32) * (100 : Int32)), .int x97, .ref bo])) h (fun j105 h ls hl => ?_) (fun J106 hJ106 h => ?_)
    · obtain ⟨hz, h⟩ := am_nz_s h
      refine lv_irem (pc := 116) hx hb dL_acts_116 hz ?_
      obtain ⟨r107, hc107, h⟩ := am_bind_s h
      refine ow_begin (pc := 117) (aw := [(bg, .inl (cI, 8, .inl f101)), (bw, .inl (cI, 12, .inl f102)), (bq, .inl (cI, 60, .inl f103)), (bc, .inl (cJ, 60, .inr (.inl f104)))]) (t := t) ⟨hx, hb, hml, hown, hts⟩ hP hK hD hS hA hOW (hO _ _ _ _ _ hc107) (cwV 3 hts (gzV wl295 wl296 wl297 wl2 wl298) rfl rfl rfl ⟨rfl, hdX6_begin⟩ ⟨Nat.le_of_ble_eq_true rfl, Nat.le_of_ble_eq_true rfl⟩) [] hl.1 rfl (Nat.le_of_ble_eq_true rfl) dL_acts_117 ⟨Nat.zero_le _, Nat.zero_le _⟩ (fun t107 H locs hOW hP hD hS => ?_)
      replace hP : va_P D vwCl ((bg, .inl (cI, 8, .inl f101)) :: (bw, .inl (cI, 12, .inl f102)) :: (bq, .inl (cI, 60, .inl f103)) :: (bc, .inl (cJ, 60, .inr (.inl f104))) :: t107) H := hP
      replace hD : va_D A ((bg, .inl (cI, 8, .inl f101)) :: (bw, .inl (cI, 12, .inl f102)) :: (bq, .inl (cI, 60, .inl f103)) :: (bc, .inl (cJ, 60, .inr (.inl f104))) :: t107) := hD
      refine lv_iload (pc := 120) hx hb dL_acts_120 (lv_at hl 0 rfl) ?_
      refine lv_icmp_ne (pc := 122) (tgt := 129) hx hb dL_acts_122 (by decide) (fun cc => ?_) (fun cc => ?_)
      · replace h := am_f cc h
        refine lv_iconst (v := 0) (pc := 129) hx hb dL_acts_129 (by decide) ?_
        obtain ⟨e1, e2, e3, e4, e5⟩ := am_ret5 h
        subst e2
        subst e3
        subst e4
        subst e5
        refine W.widen (k := 2) (n := 24) (by omega) (by omega) ?_
        exact hret _ _ _ _ _ _ dL_acts_130 rfl e1 ⟨_, hOW, rfl⟩ hP hD hS
      replace h := am_t cc h
      refine lv_iconst (v := 1) (pc := 125) hx hb dL_acts_125 (by decide) ?_
      refine lv_goto (pc := 126) (tgt := 130) hx hb dL_acts_126 (by decide) ?_
      obtain ⟨e1, e2, e3, e4, e5⟩ := am_ret5 h
      subst e2
      subst e3
      subst e4
      subst e5
      refine W.widen (k := 2) (n := 24) (by omega) (by omega) ?_
      exact hret _ _ _ _ _ _ dL_acts_130 rfl e1 ⟨_, hOW, rfl⟩ hP hD hS
    refine lv_if_ne (pc := 106) (tgt := 114) hx hb dL_acts_106 (by decide) (fun cc => ?_) (fun cc => ?_)
    · replace h := am_f cc h
      refine lv_bipush (v := 12) (pc := 114) hx hb dL_acts_114 (by decide) ?_
      exact hJ106 _ h ls (lv_sub hl [3] rfl)
    replace h := am_t cc h
    refine lv_bipush (v := 100) (pc := 109) hx hb dL_acts_109 (by decide) ?_
    refine lv_goto (pc := 111) (tgt := 116) hx hb dL_acts_111 (by decide) ?_
    exact hJ106 _ h ls (lv_sub hl [3] rfl)
  refine lv_if_ne (pc := 72) (tgt := 80) hx hb dL_acts_72 (by decide) (fun cc => ?_) (fun cc => ?_)
  · replace h := am_f cc h
    refine lv_bipush (v := 12) (pc := 80) hx hb dL_acts_80 (by decide) ?_
    exact hJ100 _ h ls (lv_sub hl [4, 3, 1, 0] rfl)
  replace h := am_t cc h
  refine lv_bipush (v := 100) (pc := 75) hx hb dL_acts_75 (by decide) ?_
  refine lv_goto (pc := 77) (tgt := 82) hx hb dL_acts_77 (by decide) ?_
  exact hJ100 _ h ls (lv_sub hl [4, 3, 1, 0] rfl)
