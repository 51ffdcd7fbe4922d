-- the law's calls, one by one (printed by gen63.py)
set_option maxHeartbeats 20000000 in
set_option maxRecDepth 100000 in
theorem st_begin {p : Program} {e : Env} {s : State} {m : MethodId} {below : List Frame} {meth : Method} {c : Code} {l : Launch} {b L : Nat} {xs : Nat → Int32} {D : va_G} {cI cJ : ClassId} {b1 b2 i : Nat} {C N : Nat} {Q : State → Prop} {H : Heap} {locs : List Loc} {ls : Array Slot} (X : LCtx p m meth c s b L xs D cI cJ) (hL : L ≤ 2560) (hi : i + 5 ≤ L) (hCN : C ≤ room_1.cells ∧ N ≤ room_1.slots) (kk : ∀ (H : Heap) (locs : List Loc) (ls : Array Slot), LInv D cI cJ s b1 b2 H locs → lv_has ls 4 [(0, .ref b), (1, .ref b1), (2, .ref b2), (3, .int (nI i))] → W p l e room_1 s m #[Value.ref b] below meth c H locs C N Q (F0 m 698 ls [])) (I : LInv D cI cJ s b1 b2 H locs) (hl : lv_has ls 4 [(0, .ref b), (1, .ref b1), (2, .ref b2), (3, .int (nI i))]) : W p l e room_1 s m #[Value.ref b] below meth c H locs C N Q (F0 m 128 ls []) := by
  obtain ⟨hx, hb, hr, hml, hown, hts, hX, hbl, hK⟩ := X
  obtain ⟨o, rec, A, v, f, u, ch, xn, xa, xr, a, mm, ar, rr, rfl, rfl, hY, hP, hD, hS⟩ := I
  obtain ⟨r, Lt, ct, hr4, rfl, m0, m1, u0, m2, hT, hR, hH⟩ := hY
  have hA : ∀ q : Nat, s.heap.size ≤ q → lA s q := fun _ h => h
  have hbA : ¬ lA s b := Nat.not_le.mpr hbl
  have g1 : vp_in (nI i + 1) L := ix_in hL (k := 1) (by omega) (id rfl)
  obtain ⟨y1, hy1⟩ : ∃ y : Int32, y = xs (nI i + 1).toNatClampNeg := ⟨_, rfl⟩
  have g2 : vp_in (nI i + 2) L := ix_in hL (k := 2) (by omega) (id rfl)
  obtain ⟨y2, hy2⟩ : ∃ y : Int32, y = xs (nI i + 2).toNatClampNeg := ⟨_, rfl⟩
  have g3 : vp_in (nI i + 3) L := ix_in hL (k := 3) (by omega) (id rfl)
  obtain ⟨y3, hy3⟩ : ∃ y : Int32, y = xs (nI i + 3).toNatClampNeg := ⟨_, rfl⟩
  obtain ⟨ans, v', f', e1, h⟩ := s_begin (v := v) (f := f) (s := ar 0) (r := r) hR hr4 (ar 1) y1 y2 y3
  rcases h with ⟨hn, e2⟩ | ⟨hp, s', fp, e2, hq, hR'⟩
  · refine lv_aload_n (pc := 128) hx hb dL_law_128 rfl (lv_at hl 1 rfl) ?_
    refine lv_aload_n (pc := 129) hx hb dL_law_129 rfl (lv_at hl 0 rfl) ?_
    refine lv_iload_n (pc := 130) hx hb dL_law_130 rfl (lv_at hl 3 rfl) ?_
    refine lv_iconst (v := 1) (pc := 131) hx hb dL_law_131 (by decide) ?_
    refine lv_iadd (pc := 132) hx hb dL_law_132 ?_
    refine va_sld (pc := 133) hx hb hX hbl hbA hS g1 dL_law_133 ?_
    rw [← hy1]
    refine lv_aload_n (pc := 134) hx hb dL_law_134 rfl (lv_at hl 0 rfl) ?_
    refine lv_iload_n (pc := 135) hx hb dL_law_135 rfl (lv_at hl 3 rfl) ?_
    refine lv_iconst (v := 2) (pc := 136) hx hb dL_law_136 (by decide) ?_
    refine lv_iadd (pc := 137) hx hb dL_law_137 ?_
    refine va_sld (pc := 138) hx hb hX hbl hbA hS g2 dL_law_138 ?_
    rw [← hy2]
    refine lv_aload_n (pc := 139) hx hb dL_law_139 rfl (lv_at hl 0 rfl) ?_
    refine lv_iload_n (pc := 140) hx hb dL_law_140 rfl (lv_at hl 3 rfl) ?_
    refine lv_iconst (v := 3) (pc := 141) hx hb dL_law_141 (by decide) ?_
    refine lv_iadd (pc := 142) hx hb dL_law_142 ?_
    refine va_sld (pc := 143) hx hb hX hbl hbA hS g3 dL_law_143 ?_
    rw [← hy3]
    refine kG_W (pc := 144) (ci := 6) ⟨hx, hb, hml, hown, hts⟩ (vP_l hP) hK (vD_l hD) hS hA [.int y1, .int y2, .int y3] (c_X6_begin_neg l D cI cJ (o 0) (A 0 0) (A 0 1) (A 0 2) (A 0 3) (A 0 4) (A 0 5) (A 0 6) (A 0 7) (A 0 8) (A 0 9) (A 0 10) (A 0 11) (A 0 12) (A 0 13) (A 0 14) (A 0 15) (A 0 16) (A 0 17) (A 1 0) (A 1 1) (A 1 2) (A 1 3) (A 1 4) (A 1 5) (A 1 6) (A 1 7) (A 1 8) (A 1 9) (A 1 10) (A 1 11) (A 1 12) (A 1 13) (A 1 14) (A 1 15) (A 1 16) (A 1 17) (A 2 0) (A 2 1) (A 2 2) (A 2 3) (A 2 4) (A 2 5) (A 2 6) (A 2 7) (A 2 8) (A 2 9) (A 2 10) (A 2 11) (A 2 12) (A 2 13) (A 2 14) (A 2 15) (A 2 16) (A 2 17) (A 3 0) (A 3 1) (A 3 2) (A 3 3) (A 3 4) (A 3 5) (A 3 6) (A 3 7) (A 3 8) (A 3 9) (A 3 10) (A 3 11) (A 3 12) (A 3 13) (A 3 14) (A 3 15) (A 3 16) (A 3 17) (A 4 0) (A 4 1) (A 4 2) (A 4 3) (A 4 4) (A 4 5) (A 4 6) (A 4 7) (A 4 8) (A 4 9) (A 4 10) (A 4 11) (A 4 12) (A 4 13) (A 4 14) (A 4 15) (A 4 16) (A 4 17) (A 5 0) (A 5 1) (A 5 2) (A 5 3) (A 5 4) (A 5 5) (A 5 6) (A 5 7) (A 5 8) (A 5 9) (A 5 10) (A 5 11) (A 5 12) (A 5 13) (A 5 14) (A 5 15) (A 5 16) (A 5 17) (o 1) (o 2) (o 3) (o 4) (o 5) (nI r) (v 0 0) (v 0 1) (v 0 2) (v 0 3) (v 0 4) (f 0 0) (f 0 1) (f 0 2) (f 0 3) (f 0 4) (f 0 5) (v 0 5) (f 0 6) (f 0 7) (v 1 0) (v 1 1) (v 1 2) (v 1 3) (v 1 4) (f 1 0) (f 1 1) (f 1 2) (f 1 3) (f 1 4) (f 1 5) (v 1 5) (f 1 6) (f 1 7) (v 2 0) (v 2 1) (v 2 2) (v 2 3) (v 2 4) (f 2 0) (f 2 1) (f 2 2) (f 2 3) (f 2 4) (f 2 5) (v 2 5) (f 2 6) (f 2 7) (v 3 0) (v 3 1) (v 3 2) (v 3 3) (v 3 4) (f 3 0) (f 3 1) (f 3 2) (f 3 3) (f 3 4) (f 3 5) (v 3 5) (f 3 6) (f 3 7) (v 4 0) (v 4 1) (v 4 2) (v 4 3) (v 4 4) (f 4 0) (f 4 1) (f 4 2) (f 4 3) (f 4 4) (f 4 5) (v 4 5) (f 4 6) (f 4 7) (v 5 0) (v 5 1) (v 5 2) (v 5 3) (v 5 4) (f 5 0) (f 5 1) (f 5 2) (f 5 3) (f 5 4) (f 5 5) (v 5 5) (f 5 6) (f 5 7) (u 0) (u 1) (u 2) (u 3) (u 4) (u 5) (u 6) (u 7) (u 8) ch xn xa xr y1 y2 y3 ans (v' 0) (v' 1) (v' 2) (v' 3) (v' 4) (f' 0) (f' 1) (f' 2) (f' 3) (f' 4) (f' 5) (v' 5) (f' 6) (f' 7) e1 hn _) (cwV 3 hts (gzV wl135 wl136 wl137 wl2 wl138) rfl rfl rfl ⟨rfl, hdX6_begin⟩ ⟨Nat.le_of_ble_eq_true rfl, Nat.le_of_ble_eq_true rfl⟩) rfl rfl [] rfl hl.1 rfl (Nat.le_of_ble_eq_true rfl) dL_law_144 hCN (fun H locs hP1 hk1 hS => ?_)
    obtain ⟨hP, hD⟩ := kJoinL hP hD hk1 hP1 rfl
    replace hP : va_P D vwCl (plW cI cJ o (nI r) A (gII [v 0, v', v 2, v 3, v 4, v 5]) (gFF [f 0, f', f 2, f 3, f 4, f 5]) u ch xn xa xr ++ mdW cI cJ a mm ar rr) H := hP
    replace hD : va_D (lA s) (plW cI cJ o (nI r) A (gII [v 0, v', v 2, v 3, v 4, v 5]) (gFF [f 0, f', f 2, f 3, f 4, f 5]) u ch xn xa xr ++ mdW cI cJ a mm ar rr) := hD
    refine lv_aload_n (pc := 147) hx hb dL_law_147 rfl (lv_at hl 2 rfl) ?_
    refine lv_aload_n (pc := 148) hx hb dL_law_148 rfl (lv_at hl 0 rfl) ?_
    refine lv_iload_n (pc := 149) hx hb dL_law_149 rfl (lv_at hl 3 rfl) ?_
    refine lv_iconst (v := 1) (pc := 150) hx hb dL_law_150 (by decide) ?_
    refine lv_iadd (pc := 151) hx hb dL_law_151 ?_
    refine va_sld (pc := 152) hx hb hX hbl hbA hS g1 dL_law_152 ?_
    rw [← hy1]
    refine lv_aload_n (pc := 153) hx hb dL_law_153 rfl (lv_at hl 0 rfl) ?_
    refine lv_iload_n (pc := 154) hx hb dL_law_154 rfl (lv_at hl 3 rfl) ?_
    refine lv_iconst (v := 2) (pc := 155) hx hb dL_law_155 (by decide) ?_
    refine lv_iadd (pc := 156) hx hb dL_law_156 ?_
    refine va_sld (pc := 157) hx hb hX hbl hbA hS g2 dL_law_157 ?_
    rw [← hy2]
    refine lv_aload_n (pc := 158) hx hb dL_law_158 rfl (lv_at hl 0 rfl) ?_
    refine lv_iload_n (pc := 159) hx hb dL_law_159 rfl (lv_at hl 3 rfl) ?_
    refine lv_iconst (v := 3) (pc := 160) hx hb dL_law_160 (by decide) ?_
    refine lv_iadd (pc := 161) hx hb dL_law_161 ?_
    refine va_sld (pc := 162) hx hb hX hbl hbA hS g3 dL_law_162 ?_
    rw [← hy3]
    refine kG_W (pc := 163) (ci := 7) ⟨hx, hb, hml, hown, hts⟩ (vP_r hP) hK (vD_r hD) hS hA [.int y1, .int y2, .int y3] (c_X7_begin l D cI cJ (a 0) (a 1) (a 2) (a 3) (a 4) (a 5) (a 6) (a 7) (a 8) (a 9) (mm 0) (mm 1) (mm 2) (mm 3) (mm 4) (mm 5) (mm 6) (mm 7) (mm 8) (ar 0) (ar 1) (ar 2) (ar 3) (ar 4) (ar 5) rr (ar 6) (ar 7) y1 y2 y3 ans (nI r) (ar 0) (ar 1) (by rw [m0, m1]; exact e2) _) (cwV 3 hts (gzV wl171 wl172 wl173 wl5 wl174) rfl rfl rfl ⟨rfl, hdX7_begin⟩ ⟨Nat.le_of_ble_eq_true rfl, Nat.le_of_ble_eq_true rfl⟩) rfl rfl [.int ans] rfl hl.1 rfl (Nat.le_of_ble_eq_true rfl) dL_law_163 hCN (fun H locs hP1 hk1 hS => ?_)
    obtain ⟨hP, hD⟩ := kJoinR hP hD hk1 hP1 rfl
    refine lv_icmp_eq (pc := 166) (tgt := 698) hx hb dL_law_166 (by decide) (fun _ => ?_) (fun h => absurd rfl h)
    exact kk H locs ls ⟨o, (nI r), A, (gII [v 0, v', v 2, v 3, v 4, v 5]), (gFF [f 0, f', f 2, f 3, f 4, f 5]), u, ch, xn, xa, xr, a, (gI [nI r, mm 1, mm 2, mm 3, mm 4, mm 5, mm 6, mm 7, mm 8]), (gII [ar 0, ar 1, ar 2, ar 3, ar 4, ar 5, ar 6, ar 7]), rr, rfl, rfl, ⟨r, Lt, ct, hr4, rfl, rfl, m1, u0, m2, hT, hR, hist_keep hr4 hH rfl rfl rfl rfl rfl rfl rfl rfl⟩, hP, hD, hS⟩ hl
  · refine lv_aload_n (pc := 128) hx hb dL_law_128 rfl (lv_at hl 1 rfl) ?_
    refine lv_aload_n (pc := 129) hx hb dL_law_129 rfl (lv_at hl 0 rfl) ?_
    refine lv_iload_n (pc := 130) hx hb dL_law_130 rfl (lv_at hl 3 rfl) ?_
    refine lv_iconst (v := 1) (pc := 131) hx hb dL_law_131 (by decide) ?_
    refine lv_iadd (pc := 132) hx hb dL_law_132 ?_
    refine va_sld (pc := 133) hx hb hX hbl hbA hS g1 dL_law_133 ?_
    rw [← hy1]
    refine lv_aload_n (pc := 134) hx hb dL_law_134 rfl (lv_at hl 0 rfl) ?_
    refine lv_iload_n (pc := 135) hx hb dL_law_135 rfl (lv_at hl 3 rfl) ?_
    refine lv_iconst (v := 2) (pc := 136) hx hb dL_law_136 (by decide) ?_
    refine lv_iadd (pc := 137) hx hb dL_law_137 ?_
    refine va_sld (pc := 138) hx hb hX hbl hbA hS g2 dL_law_138 ?_
    rw [← hy2]
    refine lv_aload_n (pc := 139) hx hb dL_law_139 rfl (lv_at hl 0 rfl) ?_
    refine lv_iload_n (pc := 140) hx hb dL_law_140 rfl (lv_at hl 3 rfl) ?_
    refine lv_iconst (v := 3) (pc := 141) hx hb dL_law_141 (by decide) ?_
    refine lv_iadd (pc := 142) hx hb dL_law_142 ?_
    refine va_sld (pc := 143) hx hb hX hbl hbA hS g3 dL_law_143 ?_
    rw [← hy3]
    refine kG_W (pc := 144) (ci := 6) ⟨hx, hb, hml, hown, hts⟩ (vP_l hP) hK (vD_l hD) hS hA [.int y1, .int y2, .int y3] (c_X6_begin_pos l D cI cJ (o 0) (A 0 0) (A 0 1) (A 0 2) (A 0 3) (A 0 4) (A 0 5) (A 0 6) (A 0 7) (A 0 8) (A 0 9) (A 0 10) (A 0 11) (A 0 12) (A 0 13) (A 0 14) (A 0 15) (A 0 16) (A 0 17) (A 1 0) (A 1 1) (A 1 2) (A 1 3) (A 1 4) (A 1 5) (A 1 6) (A 1 7) (A 1 8) (A 1 9) (A 1 10) (A 1 11) (A 1 12) (A 1 13) (A 1 14) (A 1 15) (A 1 16) (A 1 17) (A 2 0) (A 2 1) (A 2 2) (A 2 3) (A 2 4) (A 2 5) (A 2 6) (A 2 7) (A 2 8) (A 2 9) (A 2 10) (A 2 11) (A 2 12) (A 2 13) (A 2 14) (A 2 15) (A 2 16) (A 2 17) (A 3 0) (A 3 1) (A 3 2) (A 3 3) (A 3 4) (A 3 5) (A 3 6) (A 3 7) (A 3 8) (A 3 9) (A 3 10) (A 3 11) (A 3 12) (A 3 13) (A 3 14) (A 3 15) (A 3 16) (A 3 17) (A 4 0) (A 4 1) (A 4 2) (A 4 3) (A 4 4) (A 4 5) (A 4 6) (A 4 7) (A 4 8) (A 4 9) (A 4 10) (A 4 11) (A 4 12) (A 4 13) (A 4 14) (A 4 15) (A 4 16) (A 4 17) (A 5 0) (A 5 1) (A 5 2) (A 5 3) (A 5 4) (A 5 5) (A 5 6) (A 5 7) (A 5 8) (A 5 9) (A 5 10) (A 5 11) (A 5 12) (A 5 13) (A 5 14) (A 5 15) (A 5 16) (A 5 17) (o 1) (o 2) (o 3) (o 4) (o 5) (nI r) (v 0 0) (v 0 1) (v 0 2) (v 0 3) (v 0 4) (f 0 0) (f 0 1) (f 0 2) (f 0 3) (f 0 4) (f 0 5) (v 0 5) (f 0 6) (f 0 7) (v 1 0) (v 1 1) (v 1 2) (v 1 3) (v 1 4) (f 1 0) (f 1 1) (f 1 2) (f 1 3) (f 1 4) (f 1 5) (v 1 5) (f 1 6) (f 1 7) (v 2 0) (v 2 1) (v 2 2) (v 2 3) (v 2 4) (f 2 0) (f 2 1) (f 2 2) (f 2 3) (f 2 4) (f 2 5) (v 2 5) (f 2 6) (f 2 7) (v 3 0) (v 3 1) (v 3 2) (v 3 3) (v 3 4) (f 3 0) (f 3 1) (f 3 2) (f 3 3) (f 3 4) (f 3 5) (v 3 5) (f 3 6) (f 3 7) (v 4 0) (v 4 1) (v 4 2) (v 4 3) (v 4 4) (f 4 0) (f 4 1) (f 4 2) (f 4 3) (f 4 4) (f 4 5) (v 4 5) (f 4 6) (f 4 7) (v 5 0) (v 5 1) (v 5 2) (v 5 3) (v 5 4) (f 5 0) (f 5 1) (f 5 2) (f 5 3) (f 5 4) (f 5 5) (v 5 5) (f 5 6) (f 5 7) (u 0) (u 1) (u 2) (u 3) (u 4) (u 5) (u 6) (u 7) (u 8) ch xn xa xr y1 y2 y3 ans (v' 0) (v' 1) (v' 2) (v' 3) (v' 4) (f' 0) (f' 1) (f' 2) (f' 3) (f' 4) (f' 5) (v' 5) (f' 6) (f' 7) e1 hp _) (cwV 3 hts (gzV wl135 wl136 wl137 wl2 wl138) rfl rfl rfl ⟨rfl, hdX6_begin⟩ ⟨Nat.le_of_ble_eq_true rfl, Nat.le_of_ble_eq_true rfl⟩) rfl rfl [] rfl hl.1 rfl (Nat.le_of_ble_eq_true rfl) dL_law_144 hCN (fun H locs hP1 hk1 hS => ?_)
    obtain ⟨hP, hD⟩ := kJoinL hP hD hk1 hP1 rfl
    replace hP : va_P D vwCl (plW cI cJ o (keepRec (nI r)) (gNN [A 1, A 5, A 0, A 2, A 3, A 4]) (gII [v', v 5, v 0, v 2, v 3, v 4]) (gFF [f', f 5, f 0, f 2, f 3, f 4]) u ch xn xa xr ++ mdW cI cJ a mm ar rr) H := hP.sub [0, 19, 20, 21, 22, 23, 24, 25, 26, 27, 28, 29, 30, 31, 32, 33, 34, 35, 36, 91, 92, 93, 94, 95, 96, 97, 98, 99, 100, 101, 102, 103, 104, 105, 106, 107, 108, 1, 2, 3, 4, 5, 6, 7, 8, 9, 10, 11, 12, 13, 14, 15, 16, 17, 18, 37, 38, 39, 40, 41, 42, 43, 44, 45, 46, 47, 48, 49, 50, 51, 52, 53, 54, 55, 56, 57, 58, 59, 60, 61, 62, 63, 64, 65, 66, 67, 68, 69, 70, 71, 72, 73, 74, 75, 76, 77, 78, 79, 80, 81, 82, 83, 84, 85, 86, 87, 88, 89, 90, 109, 110, 111, 112, 113, 114, 115, 116, 117, 118, 119, 120, 121, 122, 123] rfl
    replace hD : va_D (lA s) (plW cI cJ o (keepRec (nI r)) (gNN [A 1, A 5, A 0, A 2, A 3, A 4]) (gII [v', v 5, v 0, v 2, v 3, v 4]) (gFF [f', f 5, f 0, f 2, f 3, f 4]) u ch xn xa xr ++ mdW cI cJ a mm ar rr) := hD.sub [0, 19, 20, 21, 22, 23, 24, 25, 26, 27, 28, 29, 30, 31, 32, 33, 34, 35, 36, 91, 92, 93, 94, 95, 96, 97, 98, 99, 100, 101, 102, 103, 104, 105, 106, 107, 108, 1, 2, 3, 4, 5, 6, 7, 8, 9, 10, 11, 12, 13, 14, 15, 16, 17, 18, 37, 38, 39, 40, 41, 42, 43, 44, 45, 46, 47, 48, 49, 50, 51, 52, 53, 54, 55, 56, 57, 58, 59, 60, 61, 62, 63, 64, 65, 66, 67, 68, 69, 70, 71, 72, 73, 74, 75, 76, 77, 78, 79, 80, 81, 82, 83, 84, 85, 86, 87, 88, 89, 90, 109, 110, 111, 112, 113, 114, 115, 116, 117, 118, 119, 120, 121, 122, 123] (by decide +kernel) rfl
    refine lv_aload_n (pc := 147) hx hb dL_law_147 rfl (lv_at hl 2 rfl) ?_
    refine lv_aload_n (pc := 148) hx hb dL_law_148 rfl (lv_at hl 0 rfl) ?_
    refine lv_iload_n (pc := 149) hx hb dL_law_149 rfl (lv_at hl 3 rfl) ?_
    refine lv_iconst (v := 1) (pc := 150) hx hb dL_law_150 (by decide) ?_
    refine lv_iadd (pc := 151) hx hb dL_law_151 ?_
    refine va_sld (pc := 152) hx hb hX hbl hbA hS g1 dL_law_152 ?_
    rw [← hy1]
    refine lv_aload_n (pc := 153) hx hb dL_law_153 rfl (lv_at hl 0 rfl) ?_
    refine lv_iload_n (pc := 154) hx hb dL_law_154 rfl (lv_at hl 3 rfl) ?_
    refine lv_iconst (v := 2) (pc := 155) hx hb dL_law_155 (by decide) ?_
    refine lv_iadd (pc := 156) hx hb dL_law_156 ?_
    refine va_sld (pc := 157) hx hb hX hbl hbA hS g2 dL_law_157 ?_
    rw [← hy2]
    refine lv_aload_n (pc := 158) hx hb dL_law_158 rfl (lv_at hl 0 rfl) ?_
    refine lv_iload_n (pc := 159) hx hb dL_law_159 rfl (lv_at hl 3 rfl) ?_
    refine lv_iconst (v := 3) (pc := 160) hx hb dL_law_160 (by decide) ?_
    refine lv_iadd (pc := 161) hx hb dL_law_161 ?_
    refine va_sld (pc := 162) hx hb hX hbl hbA hS g3 dL_law_162 ?_
    rw [← hy3]
    refine kG_W (pc := 163) (ci := 7) ⟨hx, hb, hml, hown, hts⟩ (vP_r hP) hK (vD_r hD) hS hA [.int y1, .int y2, .int y3] (c_X7_begin l D cI cJ (a 0) (a 1) (a 2) (a 3) (a 4) (a 5) (a 6) (a 7) (a 8) (a 9) (mm 0) (mm 1) (mm 2) (mm 3) (mm 4) (mm 5) (mm 6) (mm 7) (mm 8) (ar 0) (ar 1) (ar 2) (ar 3) (ar 4) (ar 5) rr (ar 6) (ar 7) y1 y2 y3 ans (nI (nx r)) s' fp (by rw [m0, m1]; exact e2) _) (cwV 3 hts (gzV wl171 wl172 wl173 wl5 wl174) rfl rfl rfl ⟨rfl, hdX7_begin⟩ ⟨Nat.le_of_ble_eq_true rfl, Nat.le_of_ble_eq_true rfl⟩) rfl rfl [.int ans] rfl hl.1 rfl (Nat.le_of_ble_eq_true rfl) dL_law_163 hCN (fun H locs hP1 hk1 hS => ?_)
    obtain ⟨hP, hD⟩ := kJoinR hP hD hk1 hP1 rfl
    refine lv_icmp_eq (pc := 166) (tgt := 698) hx hb dL_law_166 (by decide) (fun _ => ?_) (fun h => absurd rfl h)
    exact kk H locs ls ⟨o, (keepRec (nI r)), (gNN [A 1, A 5, A 0, A 2, A 3, A 4]), (gII [v', v 5, v 0, v 2, v 3, v 4]), (gFF [f', f 5, f 0, f 2, f 3, f 4]), u, ch, xn, xa, xr, a, (gI [nI (nx r), mm 1, mm 2, mm 3, mm 4, mm 5, mm 6, mm 7, mm 8]), (gII [s', fp, ar 2, ar 3, ar 4, ar 5, ar 6, ar 7]), rr, rfl, rfl, ⟨nx r, Lt, ct, (nx_le hr4).1, keep_nx hr4, rfl, m1, u0, m2, hT, hR', hist_push hr4 hR hH hq rfl rfl rfl rfl rfl rfl rfl rfl⟩, hP, hD, hS⟩ hl
set_option maxHeartbeats 20000000 in
set_option maxRecDepth 100000 in
theorem st_weigh {p : Program} {e : Env} {s : State} {m : MethodId} {below : List Frame} {meth : Method} {c : Code} {l : Launch} {b L : Nat} {xs : Nat → Int32} {D : va_G} {cI cJ : ClassId} {b1 b2 i : Nat} {C N : Nat} {Q : State → Prop} {H : Heap} {locs : List Loc} {ls : Array Slot} (X : LCtx p m meth c s b L xs D cI cJ) (hL : L ≤ 2560) (hi : i + 5 ≤ L) (hCN : C ≤ room_1.cells ∧ N ≤ room_1.slots) (kk : ∀ (H : Heap) (locs : List Loc) (ls : Array Slot), LInv D cI cJ s b1 b2 H locs → lv_has ls 4 [(0, .ref b), (1, .ref b1), (2, .ref b2), (3, .int (nI i))] → W p l e room_1 s m #[Value.ref b] below meth c H locs C N Q (F0 m 698 ls [])) (I : LInv D cI cJ s b1 b2 H locs) (hl : lv_has ls 4 [(0, .ref b), (1, .ref b1), (2, .ref b2), (3, .int (nI i))]) : W p l e room_1 s m #[Value.ref b] below meth c H locs C N Q (F0 m 171 ls []) := by
  obtain ⟨hx, hb, hr, hml, hown, hts, hX, hbl, hK⟩ := X
  obtain ⟨o, rec, A, v, f, u, ch, xn, xa, xr, a, mm, ar, rr, rfl, rfl, hY, hP, hD, hS⟩ := I
  obtain ⟨r, Lt, ct, hr4, rfl, m0, m1, u0, m2, hT, hR, hH⟩ := hY
  have hA : ∀ q : Nat, s.heap.size ≤ q → lA s q := fun _ h => h
  have hbA : ¬ lA s b := Nat.not_le.mpr hbl
  have g1 : vp_in (nI i + 1) L := ix_in hL (k := 1) (by omega) (id rfl)
  obtain ⟨y1, hy1⟩ : ∃ y : Int32, y = xs (nI i + 1).toNatClampNeg := ⟨_, rfl⟩
  have g2 : vp_in (nI i + 2) L := ix_in hL (k := 2) (by omega) (id rfl)
  obtain ⟨y2, hy2⟩ : ∃ y : Int32, y = xs (nI i + 2).toNatClampNeg := ⟨_, rfl⟩
  obtain ⟨ans, v', f', e1, h⟩ := s_weigh (v := v) (f := f) (s := ar 0) (r := r) hR hr4 (ar 1) y1 y2
  rcases h with ⟨hn, e2⟩ | ⟨hp, s', fp, e2, hq, hR'⟩
  · refine lv_aload_n (pc := 171) hx hb dL_law_171 rfl (lv_at hl 1 rfl) ?_
    refine lv_aload_n (pc := 172) hx hb dL_law_172 rfl (lv_at hl 0 rfl) ?_
    refine lv_iload_n (pc := 173) hx hb dL_law_173 rfl (lv_at hl 3 rfl) ?_
    refine lv_iconst (v := 1) (pc := 174) hx hb dL_law_174 (by decide) ?_
    refine lv_iadd (pc := 175) hx hb dL_law_175 ?_
    refine va_sld (pc := 176) hx hb hX hbl hbA hS g1 dL_law_176 ?_
    rw [← hy1]
    refine lv_aload_n (pc := 177) hx hb dL_law_177 rfl (lv_at hl 0 rfl) ?_
    refine lv_iload_n (pc := 178) hx hb dL_law_178 rfl (lv_at hl 3 rfl) ?_
    refine lv_iconst (v := 2) (pc := 179) hx hb dL_law_179 (by decide) ?_
    refine lv_iadd (pc := 180) hx hb dL_law_180 ?_
    refine va_sld (pc := 181) hx hb hX hbl hbA hS g2 dL_law_181 ?_
    rw [← hy2]
    refine kG_W (pc := 182) (ci := 6) ⟨hx, hb, hml, hown, hts⟩ (vP_l hP) hK (vD_l hD) hS hA [.int y1, .int y2] (c_X6_weigh_neg l D cI cJ (o 0) (A 0 0) (A 0 1) (A 0 2) (A 0 3) (A 0 4) (A 0 5) (A 0 6) (A 0 7) (A 0 8) (A 0 9) (A 0 10) (A 0 11) (A 0 12) (A 0 13) (A 0 14) (A 0 15) (A 0 16) (A 0 17) (A 1 0) (A 1 1) (A 1 2) (A 1 3) (A 1 4) (A 1 5) (A 1 6) (A 1 7) (A 1 8) (A 1 9) (A 1 10) (A 1 11) (A 1 12) (A 1 13) (A 1 14) (A 1 15) (A 1 16) (A 1 17) (A 2 0) (A 2 1) (A 2 2) (A 2 3) (A 2 4) (A 2 5) (A 2 6) (A 2 7) (A 2 8) (A 2 9) (A 2 10) (A 2 11) (A 2 12) (A 2 13) (A 2 14) (A 2 15) (A 2 16) (A 2 17) (A 3 0) (A 3 1) (A 3 2) (A 3 3) (A 3 4) (A 3 5) (A 3 6) (A 3 7) (A 3 8) (A 3 9) (A 3 10) (A 3 11) (A 3 12) (A 3 13) (A 3 14) (A 3 15) (A 3 16) (A 3 17) (A 4 0) (A 4 1) (A 4 2) (A 4 3) (A 4 4) (A 4 5) (A 4 6) (A 4 7) (A 4 8) (A 4 9) (A 4 10) (A 4 11) (A 4 12) (A 4 13) (A 4 14) (A 4 15) (A 4 16) (A 4 17) (A 5 0) (A 5 1) (A 5 2) (A 5 3) (A 5 4) (A 5 5) (A 5 6) (A 5 7) (A 5 8) (A 5 9) (A 5 10) (A 5 11) (A 5 12) (A 5 13) (A 5 14) (A 5 15) (A 5 16) (A 5 17) (o 1) (o 2) (o 3) (o 4) (o 5) (nI r) (v 0 0) (v 0 1) (v 0 2) (v 0 3) (v 0 4) (f 0 0) (f 0 1) (f 0 2) (f 0 3) (f 0 4) (f 0 5) (v 0 5) (f 0 6) (f 0 7) (v 1 0) (v 1 1) (v 1 2) (v 1 3) (v 1 4) (f 1 0) (f 1 1) (f 1 2) (f 1 3) (f 1 4) (f 1 5) (v 1 5) (f 1 6) (f 1 7) (v 2 0) (v 2 1) (v 2 2) (v 2 3) (v 2 4) (f 2 0) (f 2 1) (f 2 2) (f 2 3) (f 2 4) (f 2 5) (v 2 5) (f 2 6) (f 2 7) (v 3 0) (v 3 1) (v 3 2) (v 3 3) (v 3 4) (f 3 0) (f 3 1) (f 3 2) (f 3 3) (f 3 4) (f 3 5) (v 3 5) (f 3 6) (f 3 7) (v 4 0) (v 4 1) (v 4 2) (v 4 3) (v 4 4) (f 4 0) (f 4 1) (f 4 2) (f 4 3) (f 4 4) (f 4 5) (v 4 5) (f 4 6) (f 4 7) (v 5 0) (v 5 1) (v 5 2) (v 5 3) (v 5 4) (f 5 0) (f 5 1) (f 5 2) (f 5 3) (f 5 4) (f 5 5) (v 5 5) (f 5 6) (f 5 7) (u 0) (u 1) (u 2) (u 3) (u 4) (u 5) (u 6) (u 7) (u 8) ch xn xa xr y1 y2 ans (v' 0) (v' 1) (v' 2) (v' 3) (v' 4) (f' 0) (f' 1) (f' 2) (f' 3) (f' 4) (f' 5) (v' 5) (f' 6) (f' 7) e1 hn _) (cwV 2 hts (gzV wl185 wl186 wl187 wl2 wl188) rfl rfl rfl ⟨rfl, hdX6_weigh⟩ ⟨Nat.le_of_ble_eq_true rfl, Nat.le_of_ble_eq_true rfl⟩) rfl rfl [] rfl hl.1 rfl (Nat.le_of_ble_eq_true rfl) dL_law_182 hCN (fun H locs hP1 hk1 hS => ?_)
    obtain ⟨hP, hD⟩ := kJoinL hP hD hk1 hP1 rfl
    replace hP : va_P D vwCl (plW cI cJ o (nI r) A (gII [v 0, v', v 2, v 3, v 4, v 5]) (gFF [f 0, f', f 2, f 3, f 4, f 5]) u ch xn xa xr ++ mdW cI cJ a mm ar rr) H := hP
    replace hD : va_D (lA s) (plW cI cJ o (nI r) A (gII [v 0, v', v 2, v 3, v 4, v 5]) (gFF [f 0, f', f 2, f 3, f 4, f 5]) u ch xn xa xr ++ mdW cI cJ a mm ar rr) := hD
    refine lv_aload_n (pc := 185) hx hb dL_law_185 rfl (lv_at hl 2 rfl) ?_
    refine lv_aload_n (pc := 186) hx hb dL_law_186 rfl (lv_at hl 0 rfl) ?_
    refine lv_iload_n (pc := 187) hx hb dL_law_187 rfl (lv_at hl 3 rfl) ?_
    refine lv_iconst (v := 1) (pc := 188) hx hb dL_law_188 (by decide) ?_
    refine lv_iadd (pc := 189) hx hb dL_law_189 ?_
    refine va_sld (pc := 190) hx hb hX hbl hbA hS g1 dL_law_190 ?_
    rw [← hy1]
    refine lv_aload_n (pc := 191) hx hb dL_law_191 rfl (lv_at hl 0 rfl) ?_
    refine lv_iload_n (pc := 192) hx hb dL_law_192 rfl (lv_at hl 3 rfl) ?_
    refine lv_iconst (v := 2) (pc := 193) hx hb dL_law_193 (by decide) ?_
    refine lv_iadd (pc := 194) hx hb dL_law_194 ?_
    refine va_sld (pc := 195) hx hb hX hbl hbA hS g2 dL_law_195 ?_
    rw [← hy2]
    refine kG_W (pc := 196) (ci := 7) ⟨hx, hb, hml, hown, hts⟩ (vP_r hP) hK (vD_r hD) hS hA [.int y1, .int y2] (c_X7_weigh l D cI cJ (a 0) (a 1) (a 2) (a 3) (a 4) (a 5) (a 6) (a 7) (a 8) (a 9) (mm 0) (mm 1) (mm 2) (mm 3) (mm 4) (mm 5) (mm 6) (mm 7) (mm 8) (ar 0) (ar 1) (ar 2) (ar 3) (ar 4) (ar 5) rr (ar 6) (ar 7) y1 y2 ans (nI r) (ar 0) (ar 1) (by rw [m0, m1]; exact e2) _) (cwV 2 hts (gzV wl217 wl218 wl219 wl5 wl220) rfl rfl rfl ⟨rfl, hdX7_weigh⟩ ⟨Nat.le_of_ble_eq_true rfl, Nat.le_of_ble_eq_true rfl⟩) rfl rfl [.int ans] rfl hl.1 rfl (Nat.le_of_ble_eq_true rfl) dL_law_196 hCN (fun H locs hP1 hk1 hS => ?_)
    obtain ⟨hP, hD⟩ := kJoinR hP hD hk1 hP1 rfl
    refine lv_icmp_eq (pc := 199) (tgt := 698) hx hb dL_law_199 (by decide) (fun _ => ?_) (fun h => absurd rfl h)
    exact kk H locs ls ⟨o, (nI r), A, (gII [v 0, v', v 2, v 3, v 4, v 5]), (gFF [f 0, f', f 2, f 3, f 4, f 5]), u, ch, xn, xa, xr, a, (gI [nI r, mm 1, mm 2, mm 3, mm 4, mm 5, mm 6, mm 7, mm 8]), (gII [ar 0, ar 1, ar 2, ar 3, ar 4, ar 5, ar 6, ar 7]), rr, rfl, rfl, ⟨r, Lt, ct, hr4, rfl, rfl, m1, u0, m2, hT, hR, hist_keep hr4 hH rfl rfl rfl rfl rfl rfl rfl rfl⟩, hP, hD, hS⟩ hl
  · refine lv_aload_n (pc := 171) hx hb dL_law_171 rfl (lv_at hl 1 rfl) ?_
    refine lv_aload_n (pc := 172) hx hb dL_law_172 rfl (lv_at hl 0 rfl) ?_
    refine lv_iload_n (pc := 173) hx hb dL_law_173 rfl (lv_at hl 3 rfl) ?_
    refine lv_iconst (v := 1) (pc := 174) hx hb dL_law_174 (by decide) ?_
    refine lv_iadd (pc := 175) hx hb dL_law_175 ?_
    refine va_sld (pc := 176) hx hb hX hbl hbA hS g1 dL_law_176 ?_
    rw [← hy1]
    refine lv_aload_n (pc := 177) hx hb dL_law_177 rfl (lv_at hl 0 rfl) ?_
    refine lv_iload_n (pc := 178) hx hb dL_law_178 rfl (lv_at hl 3 rfl) ?_
    refine lv_iconst (v := 2) (pc := 179) hx hb dL_law_179 (by decide) ?_
    refine lv_iadd (pc := 180) hx hb dL_law_180 ?_
    refine va_sld (pc := 181) hx hb hX hbl hbA hS g2 dL_law_181 ?_
    rw [← hy2]
    refine kG_W (pc := 182) (ci := 6) ⟨hx, hb, hml, hown, hts⟩ (vP_l hP) hK (vD_l hD) hS hA [.int y1, .int y2] (c_X6_weigh_pos l D cI cJ (o 0) (A 0 0) (A 0 1) (A 0 2) (A 0 3) (A 0 4) (A 0 5) (A 0 6) (A 0 7) (A 0 8) (A 0 9) (A 0 10) (A 0 11) (A 0 12) (A 0 13) (A 0 14) (A 0 15) (A 0 16) (A 0 17) (A 1 0) (A 1 1) (A 1 2) (A 1 3) (A 1 4) (A 1 5) (A 1 6) (A 1 7) (A 1 8) (A 1 9) (A 1 10) (A 1 11) (A 1 12) (A 1 13) (A 1 14) (A 1 15) (A 1 16) (A 1 17) (A 2 0) (A 2 1) (A 2 2) (A 2 3) (A 2 4) (A 2 5) (A 2 6) (A 2 7) (A 2 8) (A 2 9) (A 2 10) (A 2 11) (A 2 12) (A 2 13) (A 2 14) (A 2 15) (A 2 16) (A 2 17) (A 3 0) (A 3 1) (A 3 2) (A 3 3) (A 3 4) (A 3 5) (A 3 6) (A 3 7) (A 3 8) (A 3 9) (A 3 10) (A 3 11) (A 3 12) (A 3 13) (A 3 14) (A 3 15) (A 3 16) (A 3 17) (A 4 0) (A 4 1) (A 4 2) (A 4 3) (A 4 4) (A 4 5) (A 4 6) (A 4 7) (A 4 8) (A 4 9) (A 4 10) (A 4 11) (A 4 12) (A 4 13) (A 4 14) (A 4 15) (A 4 16) (A 4 17) (A 5 0) (A 5 1) (A 5 2) (A 5 3) (A 5 4) (A 5 5) (A 5 6) (A 5 7) (A 5 8) (A 5 9) (A 5 10) (A 5 11) (A 5 12) (A 5 13) (A 5 14) (A 5 15) (A 5 16) (A 5 17) (o 1) (o 2) (o 3) (o 4) (o 5) (nI r) (v 0 0) (v 0 1) (v 0 2) (v 0 3) (v 0 4) (f 0 0) (f 0 1) (f 0 2) (f 0 3) (f 0 4) (f 0 5) (v 0 5) (f 0 6) (f 0 7) (v 1 0) (v 1 1) (v 1 2) (v 1 3) (v 1 4) (f 1 0) (f 1 1) (f 1 2) (f 1 3) (f 1 4) (f 1 5) (v 1 5) (f 1 6) (f 1 7) (v 2 0) (v 2 1) (v 2 2) (v 2 3) (v 2 4) (f 2 0) (f 2 1) (f 2 2) (f 2 3) (f 2 4) (f 2 5) (v 2 5) (f 2 6) (f 2 7) (v 3 0) (v 3 1) (v 3 2) (v 3 3) (v 3 4) (f 3 0) (f 3 1) (f 3 2) (f 3 3) (f 3 4) (f 3 5) (v 3 5) (f 3 6) (f 3 7) (v 4 0) (v 4 1) (v 4 2) (v 4 3) (v 4 4) (f 4 0) (f 4 1) (f 4 2) (f 4 3) (f 4 4) (f 4 5) (v 4 5) (f 4 6) (f 4 7) (v 5 0) (v 5 1) (v 5 2) (v 5 3) (v 5 4) (f 5 0) (f 5 1) (f 5 2) (f 5 3) (f 5 4) (f 5 5) (v 5 5) (f 5 6) (f 5 7) (u 0) (u 1) (u 2) (u 3) (u 4) (u 5) (u 6) (u 7) (u 8) ch xn xa xr y1 y2 ans (v' 0) (v' 1) (v' 2) (v' 3) (v' 4) (f' 0) (f' 1) (f' 2) (f' 3) (f' 4) (f' 5) (v' 5) (f' 6) (f' 7) e1 hp _) (cwV 2 hts (gzV wl185 wl186 wl187 wl2 wl188) rfl rfl rfl ⟨rfl, hdX6_weigh⟩ ⟨Nat.le_of_ble_eq_true rfl, Nat.le_of_ble_eq_true rfl⟩) rfl rfl [] rfl hl.1 rfl (Nat.le_of_ble_eq_true rfl) dL_law_182 hCN (fun H locs hP1 hk1 hS => ?_)
    obtain ⟨hP, hD⟩ := kJoinL hP hD hk1 hP1 rfl
    replace hP : va_P D vwCl (plW cI cJ o (keepRec (nI r)) (gNN [A 1, A 5, A 0, A 2, A 3, A 4]) (gII [v', v 5, v 0, v 2, v 3, v 4]) (gFF [f', f 5, f 0, f 2, f 3, f 4]) u ch xn xa xr ++ mdW cI cJ a mm ar rr) H := hP.sub [0, 19, 20, 21, 22, 23, 24, 25, 26, 27, 28, 29, 30, 31, 32, 33, 34, 35, 36, 91, 92, 93, 94, 95, 96, 97, 98, 99, 100, 101, 102, 103, 104, 105, 106, 107, 108, 1, 2, 3, 4, 5, 6, 7, 8, 9, 10, 11, 12, 13, 14, 15, 16, 17, 18, 37, 38, 39, 40, 41, 42, 43, 44, 45, 46, 47, 48, 49, 50, 51, 52, 53, 54, 55, 56, 57, 58, 59, 60, 61, 62, 63, 64, 65, 66, 67, 68, 69, 70, 71, 72, 73, 74, 75, 76, 77, 78, 79, 80, 81, 82, 83, 84, 85, 86, 87, 88, 89, 90, 109, 110, 111, 112, 113, 114, 115, 116, 117, 118, 119, 120, 121, 122, 123] rfl
    replace hD : va_D (lA s) (plW cI cJ o (keepRec (nI r)) (gNN [A 1, A 5, A 0, A 2, A 3, A 4]) (gII [v', v 5, v 0, v 2, v 3, v 4]) (gFF [f', f 5, f 0, f 2, f 3, f 4]) u ch xn xa xr ++ mdW cI cJ a mm ar rr) := hD.sub [0, 19, 20, 21, 22, 23, 24, 25, 26, 27, 28, 29, 30, 31, 32, 33, 34, 35, 36, 91, 92, 93, 94, 95, 96, 97, 98, 99, 100, 101, 102, 103, 104, 105, 106, 107, 108, 1, 2, 3, 4, 5, 6, 7, 8, 9, 10, 11, 12, 13, 14, 15, 16, 17, 18, 37, 38, 39, 40, 41, 42, 43, 44, 45, 46, 47, 48, 49, 50, 51, 52, 53, 54, 55, 56, 57, 58, 59, 60, 61, 62, 63, 64, 65, 66, 67, 68, 69, 70, 71, 72, 73, 74, 75, 76, 77, 78, 79, 80, 81, 82, 83, 84, 85, 86, 87, 88, 89, 90, 109, 110, 111, 112, 113, 114, 115, 116, 117, 118, 119, 120, 121, 122, 123] (by decide +kernel) rfl
    refine lv_aload_n (pc := 185) hx hb dL_law_185 rfl (lv_at hl 2 rfl) ?_
    refine lv_aload_n (pc := 186) hx hb dL_law_186 rfl (lv_at hl 0 rfl) ?_
    refine lv_iload_n (pc := 187) hx hb dL_law_187 rfl (lv_at hl 3 rfl) ?_
    refine lv_iconst (v := 1) (pc := 188) hx hb dL_law_188 (by decide) ?_
    refine lv_iadd (pc := 189) hx hb dL_law_189 ?_
    refine va_sld (pc := 190) hx hb hX hbl hbA hS g1 dL_law_190 ?_
    rw [← hy1]
    refine lv_aload_n (pc := 191) hx hb dL_law_191 rfl (lv_at hl 0 rfl) ?_
    refine lv_iload_n (pc := 192) hx hb dL_law_192 rfl (lv_at hl 3 rfl) ?_
    refine lv_iconst (v := 2) (pc := 193) hx hb dL_law_193 (by decide) ?_
    refine lv_iadd (pc := 194) hx hb dL_law_194 ?_
    refine va_sld (pc := 195) hx hb hX hbl hbA hS g2 dL_law_195 ?_
    rw [← hy2]
    refine kG_W (pc := 196) (ci := 7) ⟨hx, hb, hml, hown, hts⟩ (vP_r hP) hK (vD_r hD) hS hA [.int y1, .int y2] (c_X7_weigh l D cI cJ (a 0) (a 1) (a 2) (a 3) (a 4) (a 5) (a 6) (a 7) (a 8) (a 9) (mm 0) (mm 1) (mm 2) (mm 3) (mm 4) (mm 5) (mm 6) (mm 7) (mm 8) (ar 0) (ar 1) (ar 2) (ar 3) (ar 4) (ar 5) rr (ar 6) (ar 7) y1 y2 ans (nI (nx r)) s' fp (by rw [m0, m1]; exact e2) _) (cwV 2 hts (gzV wl217 wl218 wl219 wl5 wl220) rfl rfl rfl ⟨rfl, hdX7_weigh⟩ ⟨Nat.le_of_ble_eq_true rfl, Nat.le_of_ble_eq_true rfl⟩) rfl rfl [.int ans] rfl hl.1 rfl (Nat.le_of_ble_eq_true rfl) dL_law_196 hCN (fun H locs hP1 hk1 hS => ?_)
    obtain ⟨hP, hD⟩ := kJoinR hP hD hk1 hP1 rfl
    refine lv_icmp_eq (pc := 199) (tgt := 698) hx hb dL_law_199 (by decide) (fun _ => ?_) (fun h => absurd rfl h)
    exact kk H locs ls ⟨o, (keepRec (nI r)), (gNN [A 1, A 5, A 0, A 2, A 3, A 4]), (gII [v', v 5, v 0, v 2, v 3, v 4]), (gFF [f', f 5, f 0, f 2, f 3, f 4]), u, ch, xn, xa, xr, a, (gI [nI (nx r), mm 1, mm 2, mm 3, mm 4, mm 5, mm 6, mm 7, mm 8]), (gII [s', fp, ar 2, ar 3, ar 4, ar 5, ar 6, ar 7]), rr, rfl, rfl, ⟨nx r, Lt, ct, (nx_le hr4).1, keep_nx hr4, rfl, m1, u0, m2, hT, hR', hist_push hr4 hR hH hq rfl rfl rfl rfl rfl rfl rfl rfl⟩, hP, hD, hS⟩ hl
set_option maxHeartbeats 20000000 in
set_option maxRecDepth 100000 in
theorem st_move {p : Program} {e : Env} {s : State} {m : MethodId} {below : List Frame} {meth : Method} {c : Code} {l : Launch} {b L : Nat} {xs : Nat → Int32} {D : va_G} {cI cJ : ClassId} {b1 b2 i : Nat} {C N : Nat} {Q : State → Prop} {H : Heap} {locs : List Loc} {ls : Array Slot} (X : LCtx p m meth c s b L xs D cI cJ) (hL : L ≤ 2560) (hi : i + 5 ≤ L) (hCN : C ≤ room_1.cells ∧ N ≤ room_1.slots) (kk : ∀ (H : Heap) (locs : List Loc) (ls : Array Slot), LInv D cI cJ s b1 b2 H locs → lv_has ls 4 [(0, .ref b), (1, .ref b1), (2, .ref b2), (3, .int (nI i))] → W p l e room_1 s m #[Value.ref b] below meth c H locs C N Q (F0 m 698 ls [])) (I : LInv D cI cJ s b1 b2 H locs) (hl : lv_has ls 4 [(0, .ref b), (1, .ref b1), (2, .ref b2), (3, .int (nI i))]) : W p l e room_1 s m #[Value.ref b] below meth c H locs C N Q (F0 m 204 ls []) := by
  obtain ⟨hx, hb, hr, hml, hown, hts, hX, hbl, hK⟩ := X
  obtain ⟨o, rec, A, v, f, u, ch, xn, xa, xr, a, mm, ar, rr, rfl, rfl, hY, hP, hD, hS⟩ := I
  obtain ⟨r, Lt, ct, hr4, rfl, m0, m1, u0, m2, hT, hR, hH⟩ := hY
  have hA : ∀ q : Nat, s.heap.size ≤ q → lA s q := fun _ h => h
  have hbA : ¬ lA s b := Nat.not_le.mpr hbl
  have g1 : vp_in (nI i + 1) L := ix_in hL (k := 1) (by omega) (id rfl)
  obtain ⟨y1, hy1⟩ : ∃ y : Int32, y = xs (nI i + 1).toNatClampNeg := ⟨_, rfl⟩
  have g2 : vp_in (nI i + 2) L := ix_in hL (k := 2) (by omega) (id rfl)
  obtain ⟨y2, hy2⟩ : ∃ y : Int32, y = xs (nI i + 2).toNatClampNeg := ⟨_, rfl⟩
  obtain ⟨ans, v', f', e1, h⟩ := s_move (v := v) (f := f) (s := ar 0) (r := r) hR hr4 (ar 1) y1 y2
  rcases h with ⟨hn, e2⟩ | ⟨hp, s', fp, e2, hq, hR'⟩
  · refine lv_aload_n (pc := 204) hx hb dL_law_204 rfl (lv_at hl 1 rfl) ?_
    refine lv_aload_n (pc := 205) hx hb dL_law_205 rfl (lv_at hl 0 rfl) ?_
    refine lv_iload_n (pc := 206) hx hb dL_law_206 rfl (lv_at hl 3 rfl) ?_
    refine lv_iconst (v := 1) (pc := 207) hx hb dL_law_207 (by decide) ?_
    refine lv_iadd (pc := 208) hx hb dL_law_208 ?_
    refine va_sld (pc := 209) hx hb hX hbl hbA hS g1 dL_law_209 ?_
    rw [← hy1]
    refine lv_aload_n (pc := 210) hx hb dL_law_210 rfl (lv_at hl 0 rfl) ?_
    refine lv_iload_n (pc := 211) hx hb dL_law_211 rfl (lv_at hl 3 rfl) ?_
    refine lv_iconst (v := 2) (pc := 212) hx hb dL_law_212 (by decide) ?_
    refine lv_iadd (pc := 213) hx hb dL_law_213 ?_
    refine va_sld (pc := 214) hx hb hX hbl hbA hS g2 dL_law_214 ?_
    rw [← hy2]
    refine kG_W (pc := 215) (ci := 6) ⟨hx, hb, hml, hown, hts⟩ (vP_l hP) hK (vD_l hD) hS hA [.int y1, .int y2] (c_X6_move_neg l D cI cJ (o 0) (A 0 0) (A 0 1) (A 0 2) (A 0 3) (A 0 4) (A 0 5) (A 0 6) (A 0 7) (A 0 8) (A 0 9) (A 0 10) (A 0 11) (A 0 12) (A 0 13) (A 0 14) (A 0 15) (A 0 16) (A 0 17) (A 1 0) (A 1 1) (A 1 2) (A 1 3) (A 1 4) (A 1 5) (A 1 6) (A 1 7) (A 1 8) (A 1 9) (A 1 10) (A 1 11) (A 1 12) (A 1 13) (A 1 14) (A 1 15) (A 1 16) (A 1 17) (A 2 0) (A 2 1) (A 2 2) (A 2 3) (A 2 4) (A 2 5) (A 2 6) (A 2 7) (A 2 8) (A 2 9) (A 2 10) (A 2 11) (A 2 12) (A 2 13) (A 2 14) (A 2 15) (A 2 16) (A 2 17) (A 3 0) (A 3 1) (A 3 2) (A 3 3) (A 3 4) (A 3 5) (A 3 6) (A 3 7) (A 3 8) (A 3 9) (A 3 10) (A 3 11) (A 3 12) (A 3 13) (A 3 14) (A 3 15) (A 3 16) (A 3 17) (A 4 0) (A 4 1) (A 4 2) (A 4 3) (A 4 4) (A 4 5) (A 4 6) (A 4 7) (A 4 8) (A 4 9) (A 4 10) (A 4 11) (A 4 12) (A 4 13) (A 4 14) (A 4 15) (A 4 16) (A 4 17) (A 5 0) (A 5 1) (A 5 2) (A 5 3) (A 5 4) (A 5 5) (A 5 6) (A 5 7) (A 5 8) (A 5 9) (A 5 10) (A 5 11) (A 5 12) (A 5 13) (A 5 14) (A 5 15) (A 5 16) (A 5 17) (o 1) (o 2) (o 3) (o 4) (o 5) (nI r) (v 0 0) (v 0 1) (v 0 2) (v 0 3) (v 0 4) (f 0 0) (f 0 1) (f 0 2) (f 0 3) (f 0 4) (f 0 5) (v 0 5) (f 0 6) (f 0 7) (v 1 0) (v 1 1) (v 1 2) (v 1 3) (v 1 4) (f 1 0) (f 1 1) (f 1 2) (f 1 3) (f 1 4) (f 1 5) (v 1 5) (f 1 6) (f 1 7) (v 2 0) (v 2 1) (v 2 2) (v 2 3) (v 2 4) (f 2 0) (f 2 1) (f 2 2) (f 2 3) (f 2 4) (f 2 5) (v 2 5) (f 2 6) (f 2 7) (v 3 0) (v 3 1) (v 3 2) (v 3 3) (v 3 4) (f 3 0) (f 3 1) (f 3 2) (f 3 3) (f 3 4) (f 3 5) (v 3 5) (f 3 6) (f 3 7) (v 4 0) (v 4 1) (v 4 2) (v 4 3) (v 4 4) (f 4 0) (f 4 1) (f 4 2) (f 4 3) (f 4 4) (f 4 5) (v 4 5) (f 4 6) (f 4 7) (v 5 0) (v 5 1) (v 5 2) (v 5 3) (v 5 4) (f 5 0) (f 5 1) (f 5 2) (f 5 3) (f 5 4) (f 5 5) (v 5 5) (f 5 6) (f 5 7) (u 0) (u 1) (u 2) (u 3) (u 4) (u 5) (u 6) (u 7) (u 8) ch xn xa xr y1 y2 ans (v' 0) (v' 1) (v' 2) (v' 3) (v' 4) (f' 0) (f' 1) (f' 2) (f' 3) (f' 4) (f' 5) (v' 5) (f' 6) (f' 7) e1 hn _) (cwV 2 hts (gzV wl238 wl239 wl240 wl2 wl241) rfl rfl rfl ⟨rfl, hdX6_move⟩ ⟨Nat.le_of_ble_eq_true rfl, Nat.le_of_ble_eq_true rfl⟩) rfl rfl [] rfl hl.1 rfl (Nat.le_of_ble_eq_true rfl) dL_law_215 hCN (fun H locs hP1 hk1 hS => ?_)
    obtain ⟨hP, hD⟩ := kJoinL hP hD hk1 hP1 rfl
    replace hP : va_P D vwCl (plW cI cJ o (nI r) A (gII [v 0, v', v 2, v 3, v 4, v 5]) (gFF [f 0, f', f 2, f 3, f 4, f 5]) u ch xn xa xr ++ mdW cI cJ a mm ar rr) H := hP
    replace hD : va_D (lA s) (plW cI cJ o (nI r) A (gII [v 0, v', v 2, v 3, v 4, v 5]) (gFF [f 0, f', f 2, f 3, f 4, f 5]) u ch xn xa xr ++ mdW cI cJ a mm ar rr) := hD
    refine lv_aload_n (pc := 218) hx hb dL_law_218 rfl (lv_at hl 2 rfl) ?_
    refine lv_aload_n (pc := 219) hx hb dL_law_219 rfl (lv_at hl 0 rfl) ?_
    refine lv_iload_n (pc := 220) hx hb dL_law_220 rfl (lv_at hl 3 rfl) ?_
    refine lv_iconst (v := 1) (pc := 221) hx hb dL_law_221 (by decide) ?_
    refine lv_iadd (pc := 222) hx hb dL_law_222 ?_
    refine va_sld (pc := 223) hx hb hX hbl hbA hS g1 dL_law_223 ?_
    rw [← hy1]
    refine lv_aload_n (pc := 224) hx hb dL_law_224 rfl (lv_at hl 0 rfl) ?_
    refine lv_iload_n (pc := 225) hx hb dL_law_225 rfl (lv_at hl 3 rfl) ?_
    refine lv_iconst (v := 2) (pc := 226) hx hb dL_law_226 (by decide) ?_
    refine lv_iadd (pc := 227) hx hb dL_law_227 ?_
    refine va_sld (pc := 228) hx hb hX hbl hbA hS g2 dL_law_228 ?_
    rw [← hy2]
    refine kG_W (pc := 229) (ci := 7) ⟨hx, hb, hml, hown, hts⟩ (vP_r hP) hK (vD_r hD) hS hA [.int y1, .int y2] (c_X7_move l D cI cJ (a 0) (a 1) (a 2) (a 3) (a 4) (a 5) (a 6) (a 7) (a 8) (a 9) (mm 0) (mm 1) (mm 2) (mm 3) (mm 4) (mm 5) (mm 6) (mm 7) (mm 8) (ar 0) (ar 1) (ar 2) (ar 3) (ar 4) (ar 5) rr (ar 6) (ar 7) y1 y2 ans (nI r) (ar 0) (ar 1) (by rw [m0, m1]; exact e2) _) (cwV 2 hts (gzV wl271 wl272 wl273 wl5 wl274) rfl rfl rfl ⟨rfl, hdX7_move⟩ ⟨Nat.le_of_ble_eq_true rfl, Nat.le_of_ble_eq_true rfl⟩) rfl rfl [.int ans] rfl hl.1 rfl (Nat.le_of_ble_eq_true rfl) dL_law_229 hCN (fun H locs hP1 hk1 hS => ?_)
    obtain ⟨hP, hD⟩ := kJoinR hP hD hk1 hP1 rfl
    refine lv_icmp_eq (pc := 232) (tgt := 698) hx hb dL_law_232 (by decide) (fun _ => ?_) (fun h => absurd rfl h)
    exact kk H locs ls ⟨o, (nI r), A, (gII [v 0, v', v 2, v 3, v 4, v 5]), (gFF [f 0, f', f 2, f 3, f 4, f 5]), u, ch, xn, xa, xr, a, (gI [nI r, mm 1, mm 2, mm 3, mm 4, mm 5, mm 6, mm 7, mm 8]), (gII [ar 0, ar 1, ar 2, ar 3, ar 4, ar 5, ar 6, ar 7]), rr, rfl, rfl, ⟨r, Lt, ct, hr4, rfl, rfl, m1, u0, m2, hT, hR, hist_keep hr4 hH rfl rfl rfl rfl rfl rfl rfl rfl⟩, hP, hD, hS⟩ hl
  · refine lv_aload_n (pc := 204) hx hb dL_law_204 rfl (lv_at hl 1 rfl) ?_
    refine lv_aload_n (pc := 205) hx hb dL_law_205 rfl (lv_at hl 0 rfl) ?_
    refine lv_iload_n (pc := 206) hx hb dL_law_206 rfl (lv_at hl 3 rfl) ?_
    refine lv_iconst (v := 1) (pc := 207) hx hb dL_law_207 (by decide) ?_
    refine lv_iadd (pc := 208) hx hb dL_law_208 ?_
    refine va_sld (pc := 209) hx hb hX hbl hbA hS g1 dL_law_209 ?_
    rw [← hy1]
    refine lv_aload_n (pc := 210) hx hb dL_law_210 rfl (lv_at hl 0 rfl) ?_
    refine lv_iload_n (pc := 211) hx hb dL_law_211 rfl (lv_at hl 3 rfl) ?_
    refine lv_iconst (v := 2) (pc := 212) hx hb dL_law_212 (by decide) ?_
    refine lv_iadd (pc := 213) hx hb dL_law_213 ?_
    refine va_sld (pc := 214) hx hb hX hbl hbA hS g2 dL_law_214 ?_
    rw [← hy2]
    refine kG_W (pc := 215) (ci := 6) ⟨hx, hb, hml, hown, hts⟩ (vP_l hP) hK (vD_l hD) hS hA [.int y1, .int y2] (c_X6_move_pos l D cI cJ (o 0) (A 0 0) (A 0 1) (A 0 2) (A 0 3) (A 0 4) (A 0 5) (A 0 6) (A 0 7) (A 0 8) (A 0 9) (A 0 10) (A 0 11) (A 0 12) (A 0 13) (A 0 14) (A 0 15) (A 0 16) (A 0 17) (A 1 0) (A 1 1) (A 1 2) (A 1 3) (A 1 4) (A 1 5) (A 1 6) (A 1 7) (A 1 8) (A 1 9) (A 1 10) (A 1 11) (A 1 12) (A 1 13) (A 1 14) (A 1 15) (A 1 16) (A 1 17) (A 2 0) (A 2 1) (A 2 2) (A 2 3) (A 2 4) (A 2 5) (A 2 6) (A 2 7) (A 2 8) (A 2 9) (A 2 10) (A 2 11) (A 2 12) (A 2 13) (A 2 14) (A 2 15) (A 2 16) (A 2 17) (A 3 0) (A 3 1) (A 3 2) (A 3 3) (A 3 4) (A 3 5) (A 3 6) (A 3 7) (A 3 8) (A 3 9) (A 3 10) (A 3 11) (A 3 12) (A 3 13) (A 3 14) (A 3 15) (A 3 16) (A 3 17) (A 4 0) (A 4 1) (A 4 2) (A 4 3) (A 4 4) (A 4 5) (A 4 6) (A 4 7) (A 4 8) (A 4 9) (A 4 10) (A 4 11) (A 4 12) (A 4 13) (A 4 14) (A 4 15) (A 4 16) (A 4 17) (A 5 0) (A 5 1) (A 5 2) (A 5 3) (A 5 4) (A 5 5) (A 5 6) (A 5 7) (A 5 8) (A 5 9) (A 5 10) (A 5 11) (A 5 12) (A 5 13) (A 5 14) (A 5 15) (A 5 16) (A 5 17) (o 1) (o 2) (o 3) (o 4) (o 5) (nI r) (v 0 0) (v 0 1) (v 0 2) (v 0 3) (v 0 4) (f 0 0) (f 0 1) (f 0 2) (f 0 3) (f 0 4) (f 0 5) (v 0 5) (f 0 6) (f 0 7) (v 1 0) (v 1 1) (v 1 2) (v 1 3) (v 1 4) (f 1 0) (f 1 1) (f 1 2) (f 1 3) (f 1 4) (f 1 5) (v 1 5) (f 1 6) (f 1 7) (v 2 0) (v 2 1) (v 2 2) (v 2 3) (v 2 4) (f 2 0) (f 2 1) (f 2 2) (f 2 3) (f 2 4) (f 2 5) (v 2 5) (f 2 6) (f 2 7) (v 3 0) (v 3 1) (v 3 2) (v 3 3) (v 3 4) (f 3 0) (f 3 1) (f 3 2) (f 3 3) (f 3 4) (f 3 5) (v 3 5) (f 3 6) (f 3 7) (v 4 0) (v 4 1) (v 4 2) (v 4 3) (v 4 4) (f 4 0) (f 4 1) (f 4 2) (f 4 3) (f 4 4) (f 4 5) (v 4 5) (f 4 6) (f 4 7) (v 5 0) (v 5 1) (v 5 2) (v 5 3) (v 5 4) (f 5 0) (f 5 1) (f 5 2) (f 5 3) (f 5 4) (f 5 5) (v 5 5) (f 5 6) (f 5 7) (u 0) (u 1) (u 2) (u 3) (u 4) (u 5) (u 6) (u 7) (u 8) ch xn xa xr y1 y2 ans (v' 0) (v' 1) (v' 2) (v' 3) (v' 4) (f' 0) (f' 1) (f' 2) (f' 3) (f' 4) (f' 5) (v' 5) (f' 6) (f' 7) e1 hp _) (cwV 2 hts (gzV wl238 wl239 wl240 wl2 wl241) rfl rfl rfl ⟨rfl, hdX6_move⟩ ⟨Nat.le_of_ble_eq_true rfl, Nat.le_of_ble_eq_true rfl⟩) rfl rfl [] rfl hl.1 rfl (Nat.le_of_ble_eq_true rfl) dL_law_215 hCN (fun H locs hP1 hk1 hS => ?_)
    obtain ⟨hP, hD⟩ := kJoinL hP hD hk1 hP1 rfl
    replace hP : va_P D vwCl (plW cI cJ o (keepRec (nI r)) (gNN [A 1, A 5, A 0, A 2, A 3, A 4]) (gII [v', v 5, v 0, v 2, v 3, v 4]) (gFF [f', f 5, f 0, f 2, f 3, f 4]) u ch xn xa xr ++ mdW cI cJ a mm ar rr) H := hP.sub [0, 19, 20, 21, 22, 23, 24, 25, 26, 27, 28, 29, 30, 31, 32, 33, 34, 35, 36, 91, 92, 93, 94, 95, 96, 97, 98, 99, 100, 101, 102, 103, 104, 105, 106, 107, 108, 1, 2, 3, 4, 5, 6, 7, 8, 9, 10, 11, 12, 13, 14, 15, 16, 17, 18, 37, 38, 39, 40, 41, 42, 43, 44, 45, 46, 47, 48, 49, 50, 51, 52, 53, 54, 55, 56, 57, 58, 59, 60, 61, 62, 63, 64, 65, 66, 67, 68, 69, 70, 71, 72, 73, 74, 75, 76, 77, 78, 79, 80, 81, 82, 83, 84, 85, 86, 87, 88, 89, 90, 109, 110, 111, 112, 113, 114, 115, 116, 117, 118, 119, 120, 121, 122, 123] rfl
    replace hD : va_D (lA s) (plW cI cJ o (keepRec (nI r)) (gNN [A 1, A 5, A 0, A 2, A 3, A 4]) (gII [v', v 5, v 0, v 2, v 3, v 4]) (gFF [f', f 5, f 0, f 2, f 3, f 4]) u ch xn xa xr ++ mdW cI cJ a mm ar rr) := hD.sub [0, 19, 20, 21, 22, 23, 24, 25, 26, 27, 28, 29, 30, 31, 32, 33, 34, 35, 36, 91, 92, 93, 94, 95, 96, 97, 98, 99, 100, 101, 102, 103, 104, 105, 106, 107, 108, 1, 2, 3, 4, 5, 6, 7, 8, 9, 10, 11, 12, 13, 14, 15, 16, 17, 18, 37, 38, 39, 40, 41, 42, 43, 44, 45, 46, 47, 48, 49, 50, 51, 52, 53, 54, 55, 56, 57, 58, 59, 60, 61, 62, 63, 64, 65, 66, 67, 68, 69, 70, 71, 72, 73, 74, 75, 76, 77, 78, 79, 80, 81, 82, 83, 84, 85, 86, 87, 88, 89, 90, 109, 110, 111, 112, 113, 114, 115, 116, 117, 118, 119, 120, 121, 122, 123] (by decide +kernel) rfl
    refine lv_aload_n (pc := 218) hx hb dL_law_218 rfl (lv_at hl 2 rfl) ?_
    refine lv_aload_n (pc := 219) hx hb dL_law_219 rfl (lv_at hl 0 rfl) ?_
    refine lv_iload_n (pc := 220) hx hb dL_law_220 rfl (lv_at hl 3 rfl) ?_
    refine lv_iconst (v := 1) (pc := 221) hx hb dL_law_221 (by decide) ?_
    refine lv_iadd (pc := 222) hx hb dL_law_222 ?_
    refine va_sld (pc := 223) hx hb hX hbl hbA hS g1 dL_law_223 ?_
    rw [← hy1]
    refine lv_aload_n (pc := 224) hx hb dL_law_224 rfl (lv_at hl 0 rfl) ?_
    refine lv_iload_n (pc := 225) hx hb dL_law_225 rfl (lv_at hl 3 rfl) ?_
    refine lv_iconst (v := 2) (pc := 226) hx hb dL_law_226 (by decide) ?_
    refine lv_iadd (pc := 227) hx hb dL_law_227 ?_
    refine va_sld (pc := 228) hx hb hX hbl hbA hS g2 dL_law_228 ?_
    rw [← hy2]
    refine kG_W (pc := 229) (ci := 7) ⟨hx, hb, hml, hown, hts⟩ (vP_r hP) hK (vD_r hD) hS hA [.int y1, .int y2] (c_X7_move l D cI cJ (a 0) (a 1) (a 2) (a 3) (a 4) (a 5) (a 6) (a 7) (a 8) (a 9) (mm 0) (mm 1) (mm 2) (mm 3) (mm 4) (mm 5) (mm 6) (mm 7) (mm 8) (ar 0) (ar 1) (ar 2) (ar 3) (ar 4) (ar 5) rr (ar 6) (ar 7) y1 y2 ans (nI (nx r)) s' fp (by rw [m0, m1]; exact e2) _) (cwV 2 hts (gzV wl271 wl272 wl273 wl5 wl274) rfl rfl rfl ⟨rfl, hdX7_move⟩ ⟨Nat.le_of_ble_eq_true rfl, Nat.le_of_ble_eq_true rfl⟩) rfl rfl [.int ans] rfl hl.1 rfl (Nat.le_of_ble_eq_true rfl) dL_law_229 hCN (fun H locs hP1 hk1 hS => ?_)
    obtain ⟨hP, hD⟩ := kJoinR hP hD hk1 hP1 rfl
    refine lv_icmp_eq (pc := 232) (tgt := 698) hx hb dL_law_232 (by decide) (fun _ => ?_) (fun h => absurd rfl h)
    exact kk H locs ls ⟨o, (keepRec (nI r)), (gNN [A 1, A 5, A 0, A 2, A 3, A 4]), (gII [v', v 5, v 0, v 2, v 3, v 4]), (gFF [f', f 5, f 0, f 2, f 3, f 4]), u, ch, xn, xa, xr, a, (gI [nI (nx r), mm 1, mm 2, mm 3, mm 4, mm 5, mm 6, mm 7, mm 8]), (gII [s', fp, ar 2, ar 3, ar 4, ar 5, ar 6, ar 7]), rr, rfl, rfl, ⟨nx r, Lt, ct, (nx_le hr4).1, keep_nx hr4, rfl, m1, u0, m2, hT, hR', hist_push hr4 hR hH hq rfl rfl rfl rfl rfl rfl rfl rfl⟩, hP, hD, hS⟩ hl
set_option maxHeartbeats 20000000 in
set_option maxRecDepth 100000 in
theorem st_observe {p : Program} {e : Env} {s : State} {m : MethodId} {below : List Frame} {meth : Method} {c : Code} {l : Launch} {b L : Nat} {xs : Nat → Int32} {D : va_G} {cI cJ : ClassId} {b1 b2 i : Nat} {C N : Nat} {Q : State → Prop} {H : Heap} {locs : List Loc} {ls : Array Slot} (X : LCtx p m meth c s b L xs D cI cJ) (hL : L ≤ 2560) (hi : i + 5 ≤ L) (hCN : C ≤ room_1.cells ∧ N ≤ room_1.slots) (kk : ∀ (H : Heap) (locs : List Loc) (ls : Array Slot), LInv D cI cJ s b1 b2 H locs → lv_has ls 4 [(0, .ref b), (1, .ref b1), (2, .ref b2), (3, .int (nI i))] → W p l e room_1 s m #[Value.ref b] below meth c H locs C N Q (F0 m 698 ls [])) (I : LInv D cI cJ s b1 b2 H locs) (hl : lv_has ls 4 [(0, .ref b), (1, .ref b1), (2, .ref b2), (3, .int (nI i))]) : W p l e room_1 s m #[Value.ref b] below meth c H locs C N Q (F0 m 237 ls []) := by
  obtain ⟨hx, hb, hr, hml, hown, hts, hX, hbl, hK⟩ := X
  obtain ⟨o, rec, A, v, f, u, ch, xn, xa, xr, a, mm, ar, rr, rfl, rfl, hY, hP, hD, hS⟩ := I
  obtain ⟨r, Lt, ct, hr4, rfl, m0, m1, u0, m2, hT, hR, hH⟩ := hY
  have hA : ∀ q : Nat, s.heap.size ≤ q → lA s q := fun _ h => h
  have hbA : ¬ lA s b := Nat.not_le.mpr hbl
  have g1 : vp_in (nI i + 1) L := ix_in hL (k := 1) (by omega) (id rfl)
  obtain ⟨y1, hy1⟩ : ∃ y : Int32, y = xs (nI i + 1).toNatClampNeg := ⟨_, rfl⟩
  have g2 : vp_in (nI i + 2) L := ix_in hL (k := 2) (by omega) (id rfl)
  obtain ⟨y2, hy2⟩ : ∃ y : Int32, y = xs (nI i + 2).toNatClampNeg := ⟨_, rfl⟩
  obtain ⟨ans, v', f', xn', xa', xr', e1, h⟩ := s_observe (v := v) (f := f) (s := ar 0) (r := r) hR hr4 (ar 1) (ar 4) (ar 5) rr (ar 6) xn xa xr y1 y2
  rcases h with ⟨hn, q7, e2⟩ | ⟨hp, s', fp, q4, q5, q6, q7, e2, hq, hR'⟩
  · refine lv_aload_n (pc := 237) hx hb dL_law_237 rfl (lv_at hl 1 rfl) ?_
    refine lv_aload_n (pc := 238) hx hb dL_law_238 rfl (lv_at hl 0 rfl) ?_
    refine lv_iload_n (pc := 239) hx hb dL_law_239 rfl (lv_at hl 3 rfl) ?_
    refine lv_iconst (v := 1) (pc := 240) hx hb dL_law_240 (by decide) ?_
    refine lv_iadd (pc := 241) hx hb dL_law_241 ?_
    refine va_sld (pc := 242) hx hb hX hbl hbA hS g1 dL_law_242 ?_
    rw [← hy1]
    refine lv_aload_n (pc := 243) hx hb dL_law_243 rfl (lv_at hl 0 rfl) ?_
    refine lv_iload_n (pc := 244) hx hb dL_law_244 rfl (lv_at hl 3 rfl) ?_
    refine lv_iconst (v := 2) (pc := 245) hx hb dL_law_245 (by decide) ?_
    refine lv_iadd (pc := 246) hx hb dL_law_246 ?_
    refine va_sld (pc := 247) hx hb hX hbl hbA hS g2 dL_law_247 ?_
    rw [← hy2]
    refine kG_W (pc := 248) (ci := 6) ⟨hx, hb, hml, hown, hts⟩ (vP_l hP) hK (vD_l hD) hS hA [.int y1, .int y2] (c_X6_observe_neg l D cI cJ (o 0) (A 0 0) (A 0 1) (A 0 2) (A 0 3) (A 0 4) (A 0 5) (A 0 6) (A 0 7) (A 0 8) (A 0 9) (A 0 10) (A 0 11) (A 0 12) (A 0 13) (A 0 14) (A 0 15) (A 0 16) (A 0 17) (A 1 0) (A 1 1) (A 1 2) (A 1 3) (A 1 4) (A 1 5) (A 1 6) (A 1 7) (A 1 8) (A 1 9) (A 1 10) (A 1 11) (A 1 12) (A 1 13) (A 1 14) (A 1 15) (A 1 16) (A 1 17) (A 2 0) (A 2 1) (A 2 2) (A 2 3) (A 2 4) (A 2 5) (A 2 6) (A 2 7) (A 2 8) (A 2 9) (A 2 10) (A 2 11) (A 2 12) (A 2 13) (A 2 14) (A 2 15) (A 2 16) (A 2 17) (A 3 0) (A 3 1) (A 3 2) (A 3 3) (A 3 4) (A 3 5) (A 3 6) (A 3 7) (A 3 8) (A 3 9) (A 3 10) (A 3 11) (A 3 12) (A 3 13) (A 3 14) (A 3 15) (A 3 16) (A 3 17) (A 4 0) (A 4 1) (A 4 2) (A 4 3) (A 4 4) (A 4 5) (A 4 6) (A 4 7) (A 4 8) (A 4 9) (A 4 10) (A 4 11) (A 4 12) (A 4 13) (A 4 14) (A 4 15) (A 4 16) (A 4 17) (A 5 0) (A 5 1) (A 5 2) (A 5 3) (A 5 4) (A 5 5) (A 5 6) (A 5 7) (A 5 8) (A 5 9) (A 5 10) (A 5 11) (A 5 12) (A 5 13) (A 5 14) (A 5 15) (A 5 16) (A 5 17) (o 1) (o 2) (o 3) (o 4) (o 5) (nI r) (v 0 0) (v 0 1) (v 0 2) (v 0 3) (v 0 4) (f 0 0) (f 0 1) (f 0 2) (f 0 3) (f 0 4) (f 0 5) (v 0 5) (f 0 6) (f 0 7) (v 1 0) (v 1 1) (v 1 2) (v 1 3) (v 1 4) (f 1 0) (f 1 1) (f 1 2) (f 1 3) (f 1 4) (f 1 5) (v 1 5) (f 1 6) (f 1 7) (v 2 0) (v 2 1) (v 2 2) (v 2 3) (v 2 4) (f 2 0) (f 2 1) (f 2 2) (f 2 3) (f 2 4) (f 2 5) (v 2 5) (f 2 6) (f 2 7) (v 3 0) (v 3 1) (v 3 2) (v 3 3) (v 3 4) (f 3 0) (f 3 1) (f 3 2) (f 3 3) (f 3 4) (f 3 5) (v 3 5) (f 3 6) (f 3 7) (v 4 0) (v 4 1) (v 4 2) (v 4 3) (v 4 4) (f 4 0) (f 4 1) (f 4 2) (f 4 3) (f 4 4) (f 4 5) (v 4 5) (f 4 6) (f 4 7) (v 5 0) (v 5 1) (v 5 2) (v 5 3) (v 5 4) (f 5 0) (f 5 1) (f 5 2) (f 5 3) (f 5 4) (f 5 5) (v 5 5) (f 5 6) (f 5 7) (u 0) (u 1) (u 2) (u 3) (u 4) (u 5) (u 6) (u 7) (u 8) ch xn xa xr y1 y2 ans (v' 0) (v' 1) (v' 2) (v' 3) (v' 4) (f' 0) (f' 1) (f' 2) (f' 3) (f' 4) (f' 5) (v' 5) (f' 6) (f' 7) xn' xa' xr' e1 hn _) (cwV 2 hts (gzV wl289 wl290 wl291 wl2 wl292) rfl rfl rfl ⟨rfl, hdX6_observe⟩ ⟨Nat.le_of_ble_eq_true rfl, Nat.le_of_ble_eq_true rfl⟩) rfl rfl [] rfl hl.1 rfl (Nat.le_of_ble_eq_true rfl) dL_law_248 hCN (fun H locs hP1 hk1 hS => ?_)
    obtain ⟨hP, hD⟩ := kJoinL hP hD hk1 hP1 rfl
    replace hP : va_P D vwCl (plW cI cJ o (nI r) A (gII [v 0, v', v 2, v 3, v 4, v 5]) (gFF [f 0, f', f 2, f 3, f 4, f 5]) u ch xn' xa' xr' ++ mdW cI cJ a mm ar rr) H := hP
    replace hD : va_D (lA s) (plW cI cJ o (nI r) A (gII [v 0, v', v 2, v 3, v 4, v 5]) (gFF [f 0, f', f 2, f 3, f 4, f 5]) u ch xn' xa' xr' ++ mdW cI cJ a mm ar rr) := hD
    refine lv_aload_n (pc := 251) hx hb dL_law_251 rfl (lv_at hl 2 rfl) ?_
    refine lv_aload_n (pc := 252) hx hb dL_law_252 rfl (lv_at hl 0 rfl) ?_
    refine lv_iload_n (pc := 253) hx hb dL_law_253 rfl (lv_at hl 3 rfl) ?_
    refine lv_iconst (v := 1) (pc := 254) hx hb dL_law_254 (by decide) ?_
    refine lv_iadd (pc := 255) hx hb dL_law_255 ?_
    refine va_sld (pc := 256) hx hb hX hbl hbA hS g1 dL_law_256 ?_
    rw [← hy1]
    refine lv_aload_n (pc := 257) hx hb dL_law_257 rfl (lv_at hl 0 rfl) ?_
    refine lv_iload_n (pc := 258) hx hb dL_law_258 rfl (lv_at hl 3 rfl) ?_
    refine lv_iconst (v := 2) (pc := 259) hx hb dL_law_259 (by decide) ?_
    refine lv_iadd (pc := 260) hx hb dL_law_260 ?_
    refine va_sld (pc := 261) hx hb hX hbl hbA hS g2 dL_law_261 ?_
    rw [← hy2]
    refine kG_W (pc := 262) (ci := 7) ⟨hx, hb, hml, hown, hts⟩ (vP_r hP) hK (vD_r hD) hS hA [.int y1, .int y2] (c_X7_observe l D cI cJ (a 0) (a 1) (a 2) (a 3) (a 4) (a 5) (a 6) (a 7) (a 8) (a 9) (mm 0) (mm 1) (mm 2) (mm 3) (mm 4) (mm 5) (mm 6) (mm 7) (mm 8) (ar 0) (ar 1) (ar 2) (ar 3) (ar 4) (ar 5) rr (ar 6) (ar 7) y1 y2 ans (nI r) (ar 0) (ar 1) (ar 4) (ar 5) rr q7 (by rw [m0, m1]; exact e2) _) (cwV 2 hts (gzV wl371 wl372 wl373 wl5 wl374) rfl rfl rfl ⟨rfl, hdX7_observe⟩ ⟨Nat.le_of_ble_eq_true rfl, Nat.le_of_ble_eq_true rfl⟩) rfl rfl [.int ans] rfl hl.1 rfl (Nat.le_of_ble_eq_true rfl) dL_law_262 hCN (fun H locs hP1 hk1 hS => ?_)
    obtain ⟨hP, hD⟩ := kJoinR hP hD hk1 hP1 rfl
    refine lv_icmp_eq (pc := 265) (tgt := 698) hx hb dL_law_265 (by decide) (fun _ => ?_) (fun h => absurd rfl h)
    exact kk H locs ls ⟨o, (nI r), A, (gII [v 0, v', v 2, v 3, v 4, v 5]), (gFF [f 0, f', f 2, f 3, f 4, f 5]), u, ch, xn', xa', xr', a, (gI [nI r, mm 1, mm 2, mm 3, mm 4, mm 5, mm 6, mm 7, mm 8]), (gII [ar 0, ar 1, ar 2, ar 3, ar 4, ar 5, q7, ar 7]), rr, rfl, rfl, ⟨r, Lt, ct, hr4, rfl, rfl, m1, u0, m2, hT, hR, hist_keep hr4 hH rfl rfl rfl rfl rfl rfl rfl rfl⟩, hP, hD, hS⟩ hl
  · refine lv_aload_n (pc := 237) hx hb dL_law_237 rfl (lv_at hl 1 rfl) ?_
    refine lv_aload_n (pc := 238) hx hb dL_law_238 rfl (lv_at hl 0 rfl) ?_
    refine lv_iload_n (pc := 239) hx hb dL_law_239 rfl (lv_at hl 3 rfl) ?_
    refine lv_iconst (v := 1) (pc := 240) hx hb dL_law_240 (by decide) ?_
    refine lv_iadd (pc := 241) hx hb dL_law_241 ?_
    refine va_sld (pc := 242) hx hb hX hbl hbA hS g1 dL_law_242 ?_
    rw [← hy1]
    refine lv_aload_n (pc := 243) hx hb dL_law_243 rfl (lv_at hl 0 rfl) ?_
    refine lv_iload_n (pc := 244) hx hb dL_law_244 rfl (lv_at hl 3 rfl) ?_
    refine lv_iconst (v := 2) (pc := 245) hx hb dL_law_245 (by decide) ?_
    refine lv_iadd (pc := 246) hx hb dL_law_246 ?_
    refine va_sld (pc := 247) hx hb hX hbl hbA hS g2 dL_law_247 ?_
    rw [← hy2]
    refine kG_W (pc := 248) (ci := 6) ⟨hx, hb, hml, hown, hts⟩ (vP_l hP) hK (vD_l hD) hS hA [.int y1, .int y2] (c_X6_observe_pos l D cI cJ (o 0) (A 0 0) (A 0 1) (A 0 2) (A 0 3) (A 0 4) (A 0 5) (A 0 6) (A 0 7) (A 0 8) (A 0 9) (A 0 10) (A 0 11) (A 0 12) (A 0 13) (A 0 14) (A 0 15) (A 0 16) (A 0 17) (A 1 0) (A 1 1) (A 1 2) (A 1 3) (A 1 4) (A 1 5) (A 1 6) (A 1 7) (A 1 8) (A 1 9) (A 1 10) (A 1 11) (A 1 12) (A 1 13) (A 1 14) (A 1 15) (A 1 16) (A 1 17) (A 2 0) (A 2 1) (A 2 2) (A 2 3) (A 2 4) (A 2 5) (A 2 6) (A 2 7) (A 2 8) (A 2 9) (A 2 10) (A 2 11) (A 2 12) (A 2 13) (A 2 14) (A 2 15) (A 2 16) (A 2 17) (A 3 0) (A 3 1) (A 3 2) (A 3 3) (A 3 4) (A 3 5) (A 3 6) (A 3 7) (A 3 8) (A 3 9) (A 3 10) (A 3 11) (A 3 12) (A 3 13) (A 3 14) (A 3 15) (A 3 16) (A 3 17) (A 4 0) (A 4 1) (A 4 2) (A 4 3) (A 4 4) (A 4 5) (A 4 6) (A 4 7) (A 4 8) (A 4 9) (A 4 10) (A 4 11) (A 4 12) (A 4 13) (A 4 14) (A 4 15) (A 4 16) (A 4 17) (A 5 0) (A 5 1) (A 5 2) (A 5 3) (A 5 4) (A 5 5) (A 5 6) (A 5 7) (A 5 8) (A 5 9) (A 5 10) (A 5 11) (A 5 12) (A 5 13) (A 5 14) (A 5 15) (A 5 16) (A 5 17) (o 1) (o 2) (o 3) (o 4) (o 5) (nI r) (v 0 0) (v 0 1) (v 0 2) (v 0 3) (v 0 4) (f 0 0) (f 0 1) (f 0 2) (f 0 3) (f 0 4) (f 0 5) (v 0 5) (f 0 6) (f 0 7) (v 1 0) (v 1 1) (v 1 2) (v 1 3) (v 1 4) (f 1 0) (f 1 1) (f 1 2) (f 1 3) (f 1 4) (f 1 5) (v 1 5) (f 1 6) (f 1 7) (v 2 0) (v 2 1) (v 2 2) (v 2 3) (v 2 4) (f 2 0) (f 2 1) (f 2 2) (f 2 3) (f 2 4) (f 2 5) (v 2 5) (f 2 6) (f 2 7) (v 3 0) (v 3 1) (v 3 2) (v 3 3) (v 3 4) (f 3 0) (f 3 1) (f 3 2) (f 3 3) (f 3 4) (f 3 5) (v 3 5) (f 3 6) (f 3 7) (v 4 0) (v 4 1) (v 4 2) (v 4 3) (v 4 4) (f 4 0) (f 4 1) (f 4 2) (f 4 3) (f 4 4) (f 4 5) (v 4 5) (f 4 6) (f 4 7) (v 5 0) (v 5 1) (v 5 2) (v 5 3) (v 5 4) (f 5 0) (f 5 1) (f 5 2) (f 5 3) (f 5 4) (f 5 5) (v 5 5) (f 5 6) (f 5 7) (u 0) (u 1) (u 2) (u 3) (u 4) (u 5) (u 6) (u 7) (u 8) ch xn xa xr y1 y2 ans (v' 0) (v' 1) (v' 2) (v' 3) (v' 4) (f' 0) (f' 1) (f' 2) (f' 3) (f' 4) (f' 5) (v' 5) (f' 6) (f' 7) xn' xa' xr' e1 hp _) (cwV 2 hts (gzV wl289 wl290 wl291 wl2 wl292) rfl rfl rfl ⟨rfl, hdX6_observe⟩ ⟨Nat.le_of_ble_eq_true rfl, Nat.le_of_ble_eq_true rfl⟩) rfl rfl [] rfl hl.1 rfl (Nat.le_of_ble_eq_true rfl) dL_law_248 hCN (fun H locs hP1 hk1 hS => ?_)
    obtain ⟨hP, hD⟩ := kJoinL hP hD hk1 hP1 rfl
    replace hP : va_P D vwCl (plW cI cJ o (keepRec (nI r)) (gNN [A 1, A 5, A 0, A 2, A 3, A 4]) (gII [v', v 5, v 0, v 2, v 3, v 4]) (gFF [f', f 5, f 0, f 2, f 3, f 4]) u ch xn' xa' xr' ++ mdW cI cJ a mm ar rr) H := hP.sub [0, 19, 20, 21, 22, 23, 24, 25, 26, 27, 28, 29, 30, 31, 32, 33, 34, 35, 36, 91, 92, 93, 94, 95, 96, 97, 98, 99, 100, 101, 102, 103, 104, 105, 106, 107, 108, 1, 2, 3, 4, 5, 6, 7, 8, 9, 10, 11, 12, 13, 14, 15, 16, 17, 18, 37, 38, 39, 40, 41, 42, 43, 44, 45, 46, 47, 48, 49, 50, 51, 52, 53, 54, 55, 56, 57, 58, 59, 60, 61, 62, 63, 64, 65, 66, 67, 68, 69, 70, 71, 72, 73, 74, 75, 76, 77, 78, 79, 80, 81, 82, 83, 84, 85, 86, 87, 88, 89, 90, 109, 110, 111, 112, 113, 114, 115, 116, 117, 118, 119, 120, 121, 122, 123] rfl
    replace hD : va_D (lA s) (plW cI cJ o (keepRec (nI r)) (gNN [A 1, A 5, A 0, A 2, A 3, A 4]) (gII [v', v 5, v 0, v 2, v 3, v 4]) (gFF [f', f 5, f 0, f 2, f 3, f 4]) u ch xn' xa' xr' ++ mdW cI cJ a mm ar rr) := hD.sub [0, 19, 20, 21, 22, 23, 24, 25, 26, 27, 28, 29, 30, 31, 32, 33, 34, 35, 36, 91, 92, 93, 94, 95, 96, 97, 98, 99, 100, 101, 102, 103, 104, 105, 106, 107, 108, 1, 2, 3, 4, 5, 6, 7, 8, 9, 10, 11, 12, 13, 14, 15, 16, 17, 18, 37, 38, 39, 40, 41, 42, 43, 44, 45, 46, 47, 48, 49, 50, 51, 52, 53, 54, 55, 56, 57, 58, 59, 60, 61, 62, 63, 64, 65, 66, 67, 68, 69, 70, 71, 72, 73, 74, 75, 76, 77, 78, 79, 80, 81, 82, 83, 84, 85, 86, 87, 88, 89, 90, 109, 110, 111, 112, 113, 114, 115, 116, 117, 118, 119, 120, 121, 122, 123] (by decide +kernel) rfl
    refine lv_aload_n (pc := 251) hx hb dL_law_251 rfl (lv_at hl 2 rfl) ?_
    refine lv_aload_n (pc := 252) hx hb dL_law_252 rfl (lv_at hl 0 rfl) ?_
    refine lv_iload_n (pc := 253) hx hb dL_law_253 rfl (lv_at hl 3 rfl) ?_
    refine lv_iconst (v := 1) (pc := 254) hx hb dL_law_254 (by decide) ?_
    refine lv_iadd (pc := 255) hx hb dL_law_255 ?_
    refine va_sld (pc := 256) hx hb hX hbl hbA hS g1 dL_law_256 ?_
    rw [← hy1]
    refine lv_aload_n (pc := 257) hx hb dL_law_257 rfl (lv_at hl 0 rfl) ?_
    refine lv_iload_n (pc := 258) hx hb dL_law_258 rfl (lv_at hl 3 rfl) ?_
    refine lv_iconst (v := 2) (pc := 259) hx hb dL_law_259 (by decide) ?_
    refine lv_iadd (pc := 260) hx hb dL_law_260 ?_
    refine va_sld (pc := 261) hx hb hX hbl hbA hS g2 dL_law_261 ?_
    rw [← hy2]
    refine kG_W (pc := 262) (ci := 7) ⟨hx, hb, hml, hown, hts⟩ (vP_r hP) hK (vD_r hD) hS hA [.int y1, .int y2] (c_X7_observe l D cI cJ (a 0) (a 1) (a 2) (a 3) (a 4) (a 5) (a 6) (a 7) (a 8) (a 9) (mm 0) (mm 1) (mm 2) (mm 3) (mm 4) (mm 5) (mm 6) (mm 7) (mm 8) (ar 0) (ar 1) (ar 2) (ar 3) (ar 4) (ar 5) rr (ar 6) (ar 7) y1 y2 ans (nI (nx r)) s' fp q4 q5 q6 q7 (by rw [m0, m1]; exact e2) _) (cwV 2 hts (gzV wl371 wl372 wl373 wl5 wl374) rfl rfl rfl ⟨rfl, hdX7_observe⟩ ⟨Nat.le_of_ble_eq_true rfl, Nat.le_of_ble_eq_true rfl⟩) rfl rfl [.int ans] rfl hl.1 rfl (Nat.le_of_ble_eq_true rfl) dL_law_262 hCN (fun H locs hP1 hk1 hS => ?_)
    obtain ⟨hP, hD⟩ := kJoinR hP hD hk1 hP1 rfl
    refine lv_icmp_eq (pc := 265) (tgt := 698) hx hb dL_law_265 (by decide) (fun _ => ?_) (fun h => absurd rfl h)
    exact kk H locs ls ⟨o, (keepRec (nI r)), (gNN [A 1, A 5, A 0, A 2, A 3, A 4]), (gII [v', v 5, v 0, v 2, v 3, v 4]), (gFF [f', f 5, f 0, f 2, f 3, f 4]), u, ch, xn', xa', xr', a, (gI [nI (nx r), mm 1, mm 2, mm 3, mm 4, mm 5, mm 6, mm 7, mm 8]), (gII [s', fp, ar 2, ar 3, q4, q5, q7, ar 7]), q6, rfl, rfl, ⟨nx r, Lt, ct, (nx_le hr4).1, keep_nx hr4, rfl, m1, u0, m2, hT, hR', hist_push hr4 hR hH hq rfl rfl rfl rfl rfl rfl rfl rfl⟩, hP, hD, hS⟩ hl
set_option maxHeartbeats 20000000 in
set_option maxRecDepth 100000 in
theorem st_resample {p : Program} {e : Env} {s : State} {m : MethodId} {below : List Frame} {meth : Method} {c : Code} {l : Launch} {b L : Nat} {xs : Nat → Int32} {D : va_G} {cI cJ : ClassId} {b1 b2 i : Nat} {C N : Nat} {Q : State → Prop} {H : Heap} {locs : List Loc} {ls : Array Slot} (X : LCtx p m meth c s b L xs D cI cJ) (hL : L ≤ 2560) (hi : i + 5 ≤ L) (hCN : C ≤ room_1.cells ∧ N ≤ room_1.slots) (kk : ∀ (H : Heap) (locs : List Loc) (ls : Array Slot), LInv D cI cJ s b1 b2 H locs → lv_has ls 4 [(0, .ref b), (1, .ref b1), (2, .ref b2), (3, .int (nI i))] → W p l e room_1 s m #[Value.ref b] below meth c H locs C N Q (F0 m 698 ls [])) (I : LInv D cI cJ s b1 b2 H locs) (hl : lv_has ls 4 [(0, .ref b), (1, .ref b1), (2, .ref b2), (3, .int (nI i))]) : W p l e room_1 s m #[Value.ref b] below meth c H locs C N Q (F0 m 270 ls []) := by
  obtain ⟨hx, hb, hr, hml, hown, hts, hX, hbl, hK⟩ := X
  obtain ⟨o, rec, A, v, f, u, ch, xn, xa, xr, a, mm, ar, rr, rfl, rfl, hY, hP, hD, hS⟩ := I
  obtain ⟨r, Lt, ct, hr4, rfl, m0, m1, u0, m2, hT, hR, hH⟩ := hY
  have hA : ∀ q : Nat, s.heap.size ≤ q → lA s q := fun _ h => h
  have hbA : ¬ lA s b := Nat.not_le.mpr hbl
  obtain ⟨ans, v', f', xn', xa', xr', e1, h⟩ := s_resample (v := v) (f := f) (s := ar 0) (r := r) hR hr4 (ar 1) (ar 4) (ar 5) rr xn xa xr 
  rcases h with ⟨hn, e2⟩ | ⟨hp, s', fp, q4, q5, q6, e2, hq, hR'⟩
  · refine lv_aload_n (pc := 270) hx hb dL_law_270 rfl (lv_at hl 1 rfl) ?_
    refine kG_W (pc := 271) (ci := 6) ⟨hx, hb, hml, hown, hts⟩ (vP_l hP) hK (vD_l hD) hS hA [] (c_X6_resample_neg l D cI cJ (o 0) (A 0 0) (A 0 1) (A 0 2) (A 0 3) (A 0 4) (A 0 5) (A 0 6) (A 0 7) (A 0 8) (A 0 9) (A 0 10) (A 0 11) (A 0 12) (A 0 13) (A 0 14) (A 0 15) (A 0 16) (A 0 17) (A 1 0) (A 1 1) (A 1 2) (A 1 3) (A 1 4) (A 1 5) (A 1 6) (A 1 7) (A 1 8) (A 1 9) (A 1 10) (A 1 11) (A 1 12) (A 1 13) (A 1 14) (A 1 15) (A 1 16) (A 1 17) (A 2 0) (A 2 1) (A 2 2) (A 2 3) (A 2 4) (A 2 5) (A 2 6) (A 2 7) (A 2 8) (A 2 9) (A 2 10) (A 2 11) (A 2 12) (A 2 13) (A 2 14) (A 2 15) (A 2 16) (A 2 17) (A 3 0) (A 3 1) (A 3 2) (A 3 3) (A 3 4) (A 3 5) (A 3 6) (A 3 7) (A 3 8) (A 3 9) (A 3 10) (A 3 11) (A 3 12) (A 3 13) (A 3 14) (A 3 15) (A 3 16) (A 3 17) (A 4 0) (A 4 1) (A 4 2) (A 4 3) (A 4 4) (A 4 5) (A 4 6) (A 4 7) (A 4 8) (A 4 9) (A 4 10) (A 4 11) (A 4 12) (A 4 13) (A 4 14) (A 4 15) (A 4 16) (A 4 17) (A 5 0) (A 5 1) (A 5 2) (A 5 3) (A 5 4) (A 5 5) (A 5 6) (A 5 7) (A 5 8) (A 5 9) (A 5 10) (A 5 11) (A 5 12) (A 5 13) (A 5 14) (A 5 15) (A 5 16) (A 5 17) (o 1) (o 2) (o 3) (o 4) (o 5) (nI r) (v 0 0) (v 0 1) (v 0 2) (v 0 3) (v 0 4) (f 0 0) (f 0 1) (f 0 2) (f 0 3) (f 0 4) (f 0 5) (v 0 5) (f 0 6) (f 0 7) (v 1 0) (v 1 1) (v 1 2) (v 1 3) (v 1 4) (f 1 0) (f 1 1) (f 1 2) (f 1 3) (f 1 4) (f 1 5) (v 1 5) (f 1 6) (f 1 7) (v 2 0) (v 2 1) (v 2 2) (v 2 3) (v 2 4) (f 2 0) (f 2 1) (f 2 2) (f 2 3) (f 2 4) (f 2 5) (v 2 5) (f 2 6) (f 2 7) (v 3 0) (v 3 1) (v 3 2) (v 3 3) (v 3 4) (f 3 0) (f 3 1) (f 3 2) (f 3 3) (f 3 4) (f 3 5) (v 3 5) (f 3 6) (f 3 7) (v 4 0) (v 4 1) (v 4 2) (v 4 3) (v 4 4) (f 4 0) (f 4 1) (f 4 2) (f 4 3) (f 4 4) (f 4 5) (v 4 5) (f 4 6) (f 4 7) (v 5 0) (v 5 1) (v 5 2) (v 5 3) (v 5 4) (f 5 0) (f 5 1) (f 5 2) (f 5 3) (f 5 4) (f 5 5) (v 5 5) (f 5 6) (f 5 7) (u 0) (u 1) (u 2) (u 3) (u 4) (u 5) (u 6) (u 7) (u 8) ch xn xa xr ans (v' 0) (v' 1) (v' 2) (v' 3) (v' 4) (f' 0) (f' 1) (f' 2) (f' 3) (f' 4) (f' 5) (v' 5) (f' 6) (f' 7) xn' xa' xr' e1 hn _) (cwV 0 hts (gzV wl405 wl406 wl407 wl2 wl408) rfl rfl rfl ⟨rfl, hdX6_resample⟩ ⟨Nat.le_of_ble_eq_true rfl, Nat.le_of_ble_eq_true rfl⟩) rfl rfl [] rfl hl.1 rfl (Nat.le_of_ble_eq_true rfl) dL_law_271 hCN (fun H locs hP1 hk1 hS => ?_)
    obtain ⟨hP, hD⟩ := kJoinL hP hD hk1 hP1 rfl
    replace hP : va_P D vwCl (plW cI cJ o (nI r) A (gII [v 0, v', v 2, v 3, v 4, v 5]) (gFF [f 0, f', f 2, f 3, f 4, f 5]) u ch xn' xa' xr' ++ mdW cI cJ a mm ar rr) H := hP
    replace hD : va_D (lA s) (plW cI cJ o (nI r) A (gII [v 0, v', v 2, v 3, v 4, v 5]) (gFF [f 0, f', f 2, f 3, f 4, f 5]) u ch xn' xa' xr' ++ mdW cI cJ a mm ar rr) := hD
    refine lv_aload_n (pc := 274) hx hb dL_law_274 rfl (lv_at hl 2 rfl) ?_
    refine kG_W (pc := 275) (ci := 7) ⟨hx, hb, hml, hown, hts⟩ (vP_r hP) hK (vD_r hD) hS hA [] (c_X7_resample l D cI cJ (a 0) (a 1) (a 2) (a 3) (a 4) (a 5) (a 6) (a 7) (a 8) (a 9) (mm 0) (mm 1) (mm 2) (mm 3) (mm 4) (mm 5) (mm 6) (mm 7) (mm 8) (ar 0) (ar 1) (ar 2) (ar 3) (ar 4) (ar 5) rr (ar 6) (ar 7) ans (nI r) (ar 0) (ar 1) (ar 4) (ar 5) rr (by rw [m0, m1]; exact e2) _) (cwV 0 hts (gzV wl410 wl411 wl412 wl5 wl413) rfl rfl rfl ⟨rfl, hdX7_resample⟩ ⟨Nat.le_of_ble_eq_true rfl, Nat.le_of_ble_eq_true rfl⟩) rfl rfl [.int ans] rfl hl.1 rfl (Nat.le_of_ble_eq_true rfl) dL_law_275 hCN (fun H locs hP1 hk1 hS => ?_)
    obtain ⟨hP, hD⟩ := kJoinR hP hD hk1 hP1 rfl
    refine lv_icmp_eq (pc := 278) (tgt := 698) hx hb dL_law_278 (by decide) (fun _ => ?_) (fun h => absurd rfl h)
    exact kk H locs ls ⟨o, (nI r), A, (gII [v 0, v', v 2, v 3, v 4, v 5]), (gFF [f 0, f', f 2, f 3, f 4, f 5]), u, ch, xn', xa', xr', a, (gI [nI r, mm 1, mm 2, mm 3, mm 4, mm 5, mm 6, mm 7, mm 8]), (gII [ar 0, ar 1, ar 2, ar 3, ar 4, ar 5, ar 6, ar 7]), rr, rfl, rfl, ⟨r, Lt, ct, hr4, rfl, rfl, m1, u0, m2, hT, hR, hist_keep hr4 hH rfl rfl rfl rfl rfl rfl rfl rfl⟩, hP, hD, hS⟩ hl
  · refine lv_aload_n (pc := 270) hx hb dL_law_270 rfl (lv_at hl 1 rfl) ?_
    refine kG_W (pc := 271) (ci := 6) ⟨hx, hb, hml, hown, hts⟩ (vP_l hP) hK (vD_l hD) hS hA [] (c_X6_resample_pos l D cI cJ (o 0) (A 0 0) (A 0 1) (A 0 2) (A 0 3) (A 0 4) (A 0 5) (A 0 6) (A 0 7) (A 0 8) (A 0 9) (A 0 10) (A 0 11) (A 0 12) (A 0 13) (A 0 14) (A 0 15) (A 0 16) (A 0 17) (A 1 0) (A 1 1) (A 1 2) (A 1 3) (A 1 4) (A 1 5) (A 1 6) (A 1 7) (A 1 8) (A 1 9) (A 1 10) (A 1 11) (A 1 12) (A 1 13) (A 1 14) (A 1 15) (A 1 16) (A 1 17) (A 2 0) (A 2 1) (A 2 2) (A 2 3) (A 2 4) (A 2 5) (A 2 6) (A 2 7) (A 2 8) (A 2 9) (A 2 10) (A 2 11) (A 2 12) (A 2 13) (A 2 14) (A 2 15) (A 2 16) (A 2 17) (A 3 0) (A 3 1) (A 3 2) (A 3 3) (A 3 4) (A 3 5) (A 3 6) (A 3 7) (A 3 8) (A 3 9) (A 3 10) (A 3 11) (A 3 12) (A 3 13) (A 3 14) (A 3 15) (A 3 16) (A 3 17) (A 4 0) (A 4 1) (A 4 2) (A 4 3) (A 4 4) (A 4 5) (A 4 6) (A 4 7) (A 4 8) (A 4 9) (A 4 10) (A 4 11) (A 4 12) (A 4 13) (A 4 14) (A 4 15) (A 4 16) (A 4 17) (A 5 0) (A 5 1) (A 5 2) (A 5 3) (A 5 4) (A 5 5) (A 5 6) (A 5 7) (A 5 8) (A 5 9) (A 5 10) (A 5 11) (A 5 12) (A 5 13) (A 5 14) (A 5 15) (A 5 16) (A 5 17) (o 1) (o 2) (o 3) (o 4) (o 5) (nI r) (v 0 0) (v 0 1) (v 0 2) (v 0 3) (v 0 4) (f 0 0) (f 0 1) (f 0 2) (f 0 3) (f 0 4) (f 0 5) (v 0 5) (f 0 6) (f 0 7) (v 1 0) (v 1 1) (v 1 2) (v 1 3) (v 1 4) (f 1 0) (f 1 1) (f 1 2) (f 1 3) (f 1 4) (f 1 5) (v 1 5) (f 1 6) (f 1 7) (v 2 0) (v 2 1) (v 2 2) (v 2 3) (v 2 4) (f 2 0) (f 2 1) (f 2 2) (f 2 3) (f 2 4) (f 2 5) (v 2 5) (f 2 6) (f 2 7) (v 3 0) (v 3 1) (v 3 2) (v 3 3) (v 3 4) (f 3 0) (f 3 1) (f 3 2) (f 3 3) (f 3 4) (f 3 5) (v 3 5) (f 3 6) (f 3 7) (v 4 0) (v 4 1) (v 4 2) (v 4 3) (v 4 4) (f 4 0) (f 4 1) (f 4 2) (f 4 3) (f 4 4) (f 4 5) (v 4 5) (f 4 6) (f 4 7) (v 5 0) (v 5 1) (v 5 2) (v 5 3) (v 5 4) (f 5 0) (f 5 1) (f 5 2) (f 5 3) (f 5 4) (f 5 5) (v 5 5) (f 5 6) (f 5 7) (u 0) (u 1) (u 2) (u 3) (u 4) (u 5) (u 6) (u 7) (u 8) ch xn xa xr ans (v' 0) (v' 1) (v' 2) (v' 3) (v' 4) (f' 0) (f' 1) (f' 2) (f' 3) (f' 4) (f' 5) (v' 5) (f' 6) (f' 7) xn' xa' xr' e1 hp _) (cwV 0 hts (gzV wl405 wl406 wl407 wl2 wl408) rfl rfl rfl ⟨rfl, hdX6_resample⟩ ⟨Nat.le_of_ble_eq_true rfl, Nat.le_of_ble_eq_true rfl⟩) rfl rfl [] rfl hl.1 rfl (Nat.le_of_ble_eq_true rfl) dL_law_271 hCN (fun H locs hP1 hk1 hS => ?_)
    obtain ⟨hP, hD⟩ := kJoinL hP hD hk1 hP1 rfl
    replace hP : va_P D vwCl (plW cI cJ o (keepRec (nI r)) (gNN [A 1, A 5, A 0, A 2, A 3, A 4]) (gII [v', v 5, v 0, v 2, v 3, v 4]) (gFF [f', f 5, f 0, f 2, f 3, f 4]) u ch xn' xa' xr' ++ mdW cI cJ a mm ar rr) H := hP.sub [0, 19, 20, 21, 22, 23, 24, 25, 26, 27, 28, 29, 30, 31, 32, 33, 34, 35, 36, 91, 92, 93, 94, 95, 96, 97, 98, 99, 100, 101, 102, 103, 104, 105, 106, 107, 108, 1, 2, 3, 4, 5, 6, 7, 8, 9, 10, 11, 12, 13, 14, 15, 16, 17, 18, 37, 38, 39, 40, 41, 42, 43, 44, 45, 46, 47, 48, 49, 50, 51, 52, 53, 54, 55, 56, 57, 58, 59, 60, 61, 62, 63, 64, 65, 66, 67, 68, 69, 70, 71, 72, 73, 74, 75, 76, 77, 78, 79, 80, 81, 82, 83, 84, 85, 86, 87, 88, 89, 90, 109, 110, 111, 112, 113, 114, 115, 116, 117, 118, 119, 120, 121, 122, 123] rfl
    replace hD : va_D (lA s) (plW cI cJ o (keepRec (nI r)) (gNN [A 1, A 5, A 0, A 2, A 3, A 4]) (gII [v', v 5, v 0, v 2, v 3, v 4]) (gFF [f', f 5, f 0, f 2, f 3, f 4]) u ch xn' xa' xr' ++ mdW cI cJ a mm ar rr) := hD.sub [0, 19, 20, 21, 22, 23, 24, 25, 26, 27, 28, 29, 30, 31, 32, 33, 34, 35, 36, 91, 92, 93, 94, 95, 96, 97, 98, 99, 100, 101, 102, 103, 104, 105, 106, 107, 108, 1, 2, 3, 4, 5, 6, 7, 8, 9, 10, 11, 12, 13, 14, 15, 16, 17, 18, 37, 38, 39, 40, 41, 42, 43, 44, 45, 46, 47, 48, 49, 50, 51, 52, 53, 54, 55, 56, 57, 58, 59, 60, 61, 62, 63, 64, 65, 66, 67, 68, 69, 70, 71, 72, 73, 74, 75, 76, 77, 78, 79, 80, 81, 82, 83, 84, 85, 86, 87, 88, 89, 90, 109, 110, 111, 112, 113, 114, 115, 116, 117, 118, 119, 120, 121, 122, 123] (by decide +kernel) rfl
    refine lv_aload_n (pc := 274) hx hb dL_law_274 rfl (lv_at hl 2 rfl) ?_
    refine kG_W (pc := 275) (ci := 7) ⟨hx, hb, hml, hown, hts⟩ (vP_r hP) hK (vD_r hD) hS hA [] (c_X7_resample l D cI cJ (a 0) (a 1) (a 2) (a 3) (a 4) (a 5) (a 6) (a 7) (a 8) (a 9) (mm 0) (mm 1) (mm 2) (mm 3) (mm 4) (mm 5) (mm 6) (mm 7) (mm 8) (ar 0) (ar 1) (ar 2) (ar 3) (ar 4) (ar 5) rr (ar 6) (ar 7) ans (nI (nx r)) s' fp q4 q5 q6 (by rw [m0, m1]; exact e2) _) (cwV 0 hts (gzV wl410 wl411 wl412 wl5 wl413) rfl rfl rfl ⟨rfl, hdX7_resample⟩ ⟨Nat.le_of_ble_eq_true rfl, Nat.le_of_ble_eq_true rfl⟩) rfl rfl [.int ans] rfl hl.1 rfl (Nat.le_of_ble_eq_true rfl) dL_law_275 hCN (fun H locs hP1 hk1 hS => ?_)
    obtain ⟨hP, hD⟩ := kJoinR hP hD hk1 hP1 rfl
    refine lv_icmp_eq (pc := 278) (tgt := 698) hx hb dL_law_278 (by decide) (fun _ => ?_) (fun h => absurd rfl h)
    exact kk H locs ls ⟨o, (keepRec (nI r)), (gNN [A 1, A 5, A 0, A 2, A 3, A 4]), (gII [v', v 5, v 0, v 2, v 3, v 4]), (gFF [f', f 5, f 0, f 2, f 3, f 4]), u, ch, xn', xa', xr', a, (gI [nI (nx r), mm 1, mm 2, mm 3, mm 4, mm 5, mm 6, mm 7, mm 8]), (gII [s', fp, ar 2, ar 3, q4, q5, ar 6, ar 7]), q6, rfl, rfl, ⟨nx r, Lt, ct, (nx_le hr4).1, keep_nx hr4, rfl, m1, u0, m2, hT, hR', hist_push hr4 hR hH hq rfl rfl rfl rfl rfl rfl rfl rfl⟩, hP, hD, hS⟩ hl
set_option maxHeartbeats 20000000 in
set_option maxRecDepth 100000 in
theorem st_set {p : Program} {e : Env} {s : State} {m : MethodId} {below : List Frame} {meth : Method} {c : Code} {l : Launch} {b L : Nat} {xs : Nat → Int32} {D : va_G} {cI cJ : ClassId} {b1 b2 i : Nat} {C N : Nat} {Q : State → Prop} {H : Heap} {locs : List Loc} {ls : Array Slot} (X : LCtx p m meth c s b L xs D cI cJ) (hL : L ≤ 2560) (hi : i + 5 ≤ L) (hCN : C ≤ room_1.cells ∧ N ≤ room_1.slots) (kk : ∀ (H : Heap) (locs : List Loc) (ls : Array Slot), LInv D cI cJ s b1 b2 H locs → lv_has ls 4 [(0, .ref b), (1, .ref b1), (2, .ref b2), (3, .int (nI i))] → W p l e room_1 s m #[Value.ref b] below meth c H locs C N Q (F0 m 698 ls [])) (I : LInv D cI cJ s b1 b2 H locs) (hl : lv_has ls 4 [(0, .ref b), (1, .ref b1), (2, .ref b2), (3, .int (nI i))]) : W p l e room_1 s m #[Value.ref b] below meth c H locs C N Q (F0 m 283 ls []) := by
  obtain ⟨hx, hb, hr, hml, hown, hts, hX, hbl, hK⟩ := X
  obtain ⟨o, rec, A, v, f, u, ch, xn, xa, xr, a, mm, ar, rr, rfl, rfl, hY, hP, hD, hS⟩ := I
  obtain ⟨r, Lt, ct, hr4, rfl, m0, m1, u0, m2, hT, hR, hH⟩ := hY
  have hA : ∀ q : Nat, s.heap.size ≤ q → lA s q := fun _ h => h
  have hbA : ¬ lA s b := Nat.not_le.mpr hbl
  have g1 : vp_in (nI i + 1) L := ix_in hL (k := 1) (by omega) (id rfl)
  obtain ⟨y1, hy1⟩ : ∃ y : Int32, y = xs (nI i + 1).toNatClampNeg := ⟨_, rfl⟩
  have g2 : vp_in (nI i + 2) L := ix_in hL (k := 2) (by omega) (id rfl)
  obtain ⟨y2, hy2⟩ : ∃ y : Int32, y = xs (nI i + 2).toNatClampNeg := ⟨_, rfl⟩
  obtain ⟨ans, v', f', e1, h⟩ := s_set (v := v) (f := f) (s := ar 0) (r := r) hR hr4 (ar 1) y1 y2
  rcases h with ⟨hn, e2⟩ | ⟨hp, s', fp, e2, hq, hR'⟩
  · refine lv_aload_n (pc := 283) hx hb dL_law_283 rfl (lv_at hl 1 rfl) ?_
    refine lv_aload_n (pc := 284) hx hb dL_law_284 rfl (lv_at hl 0 rfl) ?_
    refine lv_iload_n (pc := 285) hx hb dL_law_285 rfl (lv_at hl 3 rfl) ?_
    refine lv_iconst (v := 1) (pc := 286) hx hb dL_law_286 (by decide) ?_
    refine lv_iadd (pc := 287) hx hb dL_law_287 ?_
    refine va_sld (pc := 288) hx hb hX hbl hbA hS g1 dL_law_288 ?_
    rw [← hy1]
    refine lv_aload_n (pc := 289) hx hb dL_law_289 rfl (lv_at hl 0 rfl) ?_
    refine lv_iload_n (pc := 290) hx hb dL_law_290 rfl (lv_at hl 3 rfl) ?_
    refine lv_iconst (v := 2) (pc := 291) hx hb dL_law_291 (by decide) ?_
    refine lv_iadd (pc := 292) hx hb dL_law_292 ?_
    refine va_sld (pc := 293) hx hb hX hbl hbA hS g2 dL_law_293 ?_
    rw [← hy2]
    refine kG_W (pc := 294) (ci := 6) ⟨hx, hb, hml, hown, hts⟩ (vP_l hP) hK (vD_l hD) hS hA [.int y1, .int y2] (c_X6_set_neg l D cI cJ (o 0) (A 0 0) (A 0 1) (A 0 2) (A 0 3) (A 0 4) (A 0 5) (A 0 6) (A 0 7) (A 0 8) (A 0 9) (A 0 10) (A 0 11) (A 0 12) (A 0 13) (A 0 14) (A 0 15) (A 0 16) (A 0 17) (A 1 0) (A 1 1) (A 1 2) (A 1 3) (A 1 4) (A 1 5) (A 1 6) (A 1 7) (A 1 8) (A 1 9) (A 1 10) (A 1 11) (A 1 12) (A 1 13) (A 1 14) (A 1 15) (A 1 16) (A 1 17) (A 2 0) (A 2 1) (A 2 2) (A 2 3) (A 2 4) (A 2 5) (A 2 6) (A 2 7) (A 2 8) (A 2 9) (A 2 10) (A 2 11) (A 2 12) (A 2 13) (A 2 14) (A 2 15) (A 2 16) (A 2 17) (A 3 0) (A 3 1) (A 3 2) (A 3 3) (A 3 4) (A 3 5) (A 3 6) (A 3 7) (A 3 8) (A 3 9) (A 3 10) (A 3 11) (A 3 12) (A 3 13) (A 3 14) (A 3 15) (A 3 16) (A 3 17) (A 4 0) (A 4 1) (A 4 2) (A 4 3) (A 4 4) (A 4 5) (A 4 6) (A 4 7) (A 4 8) (A 4 9) (A 4 10) (A 4 11) (A 4 12) (A 4 13) (A 4 14) (A 4 15) (A 4 16) (A 4 17) (A 5 0) (A 5 1) (A 5 2) (A 5 3) (A 5 4) (A 5 5) (A 5 6) (A 5 7) (A 5 8) (A 5 9) (A 5 10) (A 5 11) (A 5 12) (A 5 13) (A 5 14) (A 5 15) (A 5 16) (A 5 17) (o 1) (o 2) (o 3) (o 4) (o 5) (nI r) (v 0 0) (v 0 1) (v 0 2) (v 0 3) (v 0 4) (f 0 0) (f 0 1) (f 0 2) (f 0 3) (f 0 4) (f 0 5) (v 0 5) (f 0 6) (f 0 7) (v 1 0) (v 1 1) (v 1 2) (v 1 3) (v 1 4) (f 1 0) (f 1 1) (f 1 2) (f 1 3) (f 1 4) (f 1 5) (v 1 5) (f 1 6) (f 1 7) (v 2 0) (v 2 1) (v 2 2) (v 2 3) (v 2 4) (f 2 0) (f 2 1) (f 2 2) (f 2 3) (f 2 4) (f 2 5) (v 2 5) (f 2 6) (f 2 7) (v 3 0) (v 3 1) (v 3 2) (v 3 3) (v 3 4) (f 3 0) (f 3 1) (f 3 2) (f 3 3) (f 3 4) (f 3 5) (v 3 5) (f 3 6) (f 3 7) (v 4 0) (v 4 1) (v 4 2) (v 4 3) (v 4 4) (f 4 0) (f 4 1) (f 4 2) (f 4 3) (f 4 4) (f 4 5) (v 4 5) (f 4 6) (f 4 7) (v 5 0) (v 5 1) (v 5 2) (v 5 3) (v 5 4) (f 5 0) (f 5 1) (f 5 2) (f 5 3) (f 5 4) (f 5 5) (v 5 5) (f 5 6) (f 5 7) (u 0) (u 1) (u 2) (u 3) (u 4) (u 5) (u 6) (u 7) (u 8) ch xn xa xr y1 y2 ans (v' 0) (v' 1) (v' 2) (v' 3) (v' 4) (f' 0) (f' 1) (f' 2) (f' 3) (f' 4) (f' 5) (v' 5) (f' 6) (f' 7) e1 hn _) (cwV 2 hts (gzV wl418 wl419 wl420 wl2 wl421) rfl rfl rfl ⟨rfl, hdX6_set⟩ ⟨Nat.le_of_ble_eq_true rfl, Nat.le_of_ble_eq_true rfl⟩) rfl rfl [] rfl hl.1 rfl (Nat.le_of_ble_eq_true rfl) dL_law_294 hCN (fun H locs hP1 hk1 hS => ?_)
    obtain ⟨hP, hD⟩ := kJoinL hP hD hk1 hP1 rfl
    replace hP : va_P D vwCl (plW cI cJ o (nI r) A (gII [v 0, v', v 2, v 3, v 4, v 5]) (gFF [f 0, f', f 2, f 3, f 4, f 5]) u ch xn xa xr ++ mdW cI cJ a mm ar rr) H := hP
    replace hD : va_D (lA s) (plW cI cJ o (nI r) A (gII [v 0, v', v 2, v 3, v 4, v 5]) (gFF [f 0, f', f 2, f 3, f 4, f 5]) u ch xn xa xr ++ mdW cI cJ a mm ar rr) := hD
    refine lv_aload_n (pc := 297) hx hb dL_law_297 rfl (lv_at hl 2 rfl) ?_
    refine lv_aload_n (pc := 298) hx hb dL_law_298 rfl (lv_at hl 0 rfl) ?_
    refine lv_iload_n (pc := 299) hx hb dL_law_299 rfl (lv_at hl 3 rfl) ?_
    refine lv_iconst (v := 1) (pc := 300) hx hb dL_law_300 (by decide) ?_
    refine lv_iadd (pc := 301) hx hb dL_law_301 ?_
    refine va_sld (pc := 302) hx hb hX hbl hbA hS g1 dL_law_302 ?_
    rw [← hy1]
    refine lv_aload_n (pc := 303) hx hb dL_law_303 rfl (lv_at hl 0 rfl) ?_
    refine lv_iload_n (pc := 304) hx hb dL_law_304 rfl (lv_at hl 3 rfl) ?_
    refine lv_iconst (v := 2) (pc := 305) hx hb dL_law_305 (by decide) ?_
    refine lv_iadd (pc := 306) hx hb dL_law_306 ?_
    refine va_sld (pc := 307) hx hb hX hbl hbA hS g2 dL_law_307 ?_
    rw [← hy2]
    refine kG_W (pc := 308) (ci := 7) ⟨hx, hb, hml, hown, hts⟩ (vP_r hP) hK (vD_r hD) hS hA [.int y1, .int y2] (c_X7_set l D cI cJ (a 0) (a 1) (a 2) (a 3) (a 4) (a 5) (a 6) (a 7) (a 8) (a 9) (mm 0) (mm 1) (mm 2) (mm 3) (mm 4) (mm 5) (mm 6) (mm 7) (mm 8) (ar 0) (ar 1) (ar 2) (ar 3) (ar 4) (ar 5) rr (ar 6) (ar 7) y1 y2 ans (nI r) (ar 0) (ar 1) (by rw [m0, m1]; exact e2) _) (cwV 2 hts (gzV wl429 wl430 wl431 wl5 wl432) rfl rfl rfl ⟨rfl, hdX7_set⟩ ⟨Nat.le_of_ble_eq_true rfl, Nat.le_of_ble_eq_true rfl⟩) rfl rfl [.int ans] rfl hl.1 rfl (Nat.le_of_ble_eq_true rfl) dL_law_308 hCN (fun H locs hP1 hk1 hS => ?_)
    obtain ⟨hP, hD⟩ := kJoinR hP hD hk1 hP1 rfl
    refine lv_icmp_eq (pc := 311) (tgt := 698) hx hb dL_law_311 (by decide) (fun _ => ?_) (fun h => absurd rfl h)
    exact kk H locs ls ⟨o, (nI r), A, (gII [v 0, v', v 2, v 3, v 4, v 5]), (gFF [f 0, f', f 2, f 3, f 4, f 5]), u, ch, xn, xa, xr, a, (gI [nI r, mm 1, mm 2, mm 3, mm 4, mm 5, mm 6, mm 7, mm 8]), (gII [ar 0, ar 1, ar 2, ar 3, ar 4, ar 5, ar 6, ar 7]), rr, rfl, rfl, ⟨r, Lt, ct, hr4, rfl, rfl, m1, u0, m2, hT, hR, hist_keep hr4 hH rfl rfl rfl rfl rfl rfl rfl rfl⟩, hP, hD, hS⟩ hl
  · refine lv_aload_n (pc := 283) hx hb dL_law_283 rfl (lv_at hl 1 rfl) ?_
    refine lv_aload_n (pc := 284) hx hb dL_law_284 rfl (lv_at hl 0 rfl) ?_
    refine lv_iload_n (pc := 285) hx hb dL_law_285 rfl (lv_at hl 3 rfl) ?_
    refine lv_iconst (v := 1) (pc := 286) hx hb dL_law_286 (by decide) ?_
    refine lv_iadd (pc := 287) hx hb dL_law_287 ?_
    refine va_sld (pc := 288) hx hb hX hbl hbA hS g1 dL_law_288 ?_
    rw [← hy1]
    refine lv_aload_n (pc := 289) hx hb dL_law_289 rfl (lv_at hl 0 rfl) ?_
    refine lv_iload_n (pc := 290) hx hb dL_law_290 rfl (lv_at hl 3 rfl) ?_
    refine lv_iconst (v := 2) (pc := 291) hx hb dL_law_291 (by decide) ?_
    refine lv_iadd (pc := 292) hx hb dL_law_292 ?_
    refine va_sld (pc := 293) hx hb hX hbl hbA hS g2 dL_law_293 ?_
    rw [← hy2]
    refine kG_W (pc := 294) (ci := 6) ⟨hx, hb, hml, hown, hts⟩ (vP_l hP) hK (vD_l hD) hS hA [.int y1, .int y2] (c_X6_set_pos l D cI cJ (o 0) (A 0 0) (A 0 1) (A 0 2) (A 0 3) (A 0 4) (A 0 5) (A 0 6) (A 0 7) (A 0 8) (A 0 9) (A 0 10) (A 0 11) (A 0 12) (A 0 13) (A 0 14) (A 0 15) (A 0 16) (A 0 17) (A 1 0) (A 1 1) (A 1 2) (A 1 3) (A 1 4) (A 1 5) (A 1 6) (A 1 7) (A 1 8) (A 1 9) (A 1 10) (A 1 11) (A 1 12) (A 1 13) (A 1 14) (A 1 15) (A 1 16) (A 1 17) (A 2 0) (A 2 1) (A 2 2) (A 2 3) (A 2 4) (A 2 5) (A 2 6) (A 2 7) (A 2 8) (A 2 9) (A 2 10) (A 2 11) (A 2 12) (A 2 13) (A 2 14) (A 2 15) (A 2 16) (A 2 17) (A 3 0) (A 3 1) (A 3 2) (A 3 3) (A 3 4) (A 3 5) (A 3 6) (A 3 7) (A 3 8) (A 3 9) (A 3 10) (A 3 11) (A 3 12) (A 3 13) (A 3 14) (A 3 15) (A 3 16) (A 3 17) (A 4 0) (A 4 1) (A 4 2) (A 4 3) (A 4 4) (A 4 5) (A 4 6) (A 4 7) (A 4 8) (A 4 9) (A 4 10) (A 4 11) (A 4 12) (A 4 13) (A 4 14) (A 4 15) (A 4 16) (A 4 17) (A 5 0) (A 5 1) (A 5 2) (A 5 3) (A 5 4) (A 5 5) (A 5 6) (A 5 7) (A 5 8) (A 5 9) (A 5 10) (A 5 11) (A 5 12) (A 5 13) (A 5 14) (A 5 15) (A 5 16) (A 5 17) (o 1) (o 2) (o 3) (o 4) (o 5) (nI r) (v 0 0) (v 0 1) (v 0 2) (v 0 3) (v 0 4) (f 0 0) (f 0 1) (f 0 2) (f 0 3) (f 0 4) (f 0 5) (v 0 5) (f 0 6) (f 0 7) (v 1 0) (v 1 1) (v 1 2) (v 1 3) (v 1 4) (f 1 0) (f 1 1) (f 1 2) (f 1 3) (f 1 4) (f 1 5) (v 1 5) (f 1 6) (f 1 7) (v 2 0) (v 2 1) (v 2 2) (v 2 3) (v 2 4) (f 2 0) (f 2 1) (f 2 2) (f 2 3) (f 2 4) (f 2 5) (v 2 5) (f 2 6) (f 2 7) (v 3 0) (v 3 1) (v 3 2) (v 3 3) (v 3 4) (f 3 0) (f 3 1) (f 3 2) (f 3 3) (f 3 4) (f 3 5) (v 3 5) (f 3 6) (f 3 7) (v 4 0) (v 4 1) (v 4 2) (v 4 3) (v 4 4) (f 4 0) (f 4 1) (f 4 2) (f 4 3) (f 4 4) (f 4 5) (v 4 5) (f 4 6) (f 4 7) (v 5 0) (v 5 1) (v 5 2) (v 5 3) (v 5 4) (f 5 0) (f 5 1) (f 5 2) (f 5 3) (f 5 4) (f 5 5) (v 5 5) (f 5 6) (f 5 7) (u 0) (u 1) (u 2) (u 3) (u 4) (u 5) (u 6) (u 7) (u 8) ch xn xa xr y1 y2 ans (v' 0) (v' 1) (v' 2) (v' 3) (v' 4) (f' 0) (f' 1) (f' 2) (f' 3) (f' 4) (f' 5) (v' 5) (f' 6) (f' 7) e1 hp _) (cwV 2 hts (gzV wl418 wl419 wl420 wl2 wl421) rfl rfl rfl ⟨rfl, hdX6_set⟩ ⟨Nat.le_of_ble_eq_true rfl, Nat.le_of_ble_eq_true rfl⟩) rfl rfl [] rfl hl.1 rfl (Nat.le_of_ble_eq_true rfl) dL_law_294 hCN (fun H locs hP1 hk1 hS => ?_)
    obtain ⟨hP, hD⟩ := kJoinL hP hD hk1 hP1 rfl
    replace hP : va_P D vwCl (plW cI cJ o (keepRec (nI r)) (gNN [A 1, A 5, A 0, A 2, A 3, A 4]) (gII [v', v 5, v 0, v 2, v 3, v 4]) (gFF [f', f 5, f 0, f 2, f 3, f 4]) u ch xn xa xr ++ mdW cI cJ a mm ar rr) H := hP.sub [0, 19, 20, 21, 22, 23, 24, 25, 26, 27, 28, 29, 30, 31, 32, 33, 34, 35, 36, 91, 92, 93, 94, 95, 96, 97, 98, 99, 100, 101, 102, 103, 104, 105, 106, 107, 108, 1, 2, 3, 4, 5, 6, 7, 8, 9, 10, 11, 12, 13, 14, 15, 16, 17, 18, 37, 38, 39, 40, 41, 42, 43, 44, 45, 46, 47, 48, 49, 50, 51, 52, 53, 54, 55, 56, 57, 58, 59, 60, 61, 62, 63, 64, 65, 66, 67, 68, 69, 70, 71, 72, 73, 74, 75, 76, 77, 78, 79, 80, 81, 82, 83, 84, 85, 86, 87, 88, 89, 90, 109, 110, 111, 112, 113, 114, 115, 116, 117, 118, 119, 120, 121, 122, 123] rfl
    replace hD : va_D (lA s) (plW cI cJ o (keepRec (nI r)) (gNN [A 1, A 5, A 0, A 2, A 3, A 4]) (gII [v', v 5, v 0, v 2, v 3, v 4]) (gFF [f', f 5, f 0, f 2, f 3, f 4]) u ch xn xa xr ++ mdW cI cJ a mm ar rr) := hD.sub [0, 19, 20, 21, 22, 23, 24, 25, 26, 27, 28, 29, 30, 31, 32, 33, 34, 35, 36, 91, 92, 93, 94, 95, 96, 97, 98, 99, 100, 101, 102, 103, 104, 105, 106, 107, 108, 1, 2, 3, 4, 5, 6, 7, 8, 9, 10, 11, 12, 13, 14, 15, 16, 17, 18, 37, 38, 39, 40, 41, 42, 43, 44, 45, 46, 47, 48, 49, 50, 51, 52, 53, 54, 55, 56, 57, 58, 59, 60, 61, 62, 63, 64, 65, 66, 67, 68, 69, 70, 71, 72, 73, 74, 75, 76, 77, 78, 79, 80, 81, 82, 83, 84, 85, 86, 87, 88, 89, 90, 109, 110, 111, 112, 113, 114, 115, 116, 117, 118, 119, 120, 121, 122, 123] (by decide +kernel) rfl
    refine lv_aload_n (pc := 297) hx hb dL_law_297 rfl (lv_at hl 2 rfl) ?_
    refine lv_aload_n (pc := 298) hx hb dL_law_298 rfl (lv_at hl 0 rfl) ?_
    refine lv_iload_n (pc := 299) hx hb dL_law_299 rfl (lv_at hl 3 rfl) ?_
    refine lv_iconst (v := 1) (pc := 300) hx hb dL_law_300 (by decide) ?_
    refine lv_iadd (pc := 301) hx hb dL_law_301 ?_
    refine va_sld (pc := 302) hx hb hX hbl hbA hS g1 dL_law_302 ?_
    rw [← hy1]
    refine lv_aload_n (pc := 303) hx hb dL_law_303 rfl (lv_at hl 0 rfl) ?_
    refine lv_iload_n (pc := 304) hx hb dL_law_304 rfl (lv_at hl 3 rfl) ?_
    refine lv_iconst (v := 2) (pc := 305) hx hb dL_law_305 (by decide) ?_
    refine lv_iadd (pc := 306) hx hb dL_law_306 ?_
    refine va_sld (pc := 307) hx hb hX hbl hbA hS g2 dL_law_307 ?_
    rw [← hy2]
    refine kG_W (pc := 308) (ci := 7) ⟨hx, hb, hml, hown, hts⟩ (vP_r hP) hK (vD_r hD) hS hA [.int y1, .int y2] (c_X7_set l D cI cJ (a 0) (a 1) (a 2) (a 3) (a 4) (a 5) (a 6) (a 7) (a 8) (a 9) (mm 0) (mm 1) (mm 2) (mm 3) (mm 4) (mm 5) (mm 6) (mm 7) (mm 8) (ar 0) (ar 1) (ar 2) (ar 3) (ar 4) (ar 5) rr (ar 6) (ar 7) y1 y2 ans (nI (nx r)) s' fp (by rw [m0, m1]; exact e2) _) (cwV 2 hts (gzV wl429 wl430 wl431 wl5 wl432) rfl rfl rfl ⟨rfl, hdX7_set⟩ ⟨Nat.le_of_ble_eq_true rfl, Nat.le_of_ble_eq_true rfl⟩) rfl rfl [.int ans] rfl hl.1 rfl (Nat.le_of_ble_eq_true rfl) dL_law_308 hCN (fun H locs hP1 hk1 hS => ?_)
    obtain ⟨hP, hD⟩ := kJoinR hP hD hk1 hP1 rfl
    refine lv_icmp_eq (pc := 311) (tgt := 698) hx hb dL_law_311 (by decide) (fun _ => ?_) (fun h => absurd rfl h)
    exact kk H locs ls ⟨o, (keepRec (nI r)), (gNN [A 1, A 5, A 0, A 2, A 3, A 4]), (gII [v', v 5, v 0, v 2, v 3, v 4]), (gFF [f', f 5, f 0, f 2, f 3, f 4]), u, ch, xn, xa, xr, a, (gI [nI (nx r), mm 1, mm 2, mm 3, mm 4, mm 5, mm 6, mm 7, mm 8]), (gII [s', fp, ar 2, ar 3, ar 4, ar 5, ar 6, ar 7]), rr, rfl, rfl, ⟨nx r, Lt, ct, (nx_le hr4).1, keep_nx hr4, rfl, m1, u0, m2, hT, hR', hist_push hr4 hR hH hq rfl rfl rfl rfl rfl rfl rfl rfl⟩, hP, hD, hS⟩ hl
