-- the law's calls, one by one (printed by gen63.py)
set_option maxHeartbeats 20000000 in
set_option maxRecDepth 100000 in
theorem st_particleOf {p : Program} {e : Env} {s : State} {m : MethodId} {below : List Frame} {meth : Method} {c : Code} {l : Launch} {b L : Nat} {xs : Nat → Int32} {D : va_G} {cI cJ : ClassId} {b1 b2 i : Nat} {C N : Nat} {Q : State → Prop} {H : Heap} {locs : List Loc} {ls : Array Slot} (X : LCtx p m meth c s b L xs D cI cJ) (hL : L ≤ 2560) (hi : i + 5 ≤ L) (hCN : C ≤ room_1.cells ∧ N ≤ room_1.slots) (kk : ∀ (H : Heap) (locs : List Loc) (ls : Array Slot), LInv D cI cJ s b1 b2 H locs → lv_has ls 4 [(0, .ref b), (1, .ref b1), (2, .ref b2), (3, .int (nI i))] → W p l e room_1 s m #[Value.ref b] below meth c H locs C N Q (F0 m 698 ls [])) (I : LInv D cI cJ s b1 b2 H locs) (hl : lv_has ls 4 [(0, .ref b), (1, .ref b1), (2, .ref b2), (3, .int (nI i))]) : W p l e room_1 s m #[Value.ref b] below meth c H locs C N Q (F0 m 316 ls []) := by
  obtain ⟨hx, hb, hr, hml, hown, hts, hX, hbl, hK⟩ := X
  obtain ⟨o, rec, A, v, f, u, ch, xn, xa, xr, a, mm, ar, rr, rfl, rfl, hY, hP, hD, hS⟩ := I
  obtain ⟨r, Lt, ct, hr4, rfl, m0, m1, u0, m2, hT, hR, hH⟩ := hY
  have hA : ∀ q : Nat, s.heap.size ≤ q → lA s q := fun _ h => h
  have hbA : ¬ lA s b := Nat.not_le.mpr hbl
  have g1 : vp_in (nI i + 1) L := ix_in hL (k := 1) (by omega) (id rfl)
  obtain ⟨y1, hy1⟩ : ∃ y : Int32, y = xs (nI i + 1).toNatClampNeg := ⟨_, rfl⟩
  have g2 : vp_in (nI i + 2) L := ix_in hL (k := 2) (by omega) (id rfl)
  obtain ⟨y2, hy2⟩ : ∃ y : Int32, y = xs (nI i + 2).toNatClampNeg := ⟨_, rfl⟩
  obtain ⟨ans, e1, e2⟩ := s_particleOf (v := v) (f := f) (s := ar 0) hR y1 y2
  refine lv_aload_n (pc := 316) hx hb dL_law_316 rfl (lv_at hl 1 rfl) ?_
  refine lv_aload_n (pc := 317) hx hb dL_law_317 rfl (lv_at hl 0 rfl) ?_
  refine lv_iload_n (pc := 318) hx hb dL_law_318 rfl (lv_at hl 3 rfl) ?_
  refine lv_iconst (v := 1) (pc := 319) hx hb dL_law_319 (by decide) ?_
  refine lv_iadd (pc := 320) hx hb dL_law_320 ?_
  refine va_sld (pc := 321) hx hb hX hbl hbA hS g1 dL_law_321 ?_
  rw [← hy1]
  refine lv_aload_n (pc := 322) hx hb dL_law_322 rfl (lv_at hl 0 rfl) ?_
  refine lv_iload_n (pc := 323) hx hb dL_law_323 rfl (lv_at hl 3 rfl) ?_
  refine lv_iconst (v := 2) (pc := 324) hx hb dL_law_324 (by decide) ?_
  refine lv_iadd (pc := 325) hx hb dL_law_325 ?_
  refine va_sld (pc := 326) hx hb hX hbl hbA hS g2 dL_law_326 ?_
  rw [← hy2]
  refine kG_V (pc := 327) (ci := 6) ⟨hx, hb, hml, hown, hts⟩ (vP_l hP) hK [.int y1, .int y2] (c_X6_particleOf l D cI cJ (o 0) (A 0 0) (A 0 1) (A 0 2) (A 0 3) (A 0 4) (A 0 5) (A 0 6) (A 0 7) (A 0 8) (A 0 9) (A 0 10) (A 0 11) (A 0 12) (A 0 13) (A 0 14) (A 0 15) (A 0 16) (A 0 17) (A 1 0) (A 1 1) (A 1 2) (A 1 3) (A 1 4) (A 1 5) (A 1 6) (A 1 7) (A 1 8) (A 1 9) (A 1 10) (A 1 11) (A 1 12) (A 1 13) (A 1 14) (A 1 15) (A 1 16) (A 1 17) (A 2 0) (A 2 1) (A 2 2) (A 2 3) (A 2 4) (A 2 5) (A 2 6) (A 2 7) (A 2 8) (A 2 9) (A 2 10) (A 2 11) (A 2 12) (A 2 13) (A 2 14) (A 2 15) (A 2 16) (A 2 17) (A 3 0) (A 3 1) (A 3 2) (A 3 3) (A 3 4) (A 3 5) (A 3 6) (A 3 7) (A 3 8) (A 3 9) (A 3 10) (A 3 11) (A 3 12) (A 3 13) (A 3 14) (A 3 15) (A 3 16) (A 3 17) (A 4 0) (A 4 1) (A 4 2) (A 4 3) (A 4 4) (A 4 5) (A 4 6) (A 4 7) (A 4 8) (A 4 9) (A 4 10) (A 4 11) (A 4 12) (A 4 13) (A 4 14) (A 4 15) (A 4 16) (A 4 17) (A 5 0) (A 5 1) (A 5 2) (A 5 3) (A 5 4) (A 5 5) (A 5 6) (A 5 7) (A 5 8) (A 5 9) (A 5 10) (A 5 11) (A 5 12) (A 5 13) (A 5 14) (A 5 15) (A 5 16) (A 5 17) (o 1) (o 2) (o 3) (o 4) (o 5) (nI r) (v 0 0) (v 0 1) (v 0 2) (v 0 3) (v 0 4) (f 0 0) (f 0 1) (f 0 2) (f 0 3) (f 0 4) (f 0 5) (v 0 5) (f 0 6) (f 0 7) (v 1 0) (v 1 1) (v 1 2) (v 1 3) (v 1 4) (f 1 0) (f 1 1) (f 1 2) (f 1 3) (f 1 4) (f 1 5) (v 1 5) (f 1 6) (f 1 7) (v 2 0) (v 2 1) (v 2 2) (v 2 3) (v 2 4) (f 2 0) (f 2 1) (f 2 2) (f 2 3) (f 2 4) (f 2 5) (v 2 5) (f 2 6) (f 2 7) (v 3 0) (v 3 1) (v 3 2) (v 3 3) (v 3 4) (f 3 0) (f 3 1) (f 3 2) (f 3 3) (f 3 4) (f 3 5) (v 3 5) (f 3 6) (f 3 7) (v 4 0) (v 4 1) (v 4 2) (v 4 3) (v 4 4) (f 4 0) (f 4 1) (f 4 2) (f 4 3) (f 4 4) (f 4 5) (v 4 5) (f 4 6) (f 4 7) (v 5 0) (v 5 1) (v 5 2) (v 5 3) (v 5 4) (f 5 0) (f 5 1) (f 5 2) (f 5 3) (f 5 4) (f 5 5) (v 5 5) (f 5 6) (f 5 7) (u 0) (u 1) (u 2) (u 3) (u 4) (u 5) (u 6) (u 7) (u 8) ch xn xa xr y1 y2 ans e1) (cwV 2 hts (gzV wl433 wl434 wl435 wl2 wl436) rfl rfl rfl ⟨rfl, hdX6_particleOf⟩ ⟨Nat.le_of_ble_eq_true rfl, Nat.le_of_ble_eq_true rfl⟩) rfl rfl [] rfl hl.1 rfl (Nat.le_of_ble_eq_true rfl) dL_law_327 hCN ?_
  refine lv_aload_n (pc := 330) hx hb dL_law_330 rfl (lv_at hl 2 rfl) ?_
  refine lv_aload_n (pc := 331) hx hb dL_law_331 rfl (lv_at hl 0 rfl) ?_
  refine lv_iload_n (pc := 332) hx hb dL_law_332 rfl (lv_at hl 3 rfl) ?_
  refine lv_iconst (v := 1) (pc := 333) hx hb dL_law_333 (by decide) ?_
  refine lv_iadd (pc := 334) hx hb dL_law_334 ?_
  refine va_sld (pc := 335) hx hb hX hbl hbA hS g1 dL_law_335 ?_
  rw [← hy1]
  refine lv_aload_n (pc := 336) hx hb dL_law_336 rfl (lv_at hl 0 rfl) ?_
  refine lv_iload_n (pc := 337) hx hb dL_law_337 rfl (lv_at hl 3 rfl) ?_
  refine lv_iconst (v := 2) (pc := 338) hx hb dL_law_338 (by decide) ?_
  refine lv_iadd (pc := 339) hx hb dL_law_339 ?_
  refine va_sld (pc := 340) hx hb hX hbl hbA hS g2 dL_law_340 ?_
  rw [← hy2]
  refine kG_V (pc := 341) (ci := 7) ⟨hx, hb, hml, hown, hts⟩ (vP_r hP) hK [.int y1, .int y2] (c_X7_particleOf l D cI cJ (a 0) (a 1) (a 2) (a 3) (a 4) (a 5) (a 6) (a 7) (a 8) (a 9) (mm 0) (mm 1) (mm 2) (mm 3) (mm 4) (mm 5) (mm 6) (mm 7) (mm 8) (ar 0) (ar 1) (ar 2) (ar 3) (ar 4) (ar 5) rr (ar 6) (ar 7) y1 y2 ans e2) (cwV 2 hts (gzV wl463 wl464 wl465 wl5 wl466) rfl rfl rfl ⟨rfl, hdX7_particleOf⟩ ⟨Nat.le_of_ble_eq_true rfl, Nat.le_of_ble_eq_true rfl⟩) rfl rfl [.int ans] rfl hl.1 rfl (Nat.le_of_ble_eq_true rfl) dL_law_341 hCN ?_
  refine lv_icmp_eq (pc := 344) (tgt := 698) hx hb dL_law_344 (by decide) (fun _ => ?_) (fun h => absurd rfl h)
  exact kk H locs ls ⟨o, (nI r), A, v, f, u, ch, xn, xa, xr, a, mm, ar, rr, rfl, rfl, ⟨r, Lt, ct, hr4, rfl, m0, m1, u0, m2, hT, hR, hH⟩, hP, hD, hS⟩ hl
set_option maxHeartbeats 20000000 in
set_option maxRecDepth 100000 in
theorem st_generationOf {p : Program} {e : Env} {s : State} {m : MethodId} {below : List Frame} {meth : Method} {c : Code} {l : Launch} {b L : Nat} {xs : Nat → Int32} {D : va_G} {cI cJ : ClassId} {b1 b2 i : Nat} {C N : Nat} {Q : State → Prop} {H : Heap} {locs : List Loc} {ls : Array Slot} (X : LCtx p m meth c s b L xs D cI cJ) (hL : L ≤ 2560) (hi : i + 5 ≤ L) (hCN : C ≤ room_1.cells ∧ N ≤ room_1.slots) (kk : ∀ (H : Heap) (locs : List Loc) (ls : Array Slot), LInv D cI cJ s b1 b2 H locs → lv_has ls 4 [(0, .ref b), (1, .ref b1), (2, .ref b2), (3, .int (nI i))] → W p l e room_1 s m #[Value.ref b] below meth c H locs C N Q (F0 m 698 ls [])) (I : LInv D cI cJ s b1 b2 H locs) (hl : lv_has ls 4 [(0, .ref b), (1, .ref b1), (2, .ref b2), (3, .int (nI i))]) : W p l e room_1 s m #[Value.ref b] below meth c H locs C N Q (F0 m 349 ls []) := by
  obtain ⟨hx, hb, hr, hml, hown, hts, hX, hbl, hK⟩ := X
  obtain ⟨o, rec, A, v, f, u, ch, xn, xa, xr, a, mm, ar, rr, rfl, rfl, hY, hP, hD, hS⟩ := I
  obtain ⟨r, Lt, ct, hr4, rfl, m0, m1, u0, m2, hT, hR, hH⟩ := hY
  have hA : ∀ q : Nat, s.heap.size ≤ q → lA s q := fun _ h => h
  have hbA : ¬ lA s b := Nat.not_le.mpr hbl
  have g1 : vp_in (nI i + 1) L := ix_in hL (k := 1) (by omega) (id rfl)
  obtain ⟨y1, hy1⟩ : ∃ y : Int32, y = xs (nI i + 1).toNatClampNeg := ⟨_, rfl⟩
  have g2 : vp_in (nI i + 2) L := ix_in hL (k := 2) (by omega) (id rfl)
  obtain ⟨y2, hy2⟩ : ∃ y : Int32, y = xs (nI i + 2).toNatClampNeg := ⟨_, rfl⟩
  obtain ⟨ans, e1, e2⟩ := s_generationOf (v := v) (f := f) (s := ar 0) hR y1 y2
  refine lv_aload_n (pc := 349) hx hb dL_law_349 rfl (lv_at hl 1 rfl) ?_
  refine lv_aload_n (pc := 350) hx hb dL_law_350 rfl (lv_at hl 0 rfl) ?_
  refine lv_iload_n (pc := 351) hx hb dL_law_351 rfl (lv_at hl 3 rfl) ?_
  refine lv_iconst (v := 1) (pc := 352) hx hb dL_law_352 (by decide) ?_
  refine lv_iadd (pc := 353) hx hb dL_law_353 ?_
  refine va_sld (pc := 354) hx hb hX hbl hbA hS g1 dL_law_354 ?_
  rw [← hy1]
  refine lv_aload_n (pc := 355) hx hb dL_law_355 rfl (lv_at hl 0 rfl) ?_
  refine lv_iload_n (pc := 356) hx hb dL_law_356 rfl (lv_at hl 3 rfl) ?_
  refine lv_iconst (v := 2) (pc := 357) hx hb dL_law_357 (by decide) ?_
  refine lv_iadd (pc := 358) hx hb dL_law_358 ?_
  refine va_sld (pc := 359) hx hb hX hbl hbA hS g2 dL_law_359 ?_
  rw [← hy2]
  refine kG_V (pc := 360) (ci := 6) ⟨hx, hb, hml, hown, hts⟩ (vP_l hP) hK [.int y1, .int y2] (c_X6_generationOf l D cI cJ (o 0) (A 0 0) (A 0 1) (A 0 2) (A 0 3) (A 0 4) (A 0 5) (A 0 6) (A 0 7) (A 0 8) (A 0 9) (A 0 10) (A 0 11) (A 0 12) (A 0 13) (A 0 14) (A 0 15) (A 0 16) (A 0 17) (A 1 0) (A 1 1) (A 1 2) (A 1 3) (A 1 4) (A 1 5) (A 1 6) (A 1 7) (A 1 8) (A 1 9) (A 1 10) (A 1 11) (A 1 12) (A 1 13) (A 1 14) (A 1 15) (A 1 16) (A 1 17) (A 2 0) (A 2 1) (A 2 2) (A 2 3) (A 2 4) (A 2 5) (A 2 6) (A 2 7) (A 2 8) (A 2 9) (A 2 10) (A 2 11) (A 2 12) (A 2 13) (A 2 14) (A 2 15) (A 2 16) (A 2 17) (A 3 0) (A 3 1) (A 3 2) (A 3 3) (A 3 4) (A 3 5) (A 3 6) (A 3 7) (A 3 8) (A 3 9) (A 3 10) (A 3 11) (A 3 12) (A 3 13) (A 3 14) (A 3 15) (A 3 16) (A 3 17) (A 4 0) (A 4 1) (A 4 2) (A 4 3) (A 4 4) (A 4 5) (A 4 6) (A 4 7) (A 4 8) (A 4 9) (A 4 10) (A 4 11) (A 4 12) (A 4 13) (A 4 14) (A 4 15) (A 4 16) (A 4 17) (A 5 0) (A 5 1) (A 5 2) (A 5 3) (A 5 4) (A 5 5) (A 5 6) (A 5 7) (A 5 8) (A 5 9) (A 5 10) (A 5 11) (A 5 12) (A 5 13) (A 5 14) (A 5 15) (A 5 16) (A 5 17) (o 1) (o 2) (o 3) (o 4) (o 5) (nI r) (v 0 0) (v 0 1) (v 0 2) (v 0 3) (v 0 4) (f 0 0) (f 0 1) (f 0 2) (f 0 3) (f 0 4) (f 0 5) (v 0 5) (f 0 6) (f 0 7) (v 1 0) (v 1 1) (v 1 2) (v 1 3) (v 1 4) (f 1 0) (f 1 1) (f 1 2) (f 1 3) (f 1 4) (f 1 5) (v 1 5) (f 1 6) (f 1 7) (v 2 0) (v 2 1) (v 2 2) (v 2 3) (v 2 4) (f 2 0) (f 2 1) (f 2 2) (f 2 3) (f 2 4) (f 2 5) (v 2 5) (f 2 6) (f 2 7) (v 3 0) (v 3 1) (v 3 2) (v 3 3) (v 3 4) (f 3 0) (f 3 1) (f 3 2) (f 3 3) (f 3 4) (f 3 5) (v 3 5) (f 3 6) (f 3 7) (v 4 0) (v 4 1) (v 4 2) (v 4 3) (v 4 4) (f 4 0) (f 4 1) (f 4 2) (f 4 3) (f 4 4) (f 4 5) (v 4 5) (f 4 6) (f 4 7) (v 5 0) (v 5 1) (v 5 2) (v 5 3) (v 5 4) (f 5 0) (f 5 1) (f 5 2) (f 5 3) (f 5 4) (f 5 5) (v 5 5) (f 5 6) (f 5 7) (u 0) (u 1) (u 2) (u 3) (u 4) (u 5) (u 6) (u 7) (u 8) ch xn xa xr y1 y2 ans e1) (cwV 2 hts (gzV wl478 wl479 wl480 wl2 wl481) rfl rfl rfl ⟨rfl, hdX6_generationOf⟩ ⟨Nat.le_of_ble_eq_true rfl, Nat.le_of_ble_eq_true rfl⟩) rfl rfl [] rfl hl.1 rfl (Nat.le_of_ble_eq_true rfl) dL_law_360 hCN ?_
  refine lv_aload_n (pc := 363) hx hb dL_law_363 rfl (lv_at hl 2 rfl) ?_
  refine lv_aload_n (pc := 364) hx hb dL_law_364 rfl (lv_at hl 0 rfl) ?_
  refine lv_iload_n (pc := 365) hx hb dL_law_365 rfl (lv_at hl 3 rfl) ?_
  refine lv_iconst (v := 1) (pc := 366) hx hb dL_law_366 (by decide) ?_
  refine lv_iadd (pc := 367) hx hb dL_law_367 ?_
  refine va_sld (pc := 368) hx hb hX hbl hbA hS g1 dL_law_368 ?_
  rw [← hy1]
  refine lv_aload_n (pc := 369) hx hb dL_law_369 rfl (lv_at hl 0 rfl) ?_
  refine lv_iload_n (pc := 370) hx hb dL_law_370 rfl (lv_at hl 3 rfl) ?_
  refine lv_iconst (v := 2) (pc := 371) hx hb dL_law_371 (by decide) ?_
  refine lv_iadd (pc := 372) hx hb dL_law_372 ?_
  refine va_sld (pc := 373) hx hb hX hbl hbA hS g2 dL_law_373 ?_
  rw [← hy2]
  refine kG_V (pc := 374) (ci := 7) ⟨hx, hb, hml, hown, hts⟩ (vP_r hP) hK [.int y1, .int y2] (c_X7_generationOf l D cI cJ (a 0) (a 1) (a 2) (a 3) (a 4) (a 5) (a 6) (a 7) (a 8) (a 9) (mm 0) (mm 1) (mm 2) (mm 3) (mm 4) (mm 5) (mm 6) (mm 7) (mm 8) (ar 0) (ar 1) (ar 2) (ar 3) (ar 4) (ar 5) rr (ar 6) (ar 7) y1 y2 ans e2) (cwV 2 hts (gzV wl514 wl515 wl516 wl5 wl517) rfl rfl rfl ⟨rfl, hdX7_generationOf⟩ ⟨Nat.le_of_ble_eq_true rfl, Nat.le_of_ble_eq_true rfl⟩) rfl rfl [.int ans] rfl hl.1 rfl (Nat.le_of_ble_eq_true rfl) dL_law_374 hCN ?_
  refine lv_icmp_eq (pc := 377) (tgt := 698) hx hb dL_law_377 (by decide) (fun _ => ?_) (fun h => absurd rfl h)
  exact kk H locs ls ⟨o, (nI r), A, v, f, u, ch, xn, xa, xr, a, mm, ar, rr, rfl, rfl, ⟨r, Lt, ct, hr4, rfl, m0, m1, u0, m2, hT, hR, hH⟩, hP, hD, hS⟩ hl
set_option maxHeartbeats 20000000 in
set_option maxRecDepth 100000 in
theorem st_ancestor {p : Program} {e : Env} {s : State} {m : MethodId} {below : List Frame} {meth : Method} {c : Code} {l : Launch} {b L : Nat} {xs : Nat → Int32} {D : va_G} {cI cJ : ClassId} {b1 b2 i : Nat} {C N : Nat} {Q : State → Prop} {H : Heap} {locs : List Loc} {ls : Array Slot} (X : LCtx p m meth c s b L xs D cI cJ) (hL : L ≤ 2560) (hi : i + 5 ≤ L) (hCN : C ≤ room_1.cells ∧ N ≤ room_1.slots) (kk : ∀ (H : Heap) (locs : List Loc) (ls : Array Slot), LInv D cI cJ s b1 b2 H locs → lv_has ls 4 [(0, .ref b), (1, .ref b1), (2, .ref b2), (3, .int (nI i))] → W p l e room_1 s m #[Value.ref b] below meth c H locs C N Q (F0 m 698 ls [])) (I : LInv D cI cJ s b1 b2 H locs) (hl : lv_has ls 4 [(0, .ref b), (1, .ref b1), (2, .ref b2), (3, .int (nI i))]) : W p l e room_1 s m #[Value.ref b] below meth c H locs C N Q (F0 m 382 ls []) := by
  obtain ⟨hx, hb, hr, hml, hown, hts, hX, hbl, hK⟩ := X
  obtain ⟨o, rec, A, v, f, u, ch, xn, xa, xr, a, mm, ar, rr, rfl, rfl, hY, hP, hD, hS⟩ := I
  obtain ⟨r, Lt, ct, hr4, rfl, m0, m1, u0, m2, hT, hR, hH⟩ := hY
  have hA : ∀ q : Nat, s.heap.size ≤ q → lA s q := fun _ h => h
  have hbA : ¬ lA s b := Nat.not_le.mpr hbl
  have g1 : vp_in (nI i + 1) L := ix_in hL (k := 1) (by omega) (id rfl)
  obtain ⟨y1, hy1⟩ : ∃ y : Int32, y = xs (nI i + 1).toNatClampNeg := ⟨_, rfl⟩
  have g2 : vp_in (nI i + 2) L := ix_in hL (k := 2) (by omega) (id rfl)
  obtain ⟨y2, hy2⟩ : ∃ y : Int32, y = xs (nI i + 2).toNatClampNeg := ⟨_, rfl⟩
  have g3 : vp_in (nI i + 3) L := ix_in hL (k := 3) (by omega) (id rfl)
  obtain ⟨y3, hy3⟩ : ∃ y : Int32, y = xs (nI i + 3).toNatClampNeg := ⟨_, rfl⟩
  obtain ⟨ans, e1, e2⟩ := s_ancestor (v := v) (f := f) (s := ar 0) hR y1 y2 y3
  refine lv_aload_n (pc := 382) hx hb dL_law_382 rfl (lv_at hl 1 rfl) ?_
  refine lv_aload_n (pc := 383) hx hb dL_law_383 rfl (lv_at hl 0 rfl) ?_
  refine lv_iload_n (pc := 384) hx hb dL_law_384 rfl (lv_at hl 3 rfl) ?_
  refine lv_iconst (v := 1) (pc := 385) hx hb dL_law_385 (by decide) ?_
  refine lv_iadd (pc := 386) hx hb dL_law_386 ?_
  refine va_sld (pc := 387) hx hb hX hbl hbA hS g1 dL_law_387 ?_
  rw [← hy1]
  refine lv_aload_n (pc := 388) hx hb dL_law_388 rfl (lv_at hl 0 rfl) ?_
  refine lv_iload_n (pc := 389) hx hb dL_law_389 rfl (lv_at hl 3 rfl) ?_
  refine lv_iconst (v := 2) (pc := 390) hx hb dL_law_390 (by decide) ?_
  refine lv_iadd (pc := 391) hx hb dL_law_391 ?_
  refine va_sld (pc := 392) hx hb hX hbl hbA hS g2 dL_law_392 ?_
  rw [← hy2]
  refine lv_aload_n (pc := 393) hx hb dL_law_393 rfl (lv_at hl 0 rfl) ?_
  refine lv_iload_n (pc := 394) hx hb dL_law_394 rfl (lv_at hl 3 rfl) ?_
  refine lv_iconst (v := 3) (pc := 395) hx hb dL_law_395 (by decide) ?_
  refine lv_iadd (pc := 396) hx hb dL_law_396 ?_
  refine va_sld (pc := 397) hx hb hX hbl hbA hS g3 dL_law_397 ?_
  rw [← hy3]
  refine kG_V (pc := 398) (ci := 6) ⟨hx, hb, hml, hown, hts⟩ (vP_l hP) hK [.int y1, .int y2, .int y3] (c_X6_ancestor l D cI cJ (o 0) (A 0 0) (A 0 1) (A 0 2) (A 0 3) (A 0 4) (A 0 5) (A 0 6) (A 0 7) (A 0 8) (A 0 9) (A 0 10) (A 0 11) (A 0 12) (A 0 13) (A 0 14) (A 0 15) (A 0 16) (A 0 17) (A 1 0) (A 1 1) (A 1 2) (A 1 3) (A 1 4) (A 1 5) (A 1 6) (A 1 7) (A 1 8) (A 1 9) (A 1 10) (A 1 11) (A 1 12) (A 1 13) (A 1 14) (A 1 15) (A 1 16) (A 1 17) (A 2 0) (A 2 1) (A 2 2) (A 2 3) (A 2 4) (A 2 5) (A 2 6) (A 2 7) (A 2 8) (A 2 9) (A 2 10) (A 2 11) (A 2 12) (A 2 13) (A 2 14) (A 2 15) (A 2 16) (A 2 17) (A 3 0) (A 3 1) (A 3 2) (A 3 3) (A 3 4) (A 3 5) (A 3 6) (A 3 7) (A 3 8) (A 3 9) (A 3 10) (A 3 11) (A 3 12) (A 3 13) (A 3 14) (A 3 15) (A 3 16) (A 3 17) (A 4 0) (A 4 1) (A 4 2) (A 4 3) (A 4 4) (A 4 5) (A 4 6) (A 4 7) (A 4 8) (A 4 9) (A 4 10) (A 4 11) (A 4 12) (A 4 13) (A 4 14) (A 4 15) (A 4 16) (A 4 17) (A 5 0) (A 5 1) (A 5 2) (A 5 3) (A 5 4) (A 5 5) (A 5 6) (A 5 7) (A 5 8) (A 5 9) (A 5 10) (A 5 11) (A 5 12) (A 5 13) (A 5 14) (A 5 15) (A 5 16) (A 5 17) (o 1) (o 2) (o 3) (o 4) (o 5) (nI r) (v 0 0) (v 0 1) (v 0 2) (v 0 3) (v 0 4) (f 0 0) (f 0 1) (f 0 2) (f 0 3) (f 0 4) (f 0 5) (v 0 5) (f 0 6) (f 0 7) (v 1 0) (v 1 1) (v 1 2) (v 1 3) (v 1 4) (f 1 0) (f 1 1) (f 1 2) (f 1 3) (f 1 4) (f 1 5) (v 1 5) (f 1 6) (f 1 7) (v 2 0) (v 2 1) (v 2 2) (v 2 3) (v 2 4) (f 2 0) (f 2 1) (f 2 2) (f 2 3) (f 2 4) (f 2 5) (v 2 5) (f 2 6) (f 2 7) (v 3 0) (v 3 1) (v 3 2) (v 3 3) (v 3 4) (f 3 0) (f 3 1) (f 3 2) (f 3 3) (f 3 4) (f 3 5) (v 3 5) (f 3 6) (f 3 7) (v 4 0) (v 4 1) (v 4 2) (v 4 3) (v 4 4) (f 4 0) (f 4 1) (f 4 2) (f 4 3) (f 4 4) (f 4 5) (v 4 5) (f 4 6) (f 4 7) (v 5 0) (v 5 1) (v 5 2) (v 5 3) (v 5 4) (f 5 0) (f 5 1) (f 5 2) (f 5 3) (f 5 4) (f 5 5) (v 5 5) (f 5 6) (f 5 7) (u 0) (u 1) (u 2) (u 3) (u 4) (u 5) (u 6) (u 7) (u 8) ch xn xa xr y1 y2 y3 ans e1) (cwV 3 hts (gzV wl530 wl531 wl532 wl2 wl533) rfl rfl rfl ⟨rfl, hdX6_ancestor⟩ ⟨Nat.le_of_ble_eq_true rfl, Nat.le_of_ble_eq_true rfl⟩) rfl rfl [] rfl hl.1 rfl (Nat.le_of_ble_eq_true rfl) dL_law_398 hCN ?_
  refine lv_aload_n (pc := 401) hx hb dL_law_401 rfl (lv_at hl 2 rfl) ?_
  refine lv_aload_n (pc := 402) hx hb dL_law_402 rfl (lv_at hl 0 rfl) ?_
  refine lv_iload_n (pc := 403) hx hb dL_law_403 rfl (lv_at hl 3 rfl) ?_
  refine lv_iconst (v := 1) (pc := 404) hx hb dL_law_404 (by decide) ?_
  refine lv_iadd (pc := 405) hx hb dL_law_405 ?_
  refine va_sld (pc := 406) hx hb hX hbl hbA hS g1 dL_law_406 ?_
  rw [← hy1]
  refine lv_aload_n (pc := 407) hx hb dL_law_407 rfl (lv_at hl 0 rfl) ?_
  refine lv_iload_n (pc := 408) hx hb dL_law_408 rfl (lv_at hl 3 rfl) ?_
  refine lv_iconst (v := 2) (pc := 409) hx hb dL_law_409 (by decide) ?_
  refine lv_iadd (pc := 410) hx hb dL_law_410 ?_
  refine va_sld (pc := 411) hx hb hX hbl hbA hS g2 dL_law_411 ?_
  rw [← hy2]
  refine lv_aload_n (pc := 412) hx hb dL_law_412 rfl (lv_at hl 0 rfl) ?_
  refine lv_iload_n (pc := 413) hx hb dL_law_413 rfl (lv_at hl 3 rfl) ?_
  refine lv_iconst (v := 3) (pc := 414) hx hb dL_law_414 (by decide) ?_
  refine lv_iadd (pc := 415) hx hb dL_law_415 ?_
  refine va_sld (pc := 416) hx hb hX hbl hbA hS g3 dL_law_416 ?_
  rw [← hy3]
  refine kG_V (pc := 417) (ci := 7) ⟨hx, hb, hml, hown, hts⟩ (vP_r hP) hK [.int y1, .int y2, .int y3] (c_X7_ancestor l D cI cJ (a 0) (a 1) (a 2) (a 3) (a 4) (a 5) (a 6) (a 7) (a 8) (a 9) (mm 0) (mm 1) (mm 2) (mm 3) (mm 4) (mm 5) (mm 6) (mm 7) (mm 8) (ar 0) (ar 1) (ar 2) (ar 3) (ar 4) (ar 5) rr (ar 6) (ar 7) y1 y2 y3 ans e2) (cwV 3 hts (gzV wl539 wl540 wl541 wl5 wl542) rfl rfl rfl ⟨rfl, hdX7_ancestor⟩ ⟨Nat.le_of_ble_eq_true rfl, Nat.le_of_ble_eq_true rfl⟩) rfl rfl [.int ans] rfl hl.1 rfl (Nat.le_of_ble_eq_true rfl) dL_law_417 hCN ?_
  refine lv_icmp_eq (pc := 420) (tgt := 698) hx hb dL_law_420 (by decide) (fun _ => ?_) (fun h => absurd rfl h)
  exact kk H locs ls ⟨o, (nI r), A, v, f, u, ch, xn, xa, xr, a, mm, ar, rr, rfl, rfl, ⟨r, Lt, ct, hr4, rfl, m0, m1, u0, m2, hT, hR, hH⟩, hP, hD, hS⟩ hl
set_option maxHeartbeats 20000000 in
set_option maxRecDepth 100000 in
theorem st_common {p : Program} {e : Env} {s : State} {m : MethodId} {below : List Frame} {meth : Method} {c : Code} {l : Launch} {b L : Nat} {xs : Nat → Int32} {D : va_G} {cI cJ : ClassId} {b1 b2 i : Nat} {C N : Nat} {Q : State → Prop} {H : Heap} {locs : List Loc} {ls : Array Slot} (X : LCtx p m meth c s b L xs D cI cJ) (hL : L ≤ 2560) (hi : i + 5 ≤ L) (hCN : C ≤ room_1.cells ∧ N ≤ room_1.slots) (kk : ∀ (H : Heap) (locs : List Loc) (ls : Array Slot), LInv D cI cJ s b1 b2 H locs → lv_has ls 4 [(0, .ref b), (1, .ref b1), (2, .ref b2), (3, .int (nI i))] → W p l e room_1 s m #[Value.ref b] below meth c H locs C N Q (F0 m 698 ls [])) (I : LInv D cI cJ s b1 b2 H locs) (hl : lv_has ls 4 [(0, .ref b), (1, .ref b1), (2, .ref b2), (3, .int (nI i))]) : W p l e room_1 s m #[Value.ref b] below meth c H locs C N Q (F0 m 425 ls []) := by
  obtain ⟨hx, hb, hr, hml, hown, hts, hX, hbl, hK⟩ := X
  obtain ⟨o, rec, A, v, f, u, ch, xn, xa, xr, a, mm, ar, rr, rfl, rfl, hY, hP, hD, hS⟩ := I
  obtain ⟨r, Lt, ct, hr4, rfl, m0, m1, u0, m2, hT, hR, hH⟩ := hY
  have hA : ∀ q : Nat, s.heap.size ≤ q → lA s q := fun _ h => h
  have hbA : ¬ lA s b := Nat.not_le.mpr hbl
  have g1 : vp_in (nI i + 1) L := ix_in hL (k := 1) (by omega) (id rfl)
  obtain ⟨y1, hy1⟩ : ∃ y : Int32, y = xs (nI i + 1).toNatClampNeg := ⟨_, rfl⟩
  have g2 : vp_in (nI i + 2) L := ix_in hL (k := 2) (by omega) (id rfl)
  obtain ⟨y2, hy2⟩ : ∃ y : Int32, y = xs (nI i + 2).toNatClampNeg := ⟨_, rfl⟩
  obtain ⟨ans, e1, e2⟩ := s_common (v := v) (f := f) (s := ar 0) hR y1 y2
  refine lv_aload_n (pc := 425) hx hb dL_law_425 rfl (lv_at hl 1 rfl) ?_
  refine lv_aload_n (pc := 426) hx hb dL_law_426 rfl (lv_at hl 0 rfl) ?_
  refine lv_iload_n (pc := 427) hx hb dL_law_427 rfl (lv_at hl 3 rfl) ?_
  refine lv_iconst (v := 1) (pc := 428) hx hb dL_law_428 (by decide) ?_
  refine lv_iadd (pc := 429) hx hb dL_law_429 ?_
  refine va_sld (pc := 430) hx hb hX hbl hbA hS g1 dL_law_430 ?_
  rw [← hy1]
  refine lv_aload_n (pc := 431) hx hb dL_law_431 rfl (lv_at hl 0 rfl) ?_
  refine lv_iload_n (pc := 432) hx hb dL_law_432 rfl (lv_at hl 3 rfl) ?_
  refine lv_iconst (v := 2) (pc := 433) hx hb dL_law_433 (by decide) ?_
  refine lv_iadd (pc := 434) hx hb dL_law_434 ?_
  refine va_sld (pc := 435) hx hb hX hbl hbA hS g2 dL_law_435 ?_
  rw [← hy2]
  refine kG_V (pc := 436) (ci := 6) ⟨hx, hb, hml, hown, hts⟩ (vP_l hP) hK [.int y1, .int y2] (c_X6_common l D cI cJ (o 0) (A 0 0) (A 0 1) (A 0 2) (A 0 3) (A 0 4) (A 0 5) (A 0 6) (A 0 7) (A 0 8) (A 0 9) (A 0 10) (A 0 11) (A 0 12) (A 0 13) (A 0 14) (A 0 15) (A 0 16) (A 0 17) (A 1 0) (A 1 1) (A 1 2) (A 1 3) (A 1 4) (A 1 5) (A 1 6) (A 1 7) (A 1 8) (A 1 9) (A 1 10) (A 1 11) (A 1 12) (A 1 13) (A 1 14) (A 1 15) (A 1 16) (A 1 17) (A 2 0) (A 2 1) (A 2 2) (A 2 3) (A 2 4) (A 2 5) (A 2 6) (A 2 7) (A 2 8) (A 2 9) (A 2 10) (A 2 11) (A 2 12) (A 2 13) (A 2 14) (A 2 15) (A 2 16) (A 2 17) (A 3 0) (A 3 1) (A 3 2) (A 3 3) (A 3 4) (A 3 5) (A 3 6) (A 3 7) (A 3 8) (A 3 9) (A 3 10) (A 3 11) (A 3 12) (A 3 13) (A 3 14) (A 3 15) (A 3 16) (A 3 17) (A 4 0) (A 4 1) (A 4 2) (A 4 3) (A 4 4) (A 4 5) (A 4 6) (A 4 7) (A 4 8) (A 4 9) (A 4 10) (A 4 11) (A 4 12) (A 4 13) (A 4 14) (A 4 15) (A 4 16) (A 4 17) (A 5 0) (A 5 1) (A 5 2) (A 5 3) (A 5 4) (A 5 5) (A 5 6) (A 5 7) (A 5 8) (A 5 9) (A 5 10) (A 5 11) (A 5 12) (A 5 13) (A 5 14) (A 5 15) (A 5 16) (A 5 17) (o 1) (o 2) (o 3) (o 4) (o 5) (nI r) (v 0 0) (v 0 1) (v 0 2) (v 0 3) (v 0 4) (f 0 0) (f 0 1) (f 0 2) (f 0 3) (f 0 4) (f 0 5) (v 0 5) (f 0 6) (f 0 7) (v 1 0) (v 1 1) (v 1 2) (v 1 3) (v 1 4) (f 1 0) (f 1 1) (f 1 2) (f 1 3) (f 1 4) (f 1 5) (v 1 5) (f 1 6) (f 1 7) (v 2 0) (v 2 1) (v 2 2) (v 2 3) (v 2 4) (f 2 0) (f 2 1) (f 2 2) (f 2 3) (f 2 4) (f 2 5) (v 2 5) (f 2 6) (f 2 7) (v 3 0) (v 3 1) (v 3 2) (v 3 3) (v 3 4) (f 3 0) (f 3 1) (f 3 2) (f 3 3) (f 3 4) (f 3 5) (v 3 5) (f 3 6) (f 3 7) (v 4 0) (v 4 1) (v 4 2) (v 4 3) (v 4 4) (f 4 0) (f 4 1) (f 4 2) (f 4 3) (f 4 4) (f 4 5) (v 4 5) (f 4 6) (f 4 7) (v 5 0) (v 5 1) (v 5 2) (v 5 3) (v 5 4) (f 5 0) (f 5 1) (f 5 2) (f 5 3) (f 5 4) (f 5 5) (v 5 5) (f 5 6) (f 5 7) (u 0) (u 1) (u 2) (u 3) (u 4) (u 5) (u 6) (u 7) (u 8) ch xn xa xr y1 y2 ans e1) (cwV 2 hts (gzV wl543 wl544 wl545 wl2 wl546) rfl rfl rfl ⟨rfl, hdX6_common⟩ ⟨Nat.le_of_ble_eq_true rfl, Nat.le_of_ble_eq_true rfl⟩) rfl rfl [] rfl hl.1 rfl (Nat.le_of_ble_eq_true rfl) dL_law_436 hCN ?_
  refine lv_aload_n (pc := 439) hx hb dL_law_439 rfl (lv_at hl 2 rfl) ?_
  refine lv_aload_n (pc := 440) hx hb dL_law_440 rfl (lv_at hl 0 rfl) ?_
  refine lv_iload_n (pc := 441) hx hb dL_law_441 rfl (lv_at hl 3 rfl) ?_
  refine lv_iconst (v := 1) (pc := 442) hx hb dL_law_442 (by decide) ?_
  refine lv_iadd (pc := 443) hx hb dL_law_443 ?_
  refine va_sld (pc := 444) hx hb hX hbl hbA hS g1 dL_law_444 ?_
  rw [← hy1]
  refine lv_aload_n (pc := 445) hx hb dL_law_445 rfl (lv_at hl 0 rfl) ?_
  refine lv_iload_n (pc := 446) hx hb dL_law_446 rfl (lv_at hl 3 rfl) ?_
  refine lv_iconst (v := 2) (pc := 447) hx hb dL_law_447 (by decide) ?_
  refine lv_iadd (pc := 448) hx hb dL_law_448 ?_
  refine va_sld (pc := 449) hx hb hX hbl hbA hS g2 dL_law_449 ?_
  rw [← hy2]
  refine kG_V (pc := 450) (ci := 7) ⟨hx, hb, hml, hown, hts⟩ (vP_r hP) hK [.int y1, .int y2] (c_X7_common l D cI cJ (a 0) (a 1) (a 2) (a 3) (a 4) (a 5) (a 6) (a 7) (a 8) (a 9) (mm 0) (mm 1) (mm 2) (mm 3) (mm 4) (mm 5) (mm 6) (mm 7) (mm 8) (ar 0) (ar 1) (ar 2) (ar 3) (ar 4) (ar 5) rr (ar 6) (ar 7) y1 y2 ans e2) (cwV 2 hts (gzV wl557 wl558 wl559 wl5 wl560) rfl rfl rfl ⟨rfl, hdX7_common⟩ ⟨Nat.le_of_ble_eq_true rfl, Nat.le_of_ble_eq_true rfl⟩) rfl rfl [.int ans] rfl hl.1 rfl (Nat.le_of_ble_eq_true rfl) dL_law_450 hCN ?_
  refine lv_icmp_eq (pc := 453) (tgt := 698) hx hb dL_law_453 (by decide) (fun _ => ?_) (fun h => absurd rfl h)
  exact kk H locs ls ⟨o, (nI r), A, v, f, u, ch, xn, xa, xr, a, mm, ar, rr, rfl, rfl, ⟨r, Lt, ct, hr4, rfl, m0, m1, u0, m2, hT, hR, hH⟩, hP, hD, hS⟩ hl
set_option maxHeartbeats 20000000 in
set_option maxRecDepth 100000 in
theorem st_root {p : Program} {e : Env} {s : State} {m : MethodId} {below : List Frame} {meth : Method} {c : Code} {l : Launch} {b L : Nat} {xs : Nat → Int32} {D : va_G} {cI cJ : ClassId} {b1 b2 i : Nat} {C N : Nat} {Q : State → Prop} {H : Heap} {locs : List Loc} {ls : Array Slot} (X : LCtx p m meth c s b L xs D cI cJ) (hL : L ≤ 2560) (hi : i + 5 ≤ L) (hCN : C ≤ room_1.cells ∧ N ≤ room_1.slots) (kk : ∀ (H : Heap) (locs : List Loc) (ls : Array Slot), LInv D cI cJ s b1 b2 H locs → lv_has ls 4 [(0, .ref b), (1, .ref b1), (2, .ref b2), (3, .int (nI i))] → W p l e room_1 s m #[Value.ref b] below meth c H locs C N Q (F0 m 698 ls [])) (I : LInv D cI cJ s b1 b2 H locs) (hl : lv_has ls 4 [(0, .ref b), (1, .ref b1), (2, .ref b2), (3, .int (nI i))]) : W p l e room_1 s m #[Value.ref b] below meth c H locs C N Q (F0 m 458 ls []) := by
  obtain ⟨hx, hb, hr, hml, hown, hts, hX, hbl, hK⟩ := X
  obtain ⟨o, rec, A, v, f, u, ch, xn, xa, xr, a, mm, ar, rr, rfl, rfl, hY, hP, hD, hS⟩ := I
  obtain ⟨r, Lt, ct, hr4, rfl, m0, m1, u0, m2, hT, hR, hH⟩ := hY
  have hA : ∀ q : Nat, s.heap.size ≤ q → lA s q := fun _ h => h
  have hbA : ¬ lA s b := Nat.not_le.mpr hbl
  obtain ⟨ans, e1, e2⟩ := s_root (v := v) (f := f) (s := ar 0) hR 
  refine lv_aload_n (pc := 458) hx hb dL_law_458 rfl (lv_at hl 1 rfl) ?_
  refine kG_V (pc := 459) (ci := 6) ⟨hx, hb, hml, hown, hts⟩ (vP_l hP) hK [] (c_X6_root l D cI cJ (o 0) (A 0 0) (A 0 1) (A 0 2) (A 0 3) (A 0 4) (A 0 5) (A 0 6) (A 0 7) (A 0 8) (A 0 9) (A 0 10) (A 0 11) (A 0 12) (A 0 13) (A 0 14) (A 0 15) (A 0 16) (A 0 17) (A 1 0) (A 1 1) (A 1 2) (A 1 3) (A 1 4) (A 1 5) (A 1 6) (A 1 7) (A 1 8) (A 1 9) (A 1 10) (A 1 11) (A 1 12) (A 1 13) (A 1 14) (A 1 15) (A 1 16) (A 1 17) (A 2 0) (A 2 1) (A 2 2) (A 2 3) (A 2 4) (A 2 5) (A 2 6) (A 2 7) (A 2 8) (A 2 9) (A 2 10) (A 2 11) (A 2 12) (A 2 13) (A 2 14) (A 2 15) (A 2 16) (A 2 17) (A 3 0) (A 3 1) (A 3 2) (A 3 3) (A 3 4) (A 3 5) (A 3 6) (A 3 7) (A 3 8) (A 3 9) (A 3 10) (A 3 11) (A 3 12) (A 3 13) (A 3 14) (A 3 15) (A 3 16) (A 3 17) (A 4 0) (A 4 1) (A 4 2) (A 4 3) (A 4 4) (A 4 5) (A 4 6) (A 4 7) (A 4 8) (A 4 9) (A 4 10) (A 4 11) (A 4 12) (A 4 13) (A 4 14) (A 4 15) (A 4 16) (A 4 17) (A 5 0) (A 5 1) (A 5 2) (A 5 3) (A 5 4) (A 5 5) (A 5 6) (A 5 7) (A 5 8) (A 5 9) (A 5 10) (A 5 11) (A 5 12) (A 5 13) (A 5 14) (A 5 15) (A 5 16) (A 5 17) (o 1) (o 2) (o 3) (o 4) (o 5) (nI r) (v 0 0) (v 0 1) (v 0 2) (v 0 3) (v 0 4) (f 0 0) (f 0 1) (f 0 2) (f 0 3) (f 0 4) (f 0 5) (v 0 5) (f 0 6) (f 0 7) (v 1 0) (v 1 1) (v 1 2) (v 1 3) (v 1 4) (f 1 0) (f 1 1) (f 1 2) (f 1 3) (f 1 4) (f 1 5) (v 1 5) (f 1 6) (f 1 7) (v 2 0) (v 2 1) (v 2 2) (v 2 3) (v 2 4) (f 2 0) (f 2 1) (f 2 2) (f 2 3) (f 2 4) (f 2 5) (v 2 5) (f 2 6) (f 2 7) (v 3 0) (v 3 1) (v 3 2) (v 3 3) (v 3 4) (f 3 0) (f 3 1) (f 3 2) (f 3 3) (f 3 4) (f 3 5) (v 3 5) (f 3 6) (f 3 7) (v 4 0) (v 4 1) (v 4 2) (v 4 3) (v 4 4) (f 4 0) (f 4 1) (f 4 2) (f 4 3) (f 4 4) (f 4 5) (v 4 5) (f 4 6) (f 4 7) (v 5 0) (v 5 1) (v 5 2) (v 5 3) (v 5 4) (f 5 0) (f 5 1) (f 5 2) (f 5 3) (f 5 4) (f 5 5) (v 5 5) (f 5 6) (f 5 7) (u 0) (u 1) (u 2) (u 3) (u 4) (u 5) (u 6) (u 7) (u 8) ch xn xa xr ans e1) (cwV 0 hts (gzV wl565 wl566 wl567 wl2 wl568) rfl rfl rfl ⟨rfl, hdX6_root⟩ ⟨Nat.le_of_ble_eq_true rfl, Nat.le_of_ble_eq_true rfl⟩) rfl rfl [] rfl hl.1 rfl (Nat.le_of_ble_eq_true rfl) dL_law_459 hCN ?_
  refine lv_aload_n (pc := 462) hx hb dL_law_462 rfl (lv_at hl 2 rfl) ?_
  refine kG_V (pc := 463) (ci := 7) ⟨hx, hb, hml, hown, hts⟩ (vP_r hP) hK [] (c_X7_root l D cI cJ (a 0) (a 1) (a 2) (a 3) (a 4) (a 5) (a 6) (a 7) (a 8) (a 9) (mm 0) (mm 1) (mm 2) (mm 3) (mm 4) (mm 5) (mm 6) (mm 7) (mm 8) (ar 0) (ar 1) (ar 2) (ar 3) (ar 4) (ar 5) rr (ar 6) (ar 7) ans e2) (cwV 0 hts (gzV wl574 wl575 wl576 wl5 wl577) rfl rfl rfl ⟨rfl, hdX7_root⟩ ⟨Nat.le_of_ble_eq_true rfl, Nat.le_of_ble_eq_true rfl⟩) rfl rfl [.int ans] rfl hl.1 rfl (Nat.le_of_ble_eq_true rfl) dL_law_463 hCN ?_
  refine lv_icmp_eq (pc := 466) (tgt := 698) hx hb dL_law_466 (by decide) (fun _ => ?_) (fun h => absurd rfl h)
  exact kk H locs ls ⟨o, (nI r), A, v, f, u, ch, xn, xa, xr, a, mm, ar, rr, rfl, rfl, ⟨r, Lt, ct, hr4, rfl, m0, m1, u0, m2, hT, hR, hH⟩, hP, hD, hS⟩ hl
set_option maxHeartbeats 20000000 in
set_option maxRecDepth 100000 in
theorem st_mean {p : Program} {e : Env} {s : State} {m : MethodId} {below : List Frame} {meth : Method} {c : Code} {l : Launch} {b L : Nat} {xs : Nat → Int32} {D : va_G} {cI cJ : ClassId} {b1 b2 i : Nat} {C N : Nat} {Q : State → Prop} {H : Heap} {locs : List Loc} {ls : Array Slot} (X : LCtx p m meth c s b L xs D cI cJ) (hL : L ≤ 2560) (hi : i + 5 ≤ L) (hCN : C ≤ room_1.cells ∧ N ≤ room_1.slots) (kk : ∀ (H : Heap) (locs : List Loc) (ls : Array Slot), LInv D cI cJ s b1 b2 H locs → lv_has ls 4 [(0, .ref b), (1, .ref b1), (2, .ref b2), (3, .int (nI i))] → W p l e room_1 s m #[Value.ref b] below meth c H locs C N Q (F0 m 698 ls [])) (I : LInv D cI cJ s b1 b2 H locs) (hl : lv_has ls 4 [(0, .ref b), (1, .ref b1), (2, .ref b2), (3, .int (nI i))]) : W p l e room_1 s m #[Value.ref b] below meth c H locs C N Q (F0 m 471 ls []) := by
  obtain ⟨hx, hb, hr, hml, hown, hts, hX, hbl, hK⟩ := X
  obtain ⟨o, rec, A, v, f, u, ch, xn, xa, xr, a, mm, ar, rr, rfl, rfl, hY, hP, hD, hS⟩ := I
  obtain ⟨r, Lt, ct, hr4, rfl, m0, m1, u0, m2, hT, hR, hH⟩ := hY
  have hA : ∀ q : Nat, s.heap.size ≤ q → lA s q := fun _ h => h
  have hbA : ¬ lA s b := Nat.not_le.mpr hbl
  have g1 : vp_in (nI i + 1) L := ix_in hL (k := 1) (by omega) (id rfl)
  obtain ⟨y1, hy1⟩ : ∃ y : Int32, y = xs (nI i + 1).toNatClampNeg := ⟨_, rfl⟩
  have g2 : vp_in (nI i + 2) L := ix_in hL (k := 2) (by omega) (id rfl)
  obtain ⟨y2, hy2⟩ : ∃ y : Int32, y = xs (nI i + 2).toNatClampNeg := ⟨_, rfl⟩
  obtain ⟨ans, e1, e2⟩ := s_mean (v := v) (f := f) (s := ar 0) hR y1 y2
  refine lv_aload_n (pc := 471) hx hb dL_law_471 rfl (lv_at hl 1 rfl) ?_
  refine lv_aload_n (pc := 472) hx hb dL_law_472 rfl (lv_at hl 0 rfl) ?_
  refine lv_iload_n (pc := 473) hx hb dL_law_473 rfl (lv_at hl 3 rfl) ?_
  refine lv_iconst (v := 1) (pc := 474) hx hb dL_law_474 (by decide) ?_
  refine lv_iadd (pc := 475) hx hb dL_law_475 ?_
  refine va_sld (pc := 476) hx hb hX hbl hbA hS g1 dL_law_476 ?_
  rw [← hy1]
  refine lv_aload_n (pc := 477) hx hb dL_law_477 rfl (lv_at hl 0 rfl) ?_
  refine lv_iload_n (pc := 478) hx hb dL_law_478 rfl (lv_at hl 3 rfl) ?_
  refine lv_iconst (v := 2) (pc := 479) hx hb dL_law_479 (by decide) ?_
  refine lv_iadd (pc := 480) hx hb dL_law_480 ?_
  refine va_sld (pc := 481) hx hb hX hbl hbA hS g2 dL_law_481 ?_
  rw [← hy2]
  refine kG_V (pc := 482) (ci := 6) ⟨hx, hb, hml, hown, hts⟩ (vP_l hP) hK [.int y1, .int y2] (c_X6_mean l D cI cJ (o 0) (A 0 0) (A 0 1) (A 0 2) (A 0 3) (A 0 4) (A 0 5) (A 0 6) (A 0 7) (A 0 8) (A 0 9) (A 0 10) (A 0 11) (A 0 12) (A 0 13) (A 0 14) (A 0 15) (A 0 16) (A 0 17) (A 1 0) (A 1 1) (A 1 2) (A 1 3) (A 1 4) (A 1 5) (A 1 6) (A 1 7) (A 1 8) (A 1 9) (A 1 10) (A 1 11) (A 1 12) (A 1 13) (A 1 14) (A 1 15) (A 1 16) (A 1 17) (A 2 0) (A 2 1) (A 2 2) (A 2 3) (A 2 4) (A 2 5) (A 2 6) (A 2 7) (A 2 8) (A 2 9) (A 2 10) (A 2 11) (A 2 12) (A 2 13) (A 2 14) (A 2 15) (A 2 16) (A 2 17) (A 3 0) (A 3 1) (A 3 2) (A 3 3) (A 3 4) (A 3 5) (A 3 6) (A 3 7) (A 3 8) (A 3 9) (A 3 10) (A 3 11) (A 3 12) (A 3 13) (A 3 14) (A 3 15) (A 3 16) (A 3 17) (A 4 0) (A 4 1) (A 4 2) (A 4 3) (A 4 4) (A 4 5) (A 4 6) (A 4 7) (A 4 8) (A 4 9) (A 4 10) (A 4 11) (A 4 12) (A 4 13) (A 4 14) (A 4 15) (A 4 16) (A 4 17) (A 5 0) (A 5 1) (A 5 2) (A 5 3) (A 5 4) (A 5 5) (A 5 6) (A 5 7) (A 5 8) (A 5 9) (A 5 10) (A 5 11) (A 5 12) (A 5 13) (A 5 14) (A 5 15) (A 5 16) (A 5 17) (o 1) (o 2) (o 3) (o 4) (o 5) (nI r) (v 0 0) (v 0 1) (v 0 2) (v 0 3) (v 0 4) (f 0 0) (f 0 1) (f 0 2) (f 0 3) (f 0 4) (f 0 5) (v 0 5) (f 0 6) (f 0 7) (v 1 0) (v 1 1) (v 1 2) (v 1 3) (v 1 4) (f 1 0) (f 1 1) (f 1 2) (f 1 3) (f 1 4) (f 1 5) (v 1 5) (f 1 6) (f 1 7) (v 2 0) (v 2 1) (v 2 2) (v 2 3) (v 2 4) (f 2 0) (f 2 1) (f 2 2) (f 2 3) (f 2 4) (f 2 5) (v 2 5) (f 2 6) (f 2 7) (v 3 0) (v 3 1) (v 3 2) (v 3 3) (v 3 4) (f 3 0) (f 3 1) (f 3 2) (f 3 3) (f 3 4) (f 3 5) (v 3 5) (f 3 6) (f 3 7) (v 4 0) (v 4 1) (v 4 2) (v 4 3) (v 4 4) (f 4 0) (f 4 1) (f 4 2) (f 4 3) (f 4 4) (f 4 5) (v 4 5) (f 4 6) (f 4 7) (v 5 0) (v 5 1) (v 5 2) (v 5 3) (v 5 4) (f 5 0) (f 5 1) (f 5 2) (f 5 3) (f 5 4) (f 5 5) (v 5 5) (f 5 6) (f 5 7) (u 0) (u 1) (u 2) (u 3) (u 4) (u 5) (u 6) (u 7) (u 8) ch xn xa xr y1 y2 ans e1) (cwV 2 hts (gzV wl578 wl579 wl580 wl2 wl581) rfl rfl rfl ⟨rfl, hdX6_mean⟩ ⟨Nat.le_of_ble_eq_true rfl, Nat.le_of_ble_eq_true rfl⟩) rfl rfl [] rfl hl.1 rfl (Nat.le_of_ble_eq_true rfl) dL_law_482 hCN ?_
  refine lv_aload_n (pc := 485) hx hb dL_law_485 rfl (lv_at hl 2 rfl) ?_
  refine lv_aload_n (pc := 486) hx hb dL_law_486 rfl (lv_at hl 0 rfl) ?_
  refine lv_iload_n (pc := 487) hx hb dL_law_487 rfl (lv_at hl 3 rfl) ?_
  refine lv_iconst (v := 1) (pc := 488) hx hb dL_law_488 (by decide) ?_
  refine lv_iadd (pc := 489) hx hb dL_law_489 ?_
  refine va_sld (pc := 490) hx hb hX hbl hbA hS g1 dL_law_490 ?_
  rw [← hy1]
  refine lv_aload_n (pc := 491) hx hb dL_law_491 rfl (lv_at hl 0 rfl) ?_
  refine lv_iload_n (pc := 492) hx hb dL_law_492 rfl (lv_at hl 3 rfl) ?_
  refine lv_iconst (v := 2) (pc := 493) hx hb dL_law_493 (by decide) ?_
  refine lv_iadd (pc := 494) hx hb dL_law_494 ?_
  refine va_sld (pc := 495) hx hb hX hbl hbA hS g2 dL_law_495 ?_
  rw [← hy2]
  refine kG_V (pc := 496) (ci := 7) ⟨hx, hb, hml, hown, hts⟩ (vP_r hP) hK [.int y1, .int y2] (c_X7_mean l D cI cJ (a 0) (a 1) (a 2) (a 3) (a 4) (a 5) (a 6) (a 7) (a 8) (a 9) (mm 0) (mm 1) (mm 2) (mm 3) (mm 4) (mm 5) (mm 6) (mm 7) (mm 8) (ar 0) (ar 1) (ar 2) (ar 3) (ar 4) (ar 5) rr (ar 6) (ar 7) y1 y2 ans e2) (cwV 2 hts (gzV wl586 wl587 wl588 wl5 wl589) rfl rfl rfl ⟨rfl, hdX7_mean⟩ ⟨Nat.le_of_ble_eq_true rfl, Nat.le_of_ble_eq_true rfl⟩) rfl rfl [.int ans] rfl hl.1 rfl (Nat.le_of_ble_eq_true rfl) dL_law_496 hCN ?_
  refine lv_icmp_eq (pc := 499) (tgt := 698) hx hb dL_law_499 (by decide) (fun _ => ?_) (fun h => absurd rfl h)
  exact kk H locs ls ⟨o, (nI r), A, v, f, u, ch, xn, xa, xr, a, mm, ar, rr, rfl, rfl, ⟨r, Lt, ct, hr4, rfl, m0, m1, u0, m2, hT, hR, hH⟩, hP, hD, hS⟩ hl
set_option maxHeartbeats 20000000 in
set_option maxRecDepth 100000 in
theorem st_share {p : Program} {e : Env} {s : State} {m : MethodId} {below : List Frame} {meth : Method} {c : Code} {l : Launch} {b L : Nat} {xs : Nat → Int32} {D : va_G} {cI cJ : ClassId} {b1 b2 i : Nat} {C N : Nat} {Q : State → Prop} {H : Heap} {locs : List Loc} {ls : Array Slot} (X : LCtx p m meth c s b L xs D cI cJ) (hL : L ≤ 2560) (hi : i + 5 ≤ L) (hCN : C ≤ room_1.cells ∧ N ≤ room_1.slots) (kk : ∀ (H : Heap) (locs : List Loc) (ls : Array Slot), LInv D cI cJ s b1 b2 H locs → lv_has ls 4 [(0, .ref b), (1, .ref b1), (2, .ref b2), (3, .int (nI i))] → W p l e room_1 s m #[Value.ref b] below meth c H locs C N Q (F0 m 698 ls [])) (I : LInv D cI cJ s b1 b2 H locs) (hl : lv_has ls 4 [(0, .ref b), (1, .ref b1), (2, .ref b2), (3, .int (nI i))]) : W p l e room_1 s m #[Value.ref b] below meth c H locs C N Q (F0 m 504 ls []) := by
  obtain ⟨hx, hb, hr, hml, hown, hts, hX, hbl, hK⟩ := X
  obtain ⟨o, rec, A, v, f, u, ch, xn, xa, xr, a, mm, ar, rr, rfl, rfl, hY, hP, hD, hS⟩ := I
  obtain ⟨r, Lt, ct, hr4, rfl, m0, m1, u0, m2, hT, hR, hH⟩ := hY
  have hA : ∀ q : Nat, s.heap.size ≤ q → lA s q := fun _ h => h
  have hbA : ¬ lA s b := Nat.not_le.mpr hbl
  have g1 : vp_in (nI i + 1) L := ix_in hL (k := 1) (by omega) (id rfl)
  obtain ⟨y1, hy1⟩ : ∃ y : Int32, y = xs (nI i + 1).toNatClampNeg := ⟨_, rfl⟩
  have g2 : vp_in (nI i + 2) L := ix_in hL (k := 2) (by omega) (id rfl)
  obtain ⟨y2, hy2⟩ : ∃ y : Int32, y = xs (nI i + 2).toNatClampNeg := ⟨_, rfl⟩
  have g3 : vp_in (nI i + 3) L := ix_in hL (k := 3) (by omega) (id rfl)
  obtain ⟨y3, hy3⟩ : ∃ y : Int32, y = xs (nI i + 3).toNatClampNeg := ⟨_, rfl⟩
  have g4 : vp_in (nI i + 4) L := ix_in hL (k := 4) (by omega) (id rfl)
  obtain ⟨y4, hy4⟩ : ∃ y : Int32, y = xs (nI i + 4).toNatClampNeg := ⟨_, rfl⟩
  obtain ⟨ans, e1, e2⟩ := s_share (v := v) (f := f) (s := ar 0) hR y1 y2 y3 y4
  refine lv_aload_n (pc := 504) hx hb dL_law_504 rfl (lv_at hl 1 rfl) ?_
  refine lv_aload_n (pc := 505) hx hb dL_law_505 rfl (lv_at hl 0 rfl) ?_
  refine lv_iload_n (pc := 506) hx hb dL_law_506 rfl (lv_at hl 3 rfl) ?_
  refine lv_iconst (v := 1) (pc := 507) hx hb dL_law_507 (by decide) ?_
  refine lv_iadd (pc := 508) hx hb dL_law_508 ?_
  refine va_sld (pc := 509) hx hb hX hbl hbA hS g1 dL_law_509 ?_
  rw [← hy1]
  refine lv_aload_n (pc := 510) hx hb dL_law_510 rfl (lv_at hl 0 rfl) ?_
  refine lv_iload_n (pc := 511) hx hb dL_law_511 rfl (lv_at hl 3 rfl) ?_
  refine lv_iconst (v := 2) (pc := 512) hx hb dL_law_512 (by decide) ?_
  refine lv_iadd (pc := 513) hx hb dL_law_513 ?_
  refine va_sld (pc := 514) hx hb hX hbl hbA hS g2 dL_law_514 ?_
  rw [← hy2]
  refine lv_aload_n (pc := 515) hx hb dL_law_515 rfl (lv_at hl 0 rfl) ?_
  refine lv_iload_n (pc := 516) hx hb dL_law_516 rfl (lv_at hl 3 rfl) ?_
  refine lv_iconst (v := 3) (pc := 517) hx hb dL_law_517 (by decide) ?_
  refine lv_iadd (pc := 518) hx hb dL_law_518 ?_
  refine va_sld (pc := 519) hx hb hX hbl hbA hS g3 dL_law_519 ?_
  rw [← hy3]
  refine lv_aload_n (pc := 520) hx hb dL_law_520 rfl (lv_at hl 0 rfl) ?_
  refine lv_iload_n (pc := 521) hx hb dL_law_521 rfl (lv_at hl 3 rfl) ?_
  refine lv_iconst (v := 4) (pc := 522) hx hb dL_law_522 (by decide) ?_
  refine lv_iadd (pc := 523) hx hb dL_law_523 ?_
  refine va_sld (pc := 524) hx hb hX hbl hbA hS g4 dL_law_524 ?_
  rw [← hy4]
  refine kG_V (pc := 525) (ci := 6) ⟨hx, hb, hml, hown, hts⟩ (vP_l hP) hK [.int y1, .int y2, .int y3, .int y4] (c_X6_share l D cI cJ (o 0) (A 0 0) (A 0 1) (A 0 2) (A 0 3) (A 0 4) (A 0 5) (A 0 6) (A 0 7) (A 0 8) (A 0 9) (A 0 10) (A 0 11) (A 0 12) (A 0 13) (A 0 14) (A 0 15) (A 0 16) (A 0 17) (A 1 0) (A 1 1) (A 1 2) (A 1 3) (A 1 4) (A 1 5) (A 1 6) (A 1 7) (A 1 8) (A 1 9) (A 1 10) (A 1 11) (A 1 12) (A 1 13) (A 1 14) (A 1 15) (A 1 16) (A 1 17) (A 2 0) (A 2 1) (A 2 2) (A 2 3) (A 2 4) (A 2 5) (A 2 6) (A 2 7) (A 2 8) (A 2 9) (A 2 10) (A 2 11) (A 2 12) (A 2 13) (A 2 14) (A 2 15) (A 2 16) (A 2 17) (A 3 0) (A 3 1) (A 3 2) (A 3 3) (A 3 4) (A 3 5) (A 3 6) (A 3 7) (A 3 8) (A 3 9) (A 3 10) (A 3 11) (A 3 12) (A 3 13) (A 3 14) (A 3 15) (A 3 16) (A 3 17) (A 4 0) (A 4 1) (A 4 2) (A 4 3) (A 4 4) (A 4 5) (A 4 6) (A 4 7) (A 4 8) (A 4 9) (A 4 10) (A 4 11) (A 4 12) (A 4 13) (A 4 14) (A 4 15) (A 4 16) (A 4 17) (A 5 0) (A 5 1) (A 5 2) (A 5 3) (A 5 4) (A 5 5) (A 5 6) (A 5 7) (A 5 8) (A 5 9) (A 5 10) (A 5 11) (A 5 12) (A 5 13) (A 5 14) (A 5 15) (A 5 16) (A 5 17) (o 1) (o 2) (o 3) (o 4) (o 5) (nI r) (v 0 0) (v 0 1) (v 0 2) (v 0 3) (v 0 4) (f 0 0) (f 0 1) (f 0 2) (f 0 3) (f 0 4) (f 0 5) (v 0 5) (f 0 6) (f 0 7) (v 1 0) (v 1 1) (v 1 2) (v 1 3) (v 1 4) (f 1 0) (f 1 1) (f 1 2) (f 1 3) (f 1 4) (f 1 5) (v 1 5) (f 1 6) (f 1 7) (v 2 0) (v 2 1) (v 2 2) (v 2 3) (v 2 4) (f 2 0) (f 2 1) (f 2 2) (f 2 3) (f 2 4) (f 2 5) (v 2 5) (f 2 6) (f 2 7) (v 3 0) (v 3 1) (v 3 2) (v 3 3) (v 3 4) (f 3 0) (f 3 1) (f 3 2) (f 3 3) (f 3 4) (f 3 5) (v 3 5) (f 3 6) (f 3 7) (v 4 0) (v 4 1) (v 4 2) (v 4 3) (v 4 4) (f 4 0) (f 4 1) (f 4 2) (f 4 3) (f 4 4) (f 4 5) (v 4 5) (f 4 6) (f 4 7) (v 5 0) (v 5 1) (v 5 2) (v 5 3) (v 5 4) (f 5 0) (f 5 1) (f 5 2) (f 5 3) (f 5 4) (f 5 5) (v 5 5) (f 5 6) (f 5 7) (u 0) (u 1) (u 2) (u 3) (u 4) (u 5) (u 6) (u 7) (u 8) ch xn xa xr y1 y2 y3 y4 ans e1) (cwV 4 hts (gzV wl590 wl591 wl592 wl2 wl593) rfl rfl rfl ⟨rfl, hdX6_share⟩ ⟨Nat.le_of_ble_eq_true rfl, Nat.le_of_ble_eq_true rfl⟩) rfl rfl [] rfl hl.1 rfl (Nat.le_of_ble_eq_true rfl) dL_law_525 hCN ?_
  refine lv_aload_n (pc := 528) hx hb dL_law_528 rfl (lv_at hl 2 rfl) ?_
  refine lv_aload_n (pc := 529) hx hb dL_law_529 rfl (lv_at hl 0 rfl) ?_
  refine lv_iload_n (pc := 530) hx hb dL_law_530 rfl (lv_at hl 3 rfl) ?_
  refine lv_iconst (v := 1) (pc := 531) hx hb dL_law_531 (by decide) ?_
  refine lv_iadd (pc := 532) hx hb dL_law_532 ?_
  refine va_sld (pc := 533) hx hb hX hbl hbA hS g1 dL_law_533 ?_
  rw [← hy1]
  refine lv_aload_n (pc := 534) hx hb dL_law_534 rfl (lv_at hl 0 rfl) ?_
  refine lv_iload_n (pc := 535) hx hb dL_law_535 rfl (lv_at hl 3 rfl) ?_
  refine lv_iconst (v := 2) (pc := 536) hx hb dL_law_536 (by decide) ?_
  refine lv_iadd (pc := 537) hx hb dL_law_537 ?_
  refine va_sld (pc := 538) hx hb hX hbl hbA hS g2 dL_law_538 ?_
  rw [← hy2]
  refine lv_aload_n (pc := 539) hx hb dL_law_539 rfl (lv_at hl 0 rfl) ?_
  refine lv_iload_n (pc := 540) hx hb dL_law_540 rfl (lv_at hl 3 rfl) ?_
  refine lv_iconst (v := 3) (pc := 541) hx hb dL_law_541 (by decide) ?_
  refine lv_iadd (pc := 542) hx hb dL_law_542 ?_
  refine va_sld (pc := 543) hx hb hX hbl hbA hS g3 dL_law_543 ?_
  rw [← hy3]
  refine lv_aload_n (pc := 544) hx hb dL_law_544 rfl (lv_at hl 0 rfl) ?_
  refine lv_iload_n (pc := 545) hx hb dL_law_545 rfl (lv_at hl 3 rfl) ?_
  refine lv_iconst (v := 4) (pc := 546) hx hb dL_law_546 (by decide) ?_
  refine lv_iadd (pc := 547) hx hb dL_law_547 ?_
  refine va_sld (pc := 548) hx hb hX hbl hbA hS g4 dL_law_548 ?_
  rw [← hy4]
  refine kG_V (pc := 549) (ci := 7) ⟨hx, hb, hml, hown, hts⟩ (vP_r hP) hK [.int y1, .int y2, .int y3, .int y4] (c_X7_share l D cI cJ (a 0) (a 1) (a 2) (a 3) (a 4) (a 5) (a 6) (a 7) (a 8) (a 9) (mm 0) (mm 1) (mm 2) (mm 3) (mm 4) (mm 5) (mm 6) (mm 7) (mm 8) (ar 0) (ar 1) (ar 2) (ar 3) (ar 4) (ar 5) rr (ar 6) (ar 7) y1 y2 y3 y4 ans e2) (cwV 4 hts (gzV wl598 wl599 wl600 wl5 wl601) rfl rfl rfl ⟨rfl, hdX7_share⟩ ⟨Nat.le_of_ble_eq_true rfl, Nat.le_of_ble_eq_true rfl⟩) rfl rfl [.int ans] rfl hl.1 rfl (Nat.le_of_ble_eq_true rfl) dL_law_549 hCN ?_
  refine lv_icmp_eq (pc := 552) (tgt := 698) hx hb dL_law_552 (by decide) (fun _ => ?_) (fun h => absurd rfl h)
  exact kk H locs ls ⟨o, (nI r), A, v, f, u, ch, xn, xa, xr, a, mm, ar, rr, rfl, rfl, ⟨r, Lt, ct, hr4, rfl, m0, m1, u0, m2, hT, hR, hH⟩, hP, hD, hS⟩ hl
set_option maxHeartbeats 20000000 in
set_option maxRecDepth 100000 in
theorem st_would {p : Program} {e : Env} {s : State} {m : MethodId} {below : List Frame} {meth : Method} {c : Code} {l : Launch} {b L : Nat} {xs : Nat → Int32} {D : va_G} {cI cJ : ClassId} {b1 b2 i : Nat} {C N : Nat} {Q : State → Prop} {H : Heap} {locs : List Loc} {ls : Array Slot} (X : LCtx p m meth c s b L xs D cI cJ) (hL : L ≤ 2560) (hi : i + 5 ≤ L) (hCN : C ≤ room_1.cells ∧ N ≤ room_1.slots) (kk : ∀ (H : Heap) (locs : List Loc) (ls : Array Slot), LInv D cI cJ s b1 b2 H locs → lv_has ls 4 [(0, .ref b), (1, .ref b1), (2, .ref b2), (3, .int (nI i))] → W p l e room_1 s m #[Value.ref b] below meth c H locs C N Q (F0 m 698 ls [])) (I : LInv D cI cJ s b1 b2 H locs) (hl : lv_has ls 4 [(0, .ref b), (1, .ref b1), (2, .ref b2), (3, .int (nI i))]) : W p l e room_1 s m #[Value.ref b] below meth c H locs C N Q (F0 m 557 ls []) := by
  obtain ⟨hx, hb, hr, hml, hown, hts, hX, hbl, hK⟩ := X
  obtain ⟨o, rec, A, v, f, u, ch, xn, xa, xr, a, mm, ar, rr, rfl, rfl, hY, hP, hD, hS⟩ := I
  obtain ⟨r, Lt, ct, hr4, rfl, m0, m1, u0, m2, hT, hR, hH⟩ := hY
  have hA : ∀ q : Nat, s.heap.size ≤ q → lA s q := fun _ h => h
  have hbA : ¬ lA s b := Nat.not_le.mpr hbl
  have g1 : vp_in (nI i + 1) L := ix_in hL (k := 1) (by omega) (id rfl)
  obtain ⟨y1, hy1⟩ : ∃ y : Int32, y = xs (nI i + 1).toNatClampNeg := ⟨_, rfl⟩
  have g2 : vp_in (nI i + 2) L := ix_in hL (k := 2) (by omega) (id rfl)
  obtain ⟨y2, hy2⟩ : ∃ y : Int32, y = xs (nI i + 2).toNatClampNeg := ⟨_, rfl⟩
  obtain ⟨ans, xn', xa', xr', s', q4, q5, q6, e1, e2, hs⟩ := s_would (v := v) (f := f) (s := ar 0) hR (ar 4) (ar 5) rr xn xa xr y1 y2
  refine lv_aload_n (pc := 557) hx hb dL_law_557 rfl (lv_at hl 1 rfl) ?_
  refine lv_aload_n (pc := 558) hx hb dL_law_558 rfl (lv_at hl 0 rfl) ?_
  refine lv_iload_n (pc := 559) hx hb dL_law_559 rfl (lv_at hl 3 rfl) ?_
  refine lv_iconst (v := 1) (pc := 560) hx hb dL_law_560 (by decide) ?_
  refine lv_iadd (pc := 561) hx hb dL_law_561 ?_
  refine va_sld (pc := 562) hx hb hX hbl hbA hS g1 dL_law_562 ?_
  rw [← hy1]
  refine lv_aload_n (pc := 563) hx hb dL_law_563 rfl (lv_at hl 0 rfl) ?_
  refine lv_iload_n (pc := 564) hx hb dL_law_564 rfl (lv_at hl 3 rfl) ?_
  refine lv_iconst (v := 2) (pc := 565) hx hb dL_law_565 (by decide) ?_
  refine lv_iadd (pc := 566) hx hb dL_law_566 ?_
  refine va_sld (pc := 567) hx hb hX hbl hbA hS g2 dL_law_567 ?_
  rw [← hy2]
  refine kG_W (pc := 568) (ci := 6) ⟨hx, hb, hml, hown, hts⟩ (vP_l hP) hK (vD_l hD) hS hA [.int y1, .int y2] (c_X6_would l D cI cJ (o 0) (A 0 0) (A 0 1) (A 0 2) (A 0 3) (A 0 4) (A 0 5) (A 0 6) (A 0 7) (A 0 8) (A 0 9) (A 0 10) (A 0 11) (A 0 12) (A 0 13) (A 0 14) (A 0 15) (A 0 16) (A 0 17) (A 1 0) (A 1 1) (A 1 2) (A 1 3) (A 1 4) (A 1 5) (A 1 6) (A 1 7) (A 1 8) (A 1 9) (A 1 10) (A 1 11) (A 1 12) (A 1 13) (A 1 14) (A 1 15) (A 1 16) (A 1 17) (A 2 0) (A 2 1) (A 2 2) (A 2 3) (A 2 4) (A 2 5) (A 2 6) (A 2 7) (A 2 8) (A 2 9) (A 2 10) (A 2 11) (A 2 12) (A 2 13) (A 2 14) (A 2 15) (A 2 16) (A 2 17) (A 3 0) (A 3 1) (A 3 2) (A 3 3) (A 3 4) (A 3 5) (A 3 6) (A 3 7) (A 3 8) (A 3 9) (A 3 10) (A 3 11) (A 3 12) (A 3 13) (A 3 14) (A 3 15) (A 3 16) (A 3 17) (A 4 0) (A 4 1) (A 4 2) (A 4 3) (A 4 4) (A 4 5) (A 4 6) (A 4 7) (A 4 8) (A 4 9) (A 4 10) (A 4 11) (A 4 12) (A 4 13) (A 4 14) (A 4 15) (A 4 16) (A 4 17) (A 5 0) (A 5 1) (A 5 2) (A 5 3) (A 5 4) (A 5 5) (A 5 6) (A 5 7) (A 5 8) (A 5 9) (A 5 10) (A 5 11) (A 5 12) (A 5 13) (A 5 14) (A 5 15) (A 5 16) (A 5 17) (o 1) (o 2) (o 3) (o 4) (o 5) (nI r) (v 0 0) (v 0 1) (v 0 2) (v 0 3) (v 0 4) (f 0 0) (f 0 1) (f 0 2) (f 0 3) (f 0 4) (f 0 5) (v 0 5) (f 0 6) (f 0 7) (v 1 0) (v 1 1) (v 1 2) (v 1 3) (v 1 4) (f 1 0) (f 1 1) (f 1 2) (f 1 3) (f 1 4) (f 1 5) (v 1 5) (f 1 6) (f 1 7) (v 2 0) (v 2 1) (v 2 2) (v 2 3) (v 2 4) (f 2 0) (f 2 1) (f 2 2) (f 2 3) (f 2 4) (f 2 5) (v 2 5) (f 2 6) (f 2 7) (v 3 0) (v 3 1) (v 3 2) (v 3 3) (v 3 4) (f 3 0) (f 3 1) (f 3 2) (f 3 3) (f 3 4) (f 3 5) (v 3 5) (f 3 6) (f 3 7) (v 4 0) (v 4 1) (v 4 2) (v 4 3) (v 4 4) (f 4 0) (f 4 1) (f 4 2) (f 4 3) (f 4 4) (f 4 5) (v 4 5) (f 4 6) (f 4 7) (v 5 0) (v 5 1) (v 5 2) (v 5 3) (v 5 4) (f 5 0) (f 5 1) (f 5 2) (f 5 3) (f 5 4) (f 5 5) (v 5 5) (f 5 6) (f 5 7) (u 0) (u 1) (u 2) (u 3) (u 4) (u 5) (u 6) (u 7) (u 8) ch xn xa xr y1 y2 ans xn' xa' xr' e1 _) (cwV 2 hts (gzV wl602 wl603 wl604 wl2 wl605) rfl rfl rfl ⟨rfl, hdX6_would⟩ ⟨Nat.le_of_ble_eq_true rfl, Nat.le_of_ble_eq_true rfl⟩) rfl rfl [] rfl hl.1 rfl (Nat.le_of_ble_eq_true rfl) dL_law_568 hCN (fun H locs hP1 hk1 hS => ?_)
  obtain ⟨hP, hD⟩ := kJoinL hP hD hk1 hP1 rfl
  refine lv_aload_n (pc := 571) hx hb dL_law_571 rfl (lv_at hl 2 rfl) ?_
  refine lv_aload_n (pc := 572) hx hb dL_law_572 rfl (lv_at hl 0 rfl) ?_
  refine lv_iload_n (pc := 573) hx hb dL_law_573 rfl (lv_at hl 3 rfl) ?_
  refine lv_iconst (v := 1) (pc := 574) hx hb dL_law_574 (by decide) ?_
  refine lv_iadd (pc := 575) hx hb dL_law_575 ?_
  refine va_sld (pc := 576) hx hb hX hbl hbA hS g1 dL_law_576 ?_
  rw [← hy1]
  refine lv_aload_n (pc := 577) hx hb dL_law_577 rfl (lv_at hl 0 rfl) ?_
  refine lv_iload_n (pc := 578) hx hb dL_law_578 rfl (lv_at hl 3 rfl) ?_
  refine lv_iconst (v := 2) (pc := 579) hx hb dL_law_579 (by decide) ?_
  refine lv_iadd (pc := 580) hx hb dL_law_580 ?_
  refine va_sld (pc := 581) hx hb hX hbl hbA hS g2 dL_law_581 ?_
  rw [← hy2]
  refine kG_W (pc := 582) (ci := 7) ⟨hx, hb, hml, hown, hts⟩ (vP_r hP) hK (vD_r hD) hS hA [.int y1, .int y2] (c_X7_would l D cI cJ (a 0) (a 1) (a 2) (a 3) (a 4) (a 5) (a 6) (a 7) (a 8) (a 9) (mm 0) (mm 1) (mm 2) (mm 3) (mm 4) (mm 5) (mm 6) (mm 7) (mm 8) (ar 0) (ar 1) (ar 2) (ar 3) (ar 4) (ar 5) rr (ar 6) (ar 7) y1 y2 ans s' q4 q5 q6 e2 _) (cwV 2 hts (gzV wl610 wl611 wl612 wl5 wl613) rfl rfl rfl ⟨rfl, hdX7_would⟩ ⟨Nat.le_of_ble_eq_true rfl, Nat.le_of_ble_eq_true rfl⟩) rfl rfl [.int ans] rfl hl.1 rfl (Nat.le_of_ble_eq_true rfl) dL_law_582 hCN (fun H locs hP1 hk1 hS => ?_)
  obtain ⟨hP, hD⟩ := kJoinR hP hD hk1 hP1 rfl
  refine lv_icmp_eq (pc := 585) (tgt := 698) hx hb dL_law_585 (by decide) (fun _ => ?_) (fun h => absurd rfl h)
  exact kk H locs ls ⟨o, (nI r), A, v, f, u, ch, xn', xa', xr', a, mm, (gII [s', ar 1, ar 2, ar 3, q4, q5, ar 6, ar 7]), q6, rfl, rfl, ⟨r, Lt, ct, hr4, rfl, m0, m1, u0, m2, hT, relS_eq (fun i _ => hs i) hR, hH⟩, hP, hD, hS⟩ hl
