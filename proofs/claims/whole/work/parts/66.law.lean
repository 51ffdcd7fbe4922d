-- the law's loop and its start (printed by gen66.py)
theorem x20 {x : Int32} (h1 : ¬ x.toInt < 0) (h2 : ¬ 19 < x.toInt) : x.toInt = 0 ∨ x.toInt = 1 ∨ x.toInt = 2 ∨ x.toInt = 3 ∨ x.toInt = 4 ∨ x.toInt = 5 ∨ x.toInt = 6 ∨ x.toInt = 7 ∨ x.toInt = 8 ∨ x.toInt = 9 ∨ x.toInt = 10 ∨ x.toInt = 11 ∨ x.toInt = 12 ∨ x.toInt = 13 ∨ x.toInt = 14 ∨ x.toInt = 15 ∨ x.toInt = 16 ∨ x.toInt = 17 ∨ x.toInt = 18 ∨ x.toInt = 19 := by omega
def R_law : String := "ParticleLinesLaw"
def lw_P (b : Addr) (xs : List Int32) (args : Array Value) (s : State) : Prop := args = #[.ref b] ∧ s.IntsAt b xs ∧ xs.length ≤ 2560 ∧ (Jvm.Cond.and given_1 narrow_1).before args s = true
def lw_Q (_ : Array Value) (s : State) (o : Outcome) (t : State) : Prop := o = .returned (some (.int 1)) ∧ Framed s o t [] 600000 7302250
def lw_Z (below : List Frame) (a : Array Value) (s : State) : State → Prop := fun t => ∃ o, t.status = .running ∧ Ended t below o ∧ lw_Q a s o t
/-- the law's own end, with 1 on the stack, nothing written that was there before, its room as the claim has it -/
theorem lw_ret {p : Program} {l : Launch} {e : Env} {s : State} {m : MethodId} {below : List Frame} {meth : Method} {c : Code} {b : Nat} (hx : p.tables.exec = Jvm.exec) (hb : c.code = code) (hr : meth.sig.returnType = ret) (hlocks : meth.locks = false) {pc : Nat} {H : Heap} {ls : Array Slot} (hdg : decode code pc = .ok (.ireturn, 1)) : W p l e room_1 s m #[Value.ref b] below meth c H [] 600000 7302250 (lw_Z below #[Value.ref b] s) (F0 m pc ls [.int 1]) := by
  intro T hT X
  obtain ⟨fs, hret, hrun, hended, hW, hframe⟩ := X.leave (v := some (.int 1)) (hlocks := hlocks) (fun h => by rw [hr] at h; cases h)
  have hmeth' : T.vm.method? m = some meth := X.method'
  refine ⟨T.setFrames fs, ?_, .returned (some (.int 1)), hrun, hended, rfl, ⟨_, rfl⟩, hW, hframe⟩
  jvm_step X.here [X.here.top, hx, hb, hdg, hmeth', hr, ret, narrow_b1]
  (try refine ⟨rfl, ?_⟩); (try refine ⟨rfl, ?_⟩)
  first | (intro acts; rw [hret _ acts rfl rfl rfl]) | rw [hret _ _ rfl rfl rfl]
  exact Steps.refl _
/-- what holds at the law's entry: the machine, the code, the tables' words (any of lw_tbl by 'hts w (by decide +kernel)'), the script of L ints xs at the cell b, what the Statement gives of the start (any of its parts by flat_of_before) -/
def lw_At (p : Program) (s : State) (m : MethodId) (meth : Method) (c : Code) (b L : Nat) (xs : Nat → Int32) : Prop :=
  p.tables.exec = Jvm.exec ∧ c.code = code ∧ meth.sig.returnType = ret ∧ c.maxLocals = 4 ∧ s.vm.findClass R_law = some m.cls ∧ (∀ w ∈ lw_tbl, w.before #[Value.ref b] s = true) ∧ va_X b L xs s s.heap ∧ b < s.heap.size ∧ meth.locks = false ∧ (Jvm.Cond.and given_1 narrow_1).before #[Value.ref b] s = true
set_option maxHeartbeats 4000000 in
set_option maxRecDepth 100000 in
theorem law_loop {p : Program} {e : Env} {s : State} {m : MethodId} {below : List Frame} {meth : Method} {c : Code} {l : Launch} {b L : Nat} {xs : Nat → Int32} {D : va_G} {cI cJ : ClassId} {b1 b2 : Nat} {C N : Nat} (X : LCtx p m meth c s b L xs D cI cJ) (hlocks : meth.locks = false) (hL : L ≤ 2560) (hCN : C ≤ room_1.cells ∧ N ≤ room_1.slots) : ∀ (n i : Nat), i ≤ L → L < i + n → ∀ (H : Heap) (locs : List Loc) (ls : Array Slot), LInv D cI cJ s b1 b2 H locs → lv_has ls 4 [(0, .ref b), (1, .ref b1), (2, .ref b2), (3, .int (nI i))] → W p l e room_1 s m #[Value.ref b] below meth c H locs C N (lw_Z below #[Value.ref b] s) (F0 m 18 ls []) := by
  intro n
  induction n with
  | zero => intro i h1 h2; omega
  | succ n ih =>
    intro i h1 h2 H locs ls I hl
    obtain ⟨hx, hb, hr, hml, hown, hts, hX, hbl, hK⟩ := id X
    obtain ⟨o, rec, A, v, f, u, ch, xn, xa, xr, a, mm, ar, rr, e1, e2, hY, hP, hD, hS⟩ := id I
    have hbA : ¬ lA s b := Nat.not_le.mpr hbl
    refine lv_iload_n (pc := 18) hx hb dL_law_18 rfl (lv_at hl 3 rfl) ?_
    refine lv_aload_n (pc := 19) hx hb dL_law_19 rfl (lv_at hl 0 rfl) ?_
    refine va_slen (pc := 20) hx hb hX hbl hbA hS dL_law_20 ?_
    refine lv_iconst (v := 5) (pc := 21) hx hb dL_law_21 (by decide) ?_
    refine lv_isub (pc := 22) hx hb dL_law_22 ?_
    have e5 : (Int32.ofNat L - 5).toInt = (L : Int) - 5 := pk_sub_toInt (a := L) (b := 5) (by omega) (by omega)
    have ei : (nI i).toInt = (i : Int) := nI_toInt (by omega)
    refine lv_icmp_gt (pc := 23) (tgt := 704) hx hb dL_law_23 (by decide) (fun cc => ?_) (fun cc => ?_)
    · refine lv_iconst (v := 1) (pc := 704) hx hb dL_law_704 (by decide) ?_
      refine va_forget hS.2.2 ?_
      refine W.widen (k := 600000) (n := 7302250) hCN.1 hCN.2 ?_
      exact lw_ret hx hb hr hlocks dL_law_705
    · have hi : i + 5 ≤ L := by
        have h3 := Int32.le_iff_toInt_le.mp (Int32.not_lt.mp cc)
        rw [e5, ei] at h3
        omega
      have kk : ∀ (H : Heap) (locs : List Loc) (ls : Array Slot), LInv D cI cJ s b1 b2 H locs → lv_has ls 4 [(0, .ref b), (1, .ref b1), (2, .ref b2), (3, .int (nI i))] → W p l e room_1 s m #[Value.ref b] below meth c H locs C N (lw_Z below #[Value.ref b] s) (F0 m 698 ls []) := by
        intro H locs ls I hl
        obtain ⟨x3, ex3⟩ : ∃ y : Int32, y = nI (i + 5) := ⟨_, rfl⟩
        refine lv_iinc (pc := 698) (v := nI (i + 5)) (lv' := [(3, .int (nI (i + 5))), (0, .ref b), (1, .ref b1), (2, .ref b2)]) hx hb dL_law_698 hl (k := 3) rfl (sI_add i 5) (by decide) rfl (fun ls hl => ?_)
        refine lv_goto (pc := 701) (tgt := 18) hx hb dL_law_701 (by decide) ?_
        exact ih (i + 5) hi (by omega) H locs ls I (lv_sub hl [1, 2, 3, 0] rfl)
      have g0 : vp_in (nI i) L := vp_in_nI (by omega) (by omega)
      refine lv_aload_n (pc := 26) hx hb dL_law_26 rfl (lv_at hl 0 rfl) ?_
      refine lv_iload_n (pc := 27) hx hb dL_law_27 rfl (lv_at hl 3 rfl) ?_
      refine va_sld (pc := 28) hx hb hX hbl hbA hS g0 dL_law_28 ?_
      refine lv_bipush (v := 31) (pc := 29) hx hb dL_law_29 (by decide) ?_
      refine lv_iand (pc := 31) hx hb dL_law_31 ?_
      refine lv_topi (fun x ex => ?_)
      clear ex
      by_cases c1 : x.toInt < 0
      · exact lv_tableOut (pc := 32) (tgt := 698) hx hb dL_law_32 (Or.inl c1) (by decide) (kk H locs ls I hl)
      · by_cases c2 : 19 < x.toInt
        · exact lv_tableOut (pc := 32) (tgt := 698) hx hb dL_law_32 (Or.inr c2) (by decide) (kk H locs ls I hl)
        rcases x20 c1 c2 with cc | cc | cc | cc | cc | cc | cc | cc | cc | cc | cc | cc | cc | cc | cc | cc | cc | cc | cc | cc
        · exact lv_tableIn (pc := 32) (tgt := 128) hx hb dL_law_32 (by rw [cc]; decide) (by rw [cc]; decide) (by rw [cc]; rfl) (by decide) (st_begin X hL hi hCN kk I hl)
        · exact lv_tableIn (pc := 32) (tgt := 171) hx hb dL_law_32 (by rw [cc]; decide) (by rw [cc]; decide) (by rw [cc]; rfl) (by decide) (st_weigh X hL hi hCN kk I hl)
        · exact lv_tableIn (pc := 32) (tgt := 204) hx hb dL_law_32 (by rw [cc]; decide) (by rw [cc]; decide) (by rw [cc]; rfl) (by decide) (st_move X hL hi hCN kk I hl)
        · exact lv_tableIn (pc := 32) (tgt := 237) hx hb dL_law_32 (by rw [cc]; decide) (by rw [cc]; decide) (by rw [cc]; rfl) (by decide) (st_observe X hL hi hCN kk I hl)
        · exact lv_tableIn (pc := 32) (tgt := 270) hx hb dL_law_32 (by rw [cc]; decide) (by rw [cc]; decide) (by rw [cc]; rfl) (by decide) (st_resample X hL hi hCN kk I hl)
        · exact lv_tableIn (pc := 32) (tgt := 283) hx hb dL_law_32 (by rw [cc]; decide) (by rw [cc]; decide) (by rw [cc]; rfl) (by decide) (st_set X hL hi hCN kk I hl)
        · exact lv_tableIn (pc := 32) (tgt := 316) hx hb dL_law_32 (by rw [cc]; decide) (by rw [cc]; decide) (by rw [cc]; rfl) (by decide) (st_particleOf X hL hi hCN kk I hl)
        · exact lv_tableIn (pc := 32) (tgt := 349) hx hb dL_law_32 (by rw [cc]; decide) (by rw [cc]; decide) (by rw [cc]; rfl) (by decide) (st_generationOf X hL hi hCN kk I hl)
        · exact lv_tableIn (pc := 32) (tgt := 382) hx hb dL_law_32 (by rw [cc]; decide) (by rw [cc]; decide) (by rw [cc]; rfl) (by decide) (st_ancestor X hL hi hCN kk I hl)
        · exact lv_tableIn (pc := 32) (tgt := 425) hx hb dL_law_32 (by rw [cc]; decide) (by rw [cc]; decide) (by rw [cc]; rfl) (by decide) (st_common X hL hi hCN kk I hl)
        · exact lv_tableIn (pc := 32) (tgt := 458) hx hb dL_law_32 (by rw [cc]; decide) (by rw [cc]; decide) (by rw [cc]; rfl) (by decide) (st_root X hL hi hCN kk I hl)
        · exact lv_tableIn (pc := 32) (tgt := 471) hx hb dL_law_32 (by rw [cc]; decide) (by rw [cc]; decide) (by rw [cc]; rfl) (by decide) (st_mean X hL hi hCN kk I hl)
        · exact lv_tableIn (pc := 32) (tgt := 504) hx hb dL_law_32 (by rw [cc]; decide) (by rw [cc]; decide) (by rw [cc]; rfl) (by decide) (st_share X hL hi hCN kk I hl)
        · exact lv_tableIn (pc := 32) (tgt := 557) hx hb dL_law_32 (by rw [cc]; decide) (by rw [cc]; decide) (by rw [cc]; rfl) (by decide) (st_would X hL hi hCN kk I hl)
        · exact lv_tableIn (pc := 32) (tgt := 590) hx hb dL_law_32 (by rw [cc]; decide) (by rw [cc]; decide) (by rw [cc]; rfl) (by decide) (st_count X hL hi hCN kk I hl)
        · exact lv_tableIn (pc := 32) (tgt := 613) hx hb dL_law_32 (by rw [cc]; decide) (by rw [cc]; decide) (by rw [cc]; rfl) (by decide) (st_undo X hL hi hCN kk I hl)
        · exact lv_tableIn (pc := 32) (tgt := 626) hx hb dL_law_32 (by rw [cc]; decide) (by rw [cc]; decide) (by rw [cc]; rfl) (by decide) (st_type X hL hi hCN kk I hl)
        · exact lv_tableIn (pc := 32) (tgt := 649) hx hb dL_law_32 (by rw [cc]; decide) (by rw [cc]; decide) (by rw [cc]; rfl) (by decide) (st_clearText X hL hi hCN kk I hl)
        · exact lv_tableIn (pc := 32) (tgt := 662) hx hb dL_law_32 (by rw [cc]; decide) (by rw [cc]; decide) (by rw [cc]; rfl) (by decide) (st_fault X hL hi hCN kk I hl)
        · exact lv_tableIn (pc := 32) (tgt := 685) hx hb dL_law_32 (by rw [cc]; decide) (by rw [cc]; decide) (by rw [cc]; rfl) (by decide) (st_play X hL hi hCN kk I hl)
theorem sys_new {v : Nat → Nat → Int32} {f : Nat → Nat → Nat → Int32} {u ch mm : Nat → Int32} {ar : Nat → Nat → Int32} (hn : NewS (v 0) (f 0)) (hu : u 0 = nI 0) (hm : mm 0 = nI 0 ∧ mm 1 = nI 0 ∧ mm 2 = nI 0) (hs : ar 0 0 = nI 4 ∧ ar 0 1 = nI 1 ∧ ar 0 2 = nI 1 ∧ ar 0 3 = nI 0 ∧ ar 0 4 = nI 0 ∧ ar 0 20 = nI 0 ∧ ar 0 5 = nI 3 ∧ ar 0 6 = nI 0 ∧ ar 0 7 = nI 50) (hk : ∀ k, k < 12 → ar 0 (8 + k) = (if k < 4 then nI 1 else nI 0) ∧ ar 0 (100 + k) = -1000004 ∧ ar 0 (340 + k) = nI (if 0 + k * 10 ≤ 99 then 0 + k * 10 else 99)) : Sys (nI 0) v f u ch mm ar := by
  obtain ⟨⟨n0, n1, n2, n3, n4, n5⟩, h0, h2, h6, h70, h71, h72⟩ := hn
  obtain ⟨s0, s1, s2, s3, s4, s20, s5, s6, s7⟩ := hs
  obtain ⟨w', pl', pa', hG, hR⟩ := new_ok (s' := ar 0) (n := 4) (a := 0) (b := 10) (th := 3) (sc := 0) (of := 50) (f2 := f 0 0) (lpaf := f 0 1) (f1 := f 0 2) (ldrf := f 0 3) (lspf := f 0 4) (lscf := f 0 5) (f13 := f 0 6) (sf := f 0 7) (by omega) (by omega) s0 s1 s2 s3 s4 s20 hk (by omega) (by omega) (by omega) s5 s6 s7 (h70.trans s5.symm) (h71.trans s6.symm) (h72.trans s7.symm) h0 h2 h6
  refine ⟨0, 0, fun _ => 0, by omega, rfl, hm.1, hm.2.1, hu, hm.2.2, txt_0, ⟨4, 1, 1, 3, 0, 50, w', pl', pa', hG, ?_⟩, fun j hj => absurd hj (Nat.not_lt_zero j)⟩
  rw [n0, n1, n2, n3, n4, n5]
  exact hR
theorem arr_known {s : State} {args : Array Value} {ty : FieldType} (h : (Cond.arrayClass ty).before args s = true) : ∃ cA, ArrOfT s cA ty ∧ s.vm.findClass ("[" ++ ty.toString) = some cA := by
  obtain ⟨cA, kA, comp, h1, h2, h3⟩ := Cond.arrayClass_spec h
  exact ⟨cA, fun n z => ⟨fun k h => (by cases h), kA, h2, comp, h3⟩, h1⟩
set_option maxHeartbeats 20000000 in
set_option maxRecDepth 100000 in
theorem whole_start {p : Program} {e : Env} {s : State} {m : MethodId} {below : List Frame} {meth : Method} {c : Code} (l : Launch) (hflags : l.flags = flags0) {b L : Nat} {xs : Nat → Int32} (hL : L ≤ 2560) (C0 : lw_At p s m meth c b L xs) : W p l e room_1 s m #[Value.ref b] below meth c s.heap [] 0 0 (lw_Z below #[Value.ref b] s) (entryFrame m ([Value.ref b] : List Value).toArray 4) := by
  obtain ⟨hx, hb, hr, hml, hown, hts, hX, hbl, hlocks, hgv⟩ := id C0
  replace hown : s.vm.findClass RL = some m.cls := hown
  have hA : ∀ q : Nat, s.heap.size ≤ q → lA s q := fun _ h => h
  have hwl : ∀ w ∈ wsL_law, w.before #[Value.ref b] s = true := fun w h => hts w (wsL_law_in w h)
  have hts2 : ∀ w ∈ (Cond.initialized RX6 :: wsL_law), w.before #[Value.ref b] s = true := by
    intro w hw
    rcases List.mem_cons.mp hw with rfl | hw
    · exact hwl _ wl2
    · exact hwl w hw
  obtain ⟨k0, j0, hk0⟩ := u_known (C := RX0) (T := TX0) (N := 3) (n := 3) hts (fun w h => in_wsX00 w h) (hts (.instantiable RX0 3) (wsL_law_in _ wl13))
  obtain ⟨k1, j1, hk1⟩ := u_known (C := RX1) (T := TX1) (N := 8) (n := 8) hts (fun w h => in_wsX10 w h) (hts (.instantiable RX1 8) (wsL_law_in _ wl43))
  obtain ⟨k2, j2, hk2⟩ := u_known (C := RX2) (T := TX2) (N := 1) (n := 1) hts (fun w h => in_wsX20 w h) (hts (.instantiable RX2 1) (wsL_law_in _ wl51))
  obtain ⟨k3, j3, hk3⟩ := u_known (C := RX3) (T := TX3) (N := 10) (n := 10) hts (fun w h => in_wsX30 w h) (hts (.instantiable RX3 10) (wsL_law_in _ wl26))
  obtain ⟨k4, j4, hk4⟩ := u_known (C := RX4) (T := TX4) (N := 7) (n := 7) hts (fun w h => in_wsX40 w h) (hts (.instantiable RX4 7) (wsL_law_in _ wl16))
  obtain ⟨k5, j5, hk5⟩ := u_known (C := RX5) (T := TX5) (N := 2) (n := 2) hts (fun w h => in_wsX50 w h) (hts (.instantiable RX5 2) (wsL_law_in _ wl47))
  obtain ⟨k6, j6, hk6⟩ := u_known (C := RX6) (T := TX6) (N := 8) (n := 8) hts (fun w h => in_wsX60 w h) (hts (.instantiable RX6 8) (wsL_law_in _ wl1))
  obtain ⟨k7, j7, hk7⟩ := u_known (C := RX7) (T := TX7) (N := 18) (n := 18) hts (fun w h => in_wsX70 w h) (hts (.instantiable RX7 18) (wsL_law_in _ wl4))
  obtain ⟨cI, hi1, hi2⟩ := arr_known (hwl _ wl33)
  obtain ⟨cJ, hj1, hj2⟩ := arr_known (hwl _ wl35)
  obtain ⟨D, hDk⟩ : ∃ D : va_G, ∀ (k : Nat) (q : vw_C), vwCl[k]? = some q → u_Kn s q.1 q.2.1 q.2.2 (D.1 k) (D.2 k) := by
    refine ⟨(fun k => match k with | 0 => k0 | 1 => k1 | 2 => k2 | 3 => k3 | 4 => k4 | 5 => k5 | 6 => k6 | _ => k7, fun k => match k with | 0 => j0 | 1 => j1 | 2 => j2 | 3 => j3 | 4 => j4 | 5 => j5 | 6 => j6 | _ => j7), ?_⟩
    intro k q hq
    match k, hq with
    | 0, hq => cases hq; exact hk0
    | 1, hq => cases hq; exact hk1
    | 2, hq => cases hq; exact hk2
    | 3, hq => cases hq; exact hk3
    | 4, hq => cases hq; exact hk4
    | 5, hq => cases hq; exact hk5
    | 6, hq => cases hq; exact hk6
    | 7, hq => cases hq; exact hk7
    | k + 8, hq => simp [vwCl] at hq
  have hK : kK D cI cJ s := by
    refine ⟨⟨hDk, fun k q hq => ?_⟩, ⟨va_Nw.of rfl (hts _ nest_0), va_Nw.of rfl (hts _ nest_1), va_Nw.of rfl (hts _ nest_2), va_Nw.of rfl (hts _ nest_3), va_Nw.of rfl (hts _ nest_4), va_Nw.of rfl (hts _ nest_5), va_Nw.of rfl (hts _ nest_6), va_Nw.of rfl (hts _ nest_7), va_Nw.of rfl (hts _ nest_8)⟩⟩
    match k, hq with
    | 0, hq => cases hq; exact ⟨hi1, hi2⟩
    | 1, hq => cases hq; exact ⟨hj1, hj2⟩
    | k + 2, hq => simp at hq
  have hS : va_S (lA s) s.heap s.heap [] := va_S.rf
  have hP : va_P D vwCl [] s.heap := fun k q h => by simp at h
  have hD : va_D (lA s) [] := ⟨fun i j p q h => by simp at h, fun k q h => by simp at h⟩
  have hl := lv_entry ([.ref b]) (n := 4) (Nat.le_of_ble_eq_true rfl)
  rw [lg_entry_eq]
  generalize (lg_sl ([.ref b]) ++ List.replicate (4 - (lg_sl ([.ref b])).length) Slot.unset).toArray = ls at hl ⊢
  have hl : lv_has ls 4 [(0, .ref b)] := hl
  refine va_new (pc := 0) (ci := 6) (fs := [.null, .null, .null, .null, .null, .null, .int 0, .null]) (C := RX6) (T := TX6) (N := 8) hx hb hts2 (fun w h => List.mem_cons_of_mem _ (inlX6 w h)) tyX6 tyX6_ok hown (hts2 _ (List.mem_cons_of_mem _ wl0)) (hts2 _ (List.mem_cons_of_mem _ wl1)) (hts2 _ (List.mem_cons_of_mem _ wl2)) hK.1 hP hD hS hA rfl (fun j hj => by rcases (show j = 0 ∨ j = 1 ∨ j = 2 ∨ j = 3 ∨ j = 4 ∨ j = 5 ∨ j = 6 ∨ j = 7 by omega) with rfl | rfl | rfl | rfl | rfl | rfl | rfl | rfl <;> rfl) (Nat.le_of_ble_eq_true rfl) (Nat.le_of_ble_eq_true rfl) dL_law_0 (fun zq0 H hP hD hS => ?_)
  replace hP : va_P D vwCl [(zq0, .inr (6, [.null, .null, .null, .null, .null, .null, .int 0, .null]))] H := hP
  replace hD : va_D (lA s) [(zq0, .inr (6, [.null, .null, .null, .null, .null, .null, .int 0, .null]))] := hD
  refine W.widen (k := 1) (n := 8) (by omega) (by omega) ?_
  refine lv_dup (pc := 3) hx hb dL_law_3 rfl ?_
  refine kc_I (pc := 4) (wr := []) ⟨hx, hb, hml, hown, hts2⟩ hP hK hD hS hA [] (c_X6_init l D cI cJ zq0 _) [0] [] rfl rfl rfl rfl (by decide) (cwI 0 hts2 (gzN wl8) rfl rfl rfl (hts2 _ (List.mem_cons_of_mem _ wl2)) (hts2 _ (List.mem_cons_of_mem _ wl6)) (hts2 _ (List.mem_cons_of_mem _ wl7)) rfl (by decide +kernel) ⟨Nat.le_of_ble_eq_true rfl, Nat.le_of_ble_eq_true rfl⟩) [.ref zq0] rfl hl.1 rfl (Nat.le_of_ble_eq_true rfl) dL_law_4 ⟨Nat.le_of_ble_eq_true rfl, Nat.le_of_ble_eq_true rfl⟩ (fun w1 H locs hR hP hD hS => ?_)
  obtain ⟨o, A, v, f, u, ch, xn, xa, xr, rfl, hn, hu, rfl⟩ := hR
  replace hP : va_P D vwCl (plW cI cJ o (nI 0) A v f u ch xn xa xr) H := hP
  replace hD : va_D (lA s) (plW cI cJ o (nI 0) A v f u ch xn xa xr) := hD
  refine W.widen (k := 114) (n := 3699) (by omega) (by omega) ?_
  refine lv_astore_n (pc := 7) (lv' := [(1, .ref (o 0)), (0, .ref b)]) hx hb dL_law_7 rfl hl (by decide) rfl (fun ls hl => ?_)
  refine va_new (pc := 8) (ci := 7) (fs := [.null, .null, .null, .int 0, .int 0, .null, .int 0, .null, .null, .null, .null, .int 0, .int 0, .int 0, .int 0, .int 0, .int 0, .null]) (C := RX7) (T := TX7) (N := 18) hx hb hts2 (fun w h => List.mem_cons_of_mem _ (inlX7 w h)) tyX7 tyX7_ok hown (hts2 _ (List.mem_cons_of_mem _ wl3)) (hts2 _ (List.mem_cons_of_mem _ wl4)) (hts2 _ (List.mem_cons_of_mem _ wl5)) hK.1 hP hD hS hA rfl (fun j hj => by rcases (show j = 0 ∨ j = 1 ∨ j = 2 ∨ j = 3 ∨ j = 4 ∨ j = 5 ∨ j = 6 ∨ j = 7 ∨ j = 8 ∨ j = 9 ∨ j = 10 ∨ j = 11 ∨ j = 12 ∨ j = 13 ∨ j = 14 ∨ j = 15 ∨ j = 16 ∨ j = 17 by omega) with rfl | rfl | rfl | rfl | rfl | rfl | rfl | rfl | rfl | rfl | rfl | rfl | rfl | rfl | rfl | rfl | rfl | rfl <;> rfl) (Nat.le_of_ble_eq_true rfl) (Nat.le_of_ble_eq_true rfl) dL_law_8 (fun zq8 H hP hD hS => ?_)
  refine W.widen (k := 115) (n := 3717) (by omega) (by omega) ?_
  refine lv_dup (pc := 11) hx hb dL_law_11 rfl ?_
  refine kc_I (pc := 12) (wr := plW cI cJ o (nI 0) A v f u ch xn xa xr) ⟨hx, hb, hml, hown, hts2⟩ hP hK hD hS hA [] (c_X7_init l D cI cJ zq8 _) [114] [0, 1, 2, 3, 4, 5, 6, 7, 8, 9, 10, 11, 12, 13, 14, 15, 16, 17, 18, 19, 20, 21, 22, 23, 24, 25, 26, 27, 28, 29, 30, 31, 32, 33, 34, 35, 36, 37, 38, 39, 40, 41, 42, 43, 44, 45, 46, 47, 48, 49, 50, 51, 52, 53, 54, 55, 56, 57, 58, 59, 60, 61, 62, 63, 64, 65, 66, 67, 68, 69, 70, 71, 72, 73, 74, 75, 76, 77, 78, 79, 80, 81, 82, 83, 84, 85, 86, 87, 88, 89, 90, 91, 92, 93, 94, 95, 96, 97, 98, 99, 100, 101, 102, 103, 104, 105, 106, 107, 108, 109, 110, 111, 112, 113] rfl rfl rfl (by decide +kernel) (by decide) (cwI 0 hts2 (gzN wl119) rfl rfl rfl (hts2 _ (List.mem_cons_of_mem _ wl5)) (hts2 _ (List.mem_cons_of_mem _ wl117)) (hts2 _ (List.mem_cons_of_mem _ wl118)) rfl (by decide +kernel) ⟨Nat.le_of_ble_eq_true rfl, Nat.le_of_ble_eq_true rfl⟩) [.ref zq8] rfl hl.1 rfl (Nat.le_of_ble_eq_true rfl) dL_law_12 ⟨Nat.le_of_ble_eq_true rfl, Nat.le_of_ble_eq_true rfl⟩ (fun w1 H locs hR hP hD hS => ?_)
  obtain ⟨a, mm, ar, rr, rfl, hm, hs, hk, rfl⟩ := hR
  refine W.widen (k := 124) (n := 7307) (by omega) (by omega) ?_
  refine lv_astore_n (pc := 15) (lv' := [(2, .ref (a 0)), (1, .ref (o 0)), (0, .ref b)]) hx hb dL_law_15 rfl hl (by decide) rfl (fun ls hl => ?_)
  refine lv_iconst (v := 0) (pc := 16) hx hb dL_law_16 (by decide) ?_
  refine lv_istore_n (pc := 17) (lv' := [(3, .int 0), (2, .ref (a 0)), (1, .ref (o 0)), (0, .ref b)]) hx hb dL_law_17 rfl hl (by decide) rfl (fun ls hl => ?_)
  exact law_loop (C := 124) (N := 7307) ⟨hx, hb, hr, hml, hown, hts2, hX, hbl, hK⟩ hlocks hL ⟨Nat.le_of_ble_eq_true rfl, Nat.le_of_ble_eq_true rfl⟩ (L + 1) 0 (Nat.zero_le L) (by omega) H locs ls ⟨o, nI 0, A, v, f, u, ch, xn, xa, xr, a, mm, ar, rr, rfl, rfl, sys_new hn hu hm hs hk, hP, hD, hS⟩ (lv_sub hl [3, 2, 1, 0] rfl)
set_option maxHeartbeats 4000000 in
theorem lw_walk (l : Launch) (hflags : l.flags = flags0) (b : Addr) (xs : List Int32) : MetFree l x (headSpec (Jvm.Cond.code x code maxLocals ret :: tables_1) room_1) (lw_P b xs) (fun _ _ _ _ _ => True) lw_Q := by
  refine MetFree.of_bodyS (code := code) (maxLocals := maxLocals) (ret := ret) (by decide) ?_ ?_
  · intro args s m h hn
    obtain ⟨meth, c, h1, h2, h3, h4, h5, h6, -, -⟩ := Cond.code_spec hn (atoms_spec (ws := Jvm.Cond.code x code maxLocals ret :: tables_1) h _ List.mem_cons_self)
    exact ⟨meth, c, h1, h2, h3, h4, h5, h6⟩
  · intro p e s m args below meth c s₁ B hml0 hP _
    obtain ⟨rfl, hx, hbd, hgv⟩ := hP
    obtain ⟨scr, harrAt, hlist, hof, hsmall⟩ := hx
    obtain ⟨hcb, hkn, -, -⟩ := State.arrayAt?_spec harrAt
    have hown : s.vm.findClass R_law = some m.cls := findClass_of_methodNamed B.named
    have hts0 : ∀ c ∈ (Jvm.Cond.code x code maxLocals ret :: tables_1), c.before #[Value.ref b] s = true := atoms_spec (ws := Jvm.Cond.code x code maxLocals ret :: tables_1) B.pre
    have hts : ∀ w ∈ lw_tbl, w.before #[Value.ref b] s = true := k2_hts_sels lw_privs (fun w hw => hts0 w (List.mem_cons_of_mem _ hw)) lw_privs_ok
    have hml : c.maxLocals = 4 := B.maxLocals_eq (hts0 _ List.mem_cons_self)
    have X₀ : Stand p l e room_1 s m #[Value.ref b] below meth c s₁ [] 0 0 := Stand.of_body B
    have hh0 : s₁.heap = s.heap := by rw [B.state]; rfl
    have hsz : scr.slots.size = xs.length := by rw [← Array.length_toList, hlist, List.length_map]
    have hval : ∀ j : Nat, j < xs.length → scr.slots[j]? = some (.int (xs.getD j 0)) := fun j hj => by
      rw [← Array.getElem?_toList, hlist]
      simp [hj]
    have hbl : b < s.heap.size := (Array.getElem?_eq_some_iff.mp hcb).1
    have hX : va_X b xs.length (fun j => xs.getD j 0) s s.heap := ⟨scr, hcb, hof, hkn, hsz, hval⟩
    have K : W p l e room_1 s m #[Value.ref b] below meth c s₁.heap [] 0 0 (lw_Z below #[Value.ref b] s) (entryFrame m ([Value.ref b] : List Value).toArray 4) := by
      rw [hh0]
      exact whole_start l hflags hbd ⟨B.exec, B.bytes, B.returns, hml, hown, hts, hX, hbl, B.notSynchronized, hgv⟩
    obtain ⟨t, a1, o, b1, b2, b3⟩ := K s₁ rfl X₀
    exact ⟨t, o, a1, b1, b2, b3⟩
theorem lw_pre_spec {args : Array Value} {s : State} (h : (Jvm.Cond.and given_1 narrow_1).before args s = true) (hr : rest_1_c.before args s = true) : ∃ (b : Addr) (xs : List Int32), lw_P b xs args s := by
  have hs := flat_of_before _ h
  have hq := flat_of_before _ hr
  have hc : (Cond.count 1).before args s = true := hs _ (by decide +kernel)
  have harr : (Cond.arrayOf (.arg 0) .int).before args s = true := hs _ (by decide +kernel)
  have hle : (Cond.le (.length (.arg 0)) (.int 2560)).before args s = true := hs _ (by decide +kernel)
  have hlen : (Cond.isInt (.length (.arg 0))).before args s = true := hq _ (by decide +kernel)
  have hall : (Cond.all (.arg 0) (.isInt (.elem (.arg 0) (.index 0)))).before args s = true := hq _ (by decide +kernel)
  obtain ⟨b, xs, hb, hx⟩ := State.ints_of_pre rfl harr hlen hall
  have hsm : xs.length < 2 ^ 31 := hx.choose_spec.2.2.2
  have hev : (Term.length (.arg 0)).eval args s none [] s = some (.int xs.length.toInt32) := hx.length_eval hb
  have hv := Cond.le_ints hev (show (Term.int 2560).eval args s none [] s = some (.int 2560) from rfl)
  have hd : xs.length.toInt32 ≤ 2560 := by
    simpa [Cond.before, Cond.holds, hv] using hle
  have hN : xs.length ≤ 2560 := (Int32.ofNat_le_ofNat hsm (by decide)).mp (show Int32.ofNat xs.length ≤ Int32.ofNat 2560 from hd)
  exact ⟨b, xs, Cond.one_arg hc (show args[0]? = some (.ref b) from hb), hx, hN, h⟩
theorem lw_comes (l : Launch) (hflags : l.flags = flags0) : Comes l x (Jvm.Cond.code x code maxLocals ret :: tables_1) room_1 (fun tb e args s => Calls_1 tb e args s ∧ rest_1 tb e args s ∧ Pre_1 tb e args s)
    (fun _ _ args s o t => lw_Q args s o t) := by
  intro p e ha hc hk s m args below hf hfit hheap happ hpre
  obtain ⟨b, xs, hP⟩ := lw_pre_spec hpre.2.2 hpre.2.1
  obtain ⟨k, o, h1, h2, h3, hQ⟩ := lw_walk l hflags b xs p e ha hc hk s m args below hf ((Spec.applies_iff_loose hf).mp happ).1 hP trivial
  exact ⟨k, o, h1, h2, h3, hQ⟩
theorem lw_frame {s t : State} {o : Outcome} {args : Array Value} (h : Framed s o t [] 600000 7302250) :
    Framed s o t (fieldLocs frame_1_writes args s ++ arrayLocs frame_1_arrays args s ++ staticLocs frame_1_statics s) 600000 7302250 := h
theorem lw_limb (L : Cond) (hL : ∀ (args : Array Value) (s t : State), L.after args s (.returned (some (.int 1))) t = true) :
    ArmFor flags0 classFile x code maxLocals ret World_1 tables_1 room_1 Calls_1 rest_1 Pre_1
      (fun tb e a s o t => postC L tb e a s o t ∧ Framed s o t (fieldLocs frame_1_writes a s ++ arrayLocs frame_1_arrays a s ++ staticLocs frame_1_statics s) 600000 7302250) := by
  intro l hflags _ _ p e ha hc hk s m args below hf hfit hheap happ hpre
  obtain ⟨k, o, h1, h2, h3, rfl, hF⟩ := lw_comes l hflags p e ha hc hk s m args below hf hfit hheap happ hpre
  exact ⟨k, _, h1, h2, h3, hL args s _, lw_frame hF⟩
theorem i_vc : Claimed_1_1 ∧ Claimed_1_2 := ⟨lw_limb limb_1_1 (fun args s t => by simp [limb_1_1, Cond.after, Cond.holds, Cond.value]), lw_limb limb_1_2 (fun args s t => Cond.after_iff.mpr (by
  first | (rw [show limb_1_2 = Cond.eq .result (.int 1) from rfl, Cond.eq_ints (x := 1) (y := 1) rfl rfl]; simp; done) | (simp [limb_1_2, Cond.value, Term.eval]; done)))⟩
