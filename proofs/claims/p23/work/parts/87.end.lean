-- the law's loops and its start (printed by gen87.py)
def R_law : String := "ParticleLinesLaw"
def lw_P (b : Addr) (xs : List Int32) (args : Array Value) (s : State) : Prop := args = #[.ref b] ∧ s.IntsAt b xs ∧ xs.length ≤ 260 ∧ (Jvm.Cond.and given_1 narrow_1).before args s = true
def lw_Q (_ : Array Value) (s : State) (o : Outcome) (t : State) : Prop := o = .returned (some (.int 1)) ∧ Framed s o t [] 600000 7302250
def lw_Z (below : List Frame) (a : Array Value) (s : State) : State → Prop := fun t => ∃ o, t.status = .running ∧ Ended t below o ∧ lw_Q a s o t
/-- the law's own end, with 1 on the stack, nothing written that was there before, its room as the claim has it -/
theorem lw_ret {p : Program} {l : Launch} {e : Env} {s : State} {m : MethodId} {below : List Frame} {meth : Method} {c : Code} {b : Nat} (hx : p.tables.exec = Jvm.exec) (hb : c.code = code) (hr : meth.sig.returnType = ret) (hlocks : meth.locks = false) {pc : Nat} {H : Heap} {ls : Array Slot} (hdg : decode code pc = .ok (.ireturn, 1)) : W p l e room_1 s m #[Value.ref b] below meth c H [] 600000 7302250 (lw_Z below #[Value.ref b] s) (F0 m pc ls [.int 1]) := by
  intro T hT X
  obtain ⟨fs, hret, hrun, hended, hW, hframe⟩ := X.leave (v := some (.int 1)) (hlocks := hlocks) (fun h => by rw [hr] at h; cases h)
  have hmeth' : T.vm.method? m = some meth := X.method'
  refine ⟨T.setFrames fs, ?_, .returned (some (.int 1)), hrun, hended, rfl, ⟨_, rfl⟩, hW, hframe⟩
  jvm_step X.here [X.here.top, hx, hb, hdg, hmeth', hr, ret, narrow_b1]
  (try refine ⟨rfl, ?_⟩); (try refine ⟨rfl, ?_⟩)
  first | (intro acts; rw [hret _ acts rfl rfl rfl]) | rw [hret _ _ rfl rfl rfl]
  exact Steps.refl _
/-- what holds at the law's entry: the machine, the code, the tables' words (any of lw_tbl by 'hts w (by decide +kernel)'), the script of L ints xs at the cell b, what the Statement gives of the start (any of its parts by flat_of_before) -/
def lw_At (p : Program) (s : State) (m : MethodId) (meth : Method) (c : Code) (b L : Nat) (xs : Nat → Int32) : Prop :=
  p.tables.exec = Jvm.exec ∧ c.code = code ∧ meth.sig.returnType = ret ∧ c.maxLocals = 9 ∧ s.vm.findClass R_law = some m.cls ∧ (∀ w ∈ lw_tbl, w.before #[Value.ref b] s = true) ∧ va_X b L xs s s.heap ∧ b < s.heap.size ∧ meth.locks = false ∧ (Jvm.Cond.and given_1 narrow_1).before #[Value.ref b] s = true
set_option maxHeartbeats 20000000 in
set_option maxRecDepth 100000 in
theorem law_end {p : Program} {e : Env} {s : State} {m : MethodId} {below : List Frame} {meth : Method} {c : Code} {l : Launch} {b L : Nat} {xs : Nat → Int32} {D : va_G} {cI cJ : ClassId} {bo bg bw bq bc : Nat} {C N : Nat} {H : Heap} {locs : List Loc} {ls : Array Slot} {x7 x8 : Int32} (X : LCtx p m meth c s b L xs D cI cJ) (hlocks : meth.locks = false) (hf : C ≤ room_1.cells ∧ N ≤ room_1.slots) (I : LInv D cI cJ s bo bg bw bq bc H locs) (hl : lv_has ls 9 [(0, .ref b), (1, .ref bo), (2, .ref bg), (3, .ref bw), (4, .ref bq), (5, .ref bc), (6, .int 1), (7, .int x7), (8, .int x8)]) : W p l e room_1 s m #[Value.ref b] below meth c H locs C N (lw_Z below #[Value.ref b] s) (F0 m 214 ls []) := by
  obtain ⟨hx, hb, hr, hml, hown, hts, hX, hbl, hK⟩ := id X
  refine lv_iload (pc := 214) hx hb dL_law_214 (lv_at hl 6 rfl) ?_
  refine lv_if_eq (pc := 216) (tgt := 257) hx hb dL_law_216 (by decide) (fun h => absurd h (by decide)) (fun _ => ?_)
  refine lv_aload_n (pc := 219) hx hb dL_law_219 rfl (lv_at hl 1 rfl) ?_
  refine lv_bipush (v := 11) (pc := 220) hx hb dL_law_220 (by decide) ?_
  refine st_count (j := 11) (Or.inl rfl) X I dL_law_222 hl.1 hf ?_
  refine lv_ldc (pc := 225) hx hb hown (hts _ (List.mem_cons_of_mem _ wl6)) dL_law_225 ?_
  refine lv_icmp_ne (pc := 227) (tgt := 257) hx hb dL_law_227 (by decide) (fun h => absurd rfl h) (fun _ => ?_)
  refine lv_aload_n (pc := 230) hx hb dL_law_230 rfl (lv_at hl 1 rfl) ?_
  refine lv_bipush (v := 23) (pc := 231) hx hb dL_law_231 (by decide) ?_
  refine st_count (j := 23) (Or.inr rfl) X I dL_law_233 hl.1 hf ?_
  refine lv_ldc (pc := 236) hx hb hown (hts _ (List.mem_cons_of_mem _ wl6)) dL_law_236 ?_
  refine lv_icmp_ne (pc := 238) (tgt := 257) hx hb dL_law_238 (by decide) (fun h => absurd rfl h) (fun _ => ?_)
  refine lv_aload_n (pc := 241) hx hb dL_law_241 rfl (lv_at hl 1 rfl) ?_
  refine lv_iconst (v := 0) (pc := 242) hx hb dL_law_242 (by decide) ?_
  refine lv_bipush (v := 6) (pc := 243) hx hb dL_law_243 (by decide) ?_
  refine st_gen6 X I dL_law_245 hl.1 hf ?_
  refine lv_ldc (pc := 248) hx hb hown (hts _ (List.mem_cons_of_mem _ wl6)) dL_law_248 ?_
  refine lv_icmp_ne (pc := 250) (tgt := 257) hx hb dL_law_250 (by decide) (fun h => absurd rfl h) (fun _ => ?_)
  refine lv_iconst (v := 1) (pc := 253) hx hb dL_law_253 (by decide) ?_
  refine lv_goto (pc := 254) (tgt := 258) hx hb dL_law_254 (by decide) ?_
  obtain ⟨N1, G1, z1, th1, sc1, of1, wn, pl, pa, g, w, q, cc, t, -, -, -, -, hS⟩ := I
  refine va_forget hS.2.2 ?_
  refine W.widen (k := 600000) (n := 7302250) hf.1 hf.2 ?_
  exact lw_ret hx hb hr hlocks dL_law_258
set_option maxHeartbeats 20000000 in
set_option maxRecDepth 100000 in
theorem law_loop2 {p : Program} {e : Env} {s : State} {m : MethodId} {below : List Frame} {meth : Method} {c : Code} {l : Launch} {b L : Nat} {xs : Nat → Int32} {D : va_G} {cI cJ : ClassId} {bo bg bw bq bc : Nat} {y : Nat} (hy : y < 58) (hL260 : L ≤ 260) (X : LCtx p m meth c s b L xs D cI cJ) (hlocks : meth.locks = false) : ∀ (n j : Nat), j ≤ y → y < j + n → ∀ (H : Heap) (locs : List Loc) (ls : Array Slot), LInv D cI cJ s bo bg bw bq bc H locs → lv_has ls 9 [(0, .ref b), (1, .ref bo), (2, .ref bg), (3, .ref bw), (4, .ref bq), (5, .ref bc), (6, .int 1), (7, .int (nI y)), (8, .int (nI j))] → W p l e room_1 s m #[Value.ref b] below meth c H locs (124 + 2 * j) (3911 + 24 * j) (lw_Z below #[Value.ref b] s) (F0 m 148 ls []) := by
  intro n
  induction n with
  | zero =>
    intro j hj hj2 H locs ls I hl
    omega
  | succ n ih =>
    intro j hj hj2 H locs ls I hl
    obtain ⟨hx, hb, hr, hml, hown, hts, hX, hbl, hK⟩ := id X
    refine lv_iload (pc := 148) hx hb dL_law_148 (lv_at hl 8 rfl) ?_
    refine lv_iload (pc := 150) hx hb dL_law_150 (lv_at hl 7 rfl) ?_
    refine lv_icmp_ge (pc := 152) (tgt := 214) hx hb dL_law_152 (by decide) (fun cc => ?_) (fun cc => ?_)
    · exact law_end X hlocks ⟨by show _ ≤ 600000; omega, by show _ ≤ 7302250; omega⟩ I hl
    rw [sI_le (by omega) (by omega)] at cc
    refine lv_iload (pc := 155) hx hb dL_law_155 (lv_at hl 6 rfl) ?_
    refine lv_if_eq (pc := 157) (tgt := 214) hx hb dL_law_157 (by decide) (fun h => absurd h (by decide)) (fun _ => ?_)
    refine lv_aload_n (pc := 160) hx hb dL_law_160 rfl (lv_at hl 1 rfl) ?_
    refine lv_aload_n (pc := 161) hx hb dL_law_161 rfl (lv_at hl 2 rfl) ?_
    refine lv_aload_n (pc := 162) hx hb dL_law_162 rfl (lv_at hl 3 rfl) ?_
    refine lv_aload (pc := 163) hx hb dL_law_163 (lv_at hl 4 rfl) ?_
    refine lv_aload (pc := 165) hx hb dL_law_165 (lv_at hl 5 rfl) ?_
    refine lv_aload_n (pc := 167) hx hb dL_law_167 rfl (lv_at hl 0 rfl) ?_
    refine lv_iconst (v := 4) (pc := 168) hx hb dL_law_168 (by decide) ?_
    refine lv_iload (pc := 169) hx hb dL_law_169 (lv_at hl 8 rfl) ?_
    refine lv_iadd (pc := 171) hx hb dL_law_171 ?_
    have e4 : (4 : Int32) + nI j = nI (4 + j) := sI_add 4 j
    rw [e4]
    refine st_cell (4 + j) (by omega) hL260 [.ref bc, .ref bq, .ref bw, .ref bg, .ref bo] (Nat.le_of_ble_eq_true rfl) X I dL_law_172 hl.1 ⟨by show _ ≤ 600000; omega, by show _ ≤ 7302250; omega⟩ ?_
    refine lv_sipush (v := 7919) (pc := 175) hx hb dL_law_175 (by decide) ?_
    refine lv_iload (pc := 178) hx hb dL_law_178 (lv_at hl 8 rfl) ?_
    refine lv_imul (pc := 180) hx hb dL_law_180 ?_
    refine lv_ixor (pc := 181) hx hb dL_law_181 ?_
    refine st_acts _ X I dL_law_182 hl.1 ⟨by show _ ≤ 600000; omega, by show _ ≤ 7302250; omega⟩ (fun H locs I => ?_)
    refine W.widen (k := 124 + 2 * (j + 1)) (n := 3911 + 24 * (j + 1)) (by omega) (by omega) ?_
    refine lv_if_eq (pc := 185) (tgt := 205) hx hb dL_law_185 (by decide) (fun h => absurd h (by decide)) (fun _ => ?_)
    refine lv_aload_n (pc := 188) hx hb dL_law_188 rfl (lv_at hl 1 rfl) ?_
    refine lv_aload_n (pc := 189) hx hb dL_law_189 rfl (lv_at hl 2 rfl) ?_
    refine lv_aload_n (pc := 190) hx hb dL_law_190 rfl (lv_at hl 3 rfl) ?_
    refine lv_aload (pc := 191) hx hb dL_law_191 (lv_at hl 4 rfl) ?_
    refine lv_aload (pc := 193) hx hb dL_law_193 (lv_at hl 5 rfl) ?_
    refine st_isSo X I dL_law_195 hl.1 ⟨by show _ ≤ 600000; omega, by show _ ≤ 7302250; omega⟩ ?_
    refine lv_if_eq (pc := 198) (tgt := 205) hx hb dL_law_198 (by decide) (fun h => absurd h (by decide)) (fun _ => ?_)
    refine lv_iconst (v := 1) (pc := 201) hx hb dL_law_201 (by decide) ?_
    refine lv_goto (pc := 202) (tgt := 206) hx hb dL_law_202 (by decide) ?_
    refine lv_istore (lv' := [(6, .int 1), (0, .ref b), (1, .ref bo), (2, .ref bg), (3, .ref bw), (4, .ref bq), (5, .ref bc), (7, .int (nI y)), (8, .int (nI j))]) (pc := 206) hx hb dL_law_206 hl (by decide) rfl (fun ls hl => ?_)
    refine lv_iinc (pc := 208) (v := nI (j + 1)) (lv' := [(8, .int (nI (j + 1))), (6, .int 1), (0, .ref b), (1, .ref bo), (2, .ref bg), (3, .ref bw), (4, .ref bq), (5, .ref bc), (7, .int (nI y))]) hx hb dL_law_208 hl (k := 8) rfl (sI_add j 1) (by decide) rfl (fun ls hl => ?_)
    refine lv_goto (pc := 211) (tgt := 148) hx hb dL_law_211 (by decide) ?_
    exact ih (j + 1) (by omega) (by omega) H locs ls I (lv_sub hl [2, 3, 4, 5, 6, 7, 1, 8, 0] rfl)
set_option maxHeartbeats 20000000 in
set_option maxRecDepth 100000 in
theorem law_mid {p : Program} {e : Env} {s : State} {m : MethodId} {below : List Frame} {meth : Method} {c : Code} {l : Launch} {b L : Nat} {xs : Nat → Int32} {D : va_G} {cI cJ : ClassId} {bo bg bw bq bc : Nat} {H : Heap} {locs : List Loc} {ls : Array Slot} {x7 : Int32} (hL260 : L ≤ 260) (X : LCtx p m meth c s b L xs D cI cJ) (hlocks : meth.locks = false) (I : LInv D cI cJ s bo bg bw bq bc H locs) (hl : lv_has ls 9 [(0, .ref b), (1, .ref bo), (2, .ref bg), (3, .ref bw), (4, .ref bq), (5, .ref bc), (6, .int 1), (7, .int x7)]) : W p l e room_1 s m #[Value.ref b] below meth c H locs 124 3911 (lw_Z below #[Value.ref b] s) (F0 m 130 ls []) := by
  obtain ⟨hx, hb, hr, hml, hown, hts, hX, hbl, hK⟩ := id X
  refine lv_bipush (v := 12) (pc := 130) hx hb dL_law_130 (by decide) ?_
  refine lv_aload_n (pc := 132) hx hb dL_law_132 rfl (lv_at hl 0 rfl) ?_
  refine lv_iconst (v := 0) (pc := 133) hx hb dL_law_133 (by decide) ?_
  refine st_cell 0 (by omega) hL260 [.int 12] (Nat.le_of_ble_eq_true rfl) X I dL_law_134 hl.1 ⟨by show _ ≤ 600000; omega, by show _ ≤ 7302250; omega⟩ ?_
  refine lv_bipush (v := 46) (pc := 137) hx hb dL_law_137 (by decide) ?_
  obtain ⟨y, hy, ey⟩ := l_low (cellV L xs 0) (m := 46) (by omega) (by omega)
  have I2 := I
  obtain ⟨N1, G1, z1, th1, sc1, of1, wn, pl, pa, g, w, q, cc, t, -, -, hP, -, -⟩ := I2
  refine kc_Si (pc := 139) ⟨hx, hb, hml, hown, hts⟩ hP hK [.int (cellV L xs 0), .int 46] (c_L_low l D cI cJ (cellV L xs 0) 46 (nI y) ey) [] rfl (cwS 2 hts (gzS wl292 wl293 wl118 wl294) rfl rfl rfl ⟨rfl, hdL_low⟩ ⟨Nat.le_of_ble_eq_true rfl, Nat.le_of_ble_eq_true rfl⟩) [.int 12] rfl hl.1 rfl (Nat.le_of_ble_eq_true rfl) dL_law_139 ⟨by show _ ≤ 600000; omega, by show _ ≤ 7302250; omega⟩ ?_
  refine lv_iadd (pc := 142) hx hb dL_law_142 ?_
  have e12 : (12 : Int32) + nI y = nI (12 + y) := sI_add 12 y
  rw [e12]
  refine lv_istore (lv' := [(7, .int (nI (12 + y))), (0, .ref b), (1, .ref bo), (2, .ref bg), (3, .ref bw), (4, .ref bq), (5, .ref bc), (6, .int 1)]) (pc := 143) hx hb dL_law_143 hl (by decide) rfl (fun ls hl => ?_)
  refine lv_iconst (v := 0) (pc := 145) hx hb dL_law_145 (by decide) ?_
  refine lv_istore (lv' := [(8, .int (0 : Int32)), (7, .int (nI (12 + y))), (0, .ref b), (1, .ref bo), (2, .ref bg), (3, .ref bw), (4, .ref bq), (5, .ref bc), (6, .int 1)]) (pc := 146) hx hb dL_law_146 hl (by decide) rfl (fun ls hl => ?_)
  exact law_loop2 (y := 12 + y) (by omega) hL260 X hlocks (12 + y + 1) 0 (Nat.zero_le _) (by omega) H locs ls I (lv_sub hl [2, 3, 4, 5, 6, 7, 8, 1, 0] rfl)
set_option maxHeartbeats 20000000 in
set_option maxRecDepth 100000 in
theorem law_loop1 {p : Program} {e : Env} {s : State} {m : MethodId} {below : List Frame} {meth : Method} {c : Code} {l : Launch} {b L : Nat} {xs : Nat → Int32} {D : va_G} {cI cJ : ClassId} {bo bg bw bq bc : Nat} (hL260 : L ≤ 260) (X : LCtx p m meth c s b L xs D cI cJ) (hlocks : meth.locks = false) : ∀ (n j : Nat), j ≤ 3 → 3 < j + n → ∀ (H : Heap) (locs : List Loc) (ls : Array Slot), LInv D cI cJ s bo bg bw bq bc H locs → lv_has ls 9 [(0, .ref b), (1, .ref bo), (2, .ref bg), (3, .ref bw), (4, .ref bq), (5, .ref bc), (6, .int 1), (7, .int (nI j))] → W p l e room_1 s m #[Value.ref b] below meth c H locs (118 + 2 * j) (3839 + 24 * j) (lw_Z below #[Value.ref b] s) (F0 m 68 ls []) := by
  intro n
  induction n with
  | zero =>
    intro j hj3 hj H locs ls I hl
    omega
  | succ n ih =>
    intro j hj3 hj H locs ls I hl
    obtain ⟨hx, hb, hr, hml, hown, hts, hX, hbl, hK⟩ := id X
    refine lv_iload (pc := 68) hx hb dL_law_68 (lv_at hl 7 rfl) ?_
    refine lv_iconst (v := 3) (pc := 70) hx hb dL_law_70 (by decide) ?_
    refine lv_icmp_ge (pc := 71) (tgt := 130) hx hb dL_law_71 (by decide) (fun cc => ?_) (fun cc => ?_)
    · rw [li_3, sI_le (by omega) (by omega)] at cc
      have : j = 3 := by omega
      subst this
      exact law_mid hL260 X hlocks I hl
    rw [li_3, sI_le (by omega) (by omega)] at cc
    refine lv_iload (pc := 74) hx hb dL_law_74 (lv_at hl 6 rfl) ?_
    refine lv_if_eq (pc := 76) (tgt := 130) hx hb dL_law_76 (by decide) (fun h => absurd h (by decide)) (fun _ => ?_)
    refine lv_aload_n (pc := 79) hx hb dL_law_79 rfl (lv_at hl 1 rfl) ?_
    refine lv_aload_n (pc := 80) hx hb dL_law_80 rfl (lv_at hl 2 rfl) ?_
    refine lv_aload_n (pc := 81) hx hb dL_law_81 rfl (lv_at hl 3 rfl) ?_
    refine lv_aload (pc := 82) hx hb dL_law_82 (lv_at hl 4 rfl) ?_
    refine lv_aload (pc := 84) hx hb dL_law_84 (lv_at hl 5 rfl) ?_
    refine lv_aload_n (pc := 86) hx hb dL_law_86 rfl (lv_at hl 0 rfl) ?_
    refine lv_iconst (v := 1) (pc := 87) hx hb dL_law_87 (by decide) ?_
    refine lv_iload (pc := 88) hx hb dL_law_88 (lv_at hl 7 rfl) ?_
    refine lv_iadd (pc := 90) hx hb dL_law_90 ?_
    have e1 : (1 : Int32) + nI j = nI (1 + j) := sI_add 1 j
    rw [e1]
    refine st_cell (1 + j) (by omega) hL260 [.ref bc, .ref bq, .ref bw, .ref bg, .ref bo] (Nat.le_of_ble_eq_true rfl) X I dL_law_91 hl.1 ⟨by show _ ≤ 600000; omega, by show _ ≤ 7302250; omega⟩ ?_
    refine lv_ldc (pc := 94) hx hb hown (hts _ (List.mem_cons_of_mem _ wl5)) dL_law_94 ?_
    refine lv_iand (pc := 96) hx hb dL_law_96 ?_
    refine lv_sipush (v := 2112) (pc := 97) hx hb dL_law_97 (by decide) ?_
    refine lv_idiv (pc := 100) hx hb dL_law_100 (by decide) ?_
    refine lv_sipush (v := 2112) (pc := 101) hx hb dL_law_101 (by decide) ?_
    refine lv_imul (pc := 104) hx hb dL_law_104 ?_
    refine lv_topi (fun x ex => ?_)
    clear ex
    have at118 : ∀ y : Int32, W p l e room_1 s m #[Value.ref b] below meth c H locs (118 + 2 * j) (3839 + 24 * j) (lw_Z below #[Value.ref b] s) (F0 m 118 ls [.int y, .int x, .ref bc, .ref bq, .ref bw, .ref bg, .ref bo]) := by
      intro y
      refine lv_iadd (pc := 118) hx hb dL_law_118 ?_
      refine st_acts _ X I dL_law_119 hl.1 ⟨by show _ ≤ 600000; omega, by show _ ≤ 7302250; omega⟩ (fun H locs I => ?_)
      refine W.widen (k := 118 + 2 * (j + 1)) (n := 3839 + 24 * (j + 1)) (by omega) (by omega) ?_
      refine lv_istore (lv' := [(6, .int 1), (0, .ref b), (1, .ref bo), (2, .ref bg), (3, .ref bw), (4, .ref bq), (5, .ref bc), (7, .int (nI j))]) (pc := 122) hx hb dL_law_122 hl (by decide) rfl (fun ls hl => ?_)
      refine lv_iinc (pc := 124) (v := nI (j + 1)) (lv' := [(7, .int (nI (j + 1))), (6, .int 1), (0, .ref b), (1, .ref bo), (2, .ref bg), (3, .ref bw), (4, .ref bq), (5, .ref bc)]) hx hb dL_law_124 hl (k := 7) rfl (sI_add j 1) (by decide) rfl (fun ls hl => ?_)
      refine lv_goto (pc := 127) (tgt := 68) hx hb dL_law_127 (by decide) ?_
      exact ih (j + 1) (by omega) (by omega) H locs ls I (lv_sub hl [2, 3, 4, 5, 6, 7, 1, 0] rfl)
    refine lv_iload (pc := 105) hx hb dL_law_105 (lv_at hl 7 rfl) ?_
    refine lv_if_ne (pc := 107) (tgt := 114) hx hb dL_law_107 (by decide) (fun cc => ?_) (fun cc => ?_)
    · refine lv_iload (pc := 114) hx hb dL_law_114 (lv_at hl 7 rfl) ?_
      refine lv_iconst (v := 3) (pc := 116) hx hb dL_law_116 (by decide) ?_
      refine lv_iadd (pc := 117) hx hb dL_law_117 ?_
      exact at118 _
    refine lv_iconst (v := 0) (pc := 110) hx hb dL_law_110 (by decide) ?_
    refine lv_goto (pc := 111) (tgt := 118) hx hb dL_law_111 (by decide) ?_
    exact at118 _
theorem arr_known {s : State} {args : Array Value} {ty : FieldType} (h : (Cond.arrayClass ty).before args s = true) : ∃ cA, ArrOfT s cA ty ∧ s.vm.findClass ("[" ++ ty.toString) = some cA := by
  obtain ⟨cA, kA, comp, h1, h2, h3⟩ := Cond.arrayClass_spec h
  exact ⟨cA, fun n z => ⟨fun k h => (by cases h), kA, h2, comp, h3⟩, h1⟩
set_option maxHeartbeats 20000000 in
set_option maxRecDepth 100000 in
theorem whole_start {p : Program} {e : Env} {s : State} {m : MethodId} {below : List Frame} {meth : Method} {c : Code} (l : Launch) (hflags : l.flags = flags0) {b L : Nat} {xs : Nat → Int32} (hL : L ≤ 260) (C0 : lw_At p s m meth c b L xs) : W p l e room_1 s m #[Value.ref b] below meth c s.heap [] 0 0 (lw_Z below #[Value.ref b] s) (entryFrame m ([Value.ref b] : List Value).toArray 9) := by
  obtain ⟨hx, hb, hr, hml, hown, hts0, hX, hbl, hlocks, hgv⟩ := id C0
  replace hown : s.vm.findClass RL = some m.cls := hown
  have hA : ∀ q : Nat, s.heap.size ≤ q → lA s q := fun _ h => h
  have hwl : ∀ w ∈ wsL_law, w.before #[Value.ref b] s = true := fun w h => hts0 w (wsL_law_in w h)
  have hts : ∀ w ∈ (Cond.initialized RX6 :: wsL_law), w.before #[Value.ref b] s = true := by
    intro w hw
    rcases List.mem_cons.mp hw with rfl | hw
    · exact hwl _ wl2
    · exact hwl w hw
  obtain ⟨k0, j0, hk0⟩ := u_known (C := RX0) (T := TX0) (N := 3) (n := 3) hts0 (fun w h => in_wsX00 w h) (hts0 (.instantiable RX0 3) (wsL_law_in _ wl14))
  obtain ⟨k1, j1, hk1⟩ := u_known (C := RX1) (T := TX1) (N := 8) (n := 8) hts0 (fun w h => in_wsX10 w h) (hts0 (.instantiable RX1 8) (wsL_law_in _ wl42))
  obtain ⟨k2, j2, hk2⟩ := u_known (C := RX2) (T := TX2) (N := 1) (n := 1) hts0 (fun w h => in_wsX20 w h) (hts0 (.instantiable RX2 1) (wsL_law_in _ wl50))
  obtain ⟨k3, j3, hk3⟩ := u_known (C := RX3) (T := TX3) (N := 10) (n := 10) hts0 (fun w h => in_wsX30 w h) (hts0 (.instantiable RX3 10) (wsL_law_in _ wl27))
  obtain ⟨k4, j4, hk4⟩ := u_known (C := RX4) (T := TX4) (N := 7) (n := 7) hts0 (fun w h => in_wsX40 w h) (hts0 (.instantiable RX4 7) (wsL_law_in _ wl17))
  obtain ⟨k5, j5, hk5⟩ := u_known (C := RX5) (T := TX5) (N := 2) (n := 2) hts0 (fun w h => in_wsX50 w h) (hts0 (.instantiable RX5 2) (wsL_law_in _ wl46))
  obtain ⟨k6, j6, hk6⟩ := u_known (C := RX6) (T := TX6) (N := 8) (n := 8) hts0 (fun w h => in_wsX60 w h) (hts0 (.instantiable RX6 8) (wsL_law_in _ wl1))
  obtain ⟨cI, hi1, hi2⟩ := arr_known (hwl _ wl3)
  obtain ⟨cJ, hj1, hj2⟩ := arr_known (hwl _ wl4)
  obtain ⟨D, hDk⟩ : ∃ D : va_G, ∀ (k : Nat) (q : vw_C), vwCl[k]? = some q → u_Kn s q.1 q.2.1 q.2.2 (D.1 k) (D.2 k) := by
    refine ⟨(fun k => match k with | 0 => k0 | 1 => k1 | 2 => k2 | 3 => k3 | 4 => k4 | 5 => k5 | _ => k6, fun k => match k with | 0 => j0 | 1 => j1 | 2 => j2 | 3 => j3 | 4 => j4 | 5 => j5 | _ => j6), ?_⟩
    intro k q hq
    match k, hq with
    | 0, hq => cases hq; exact hk0
    | 1, hq => cases hq; exact hk1
    | 2, hq => cases hq; exact hk2
    | 3, hq => cases hq; exact hk3
    | 4, hq => cases hq; exact hk4
    | 5, hq => cases hq; exact hk5
    | 6, hq => cases hq; exact hk6
    | k + 7, hq => simp [vwCl] at hq
  have hK : kK D cI cJ s := by
    refine ⟨⟨hDk, fun k q hq => ?_⟩, ⟨va_Nw.of rfl (hts0 _ nest_0), va_Nw.of rfl (hts0 _ nest_1), va_Nw.of rfl (hts0 _ nest_2), va_Nw.of rfl (hts0 _ nest_3), va_Nw.of rfl (hts0 _ nest_4), va_Nw.of rfl (hts0 _ nest_5), va_Nw.of rfl (hts0 _ nest_6), va_Nw.of rfl (hts0 _ nest_7)⟩⟩
    match k, hq with
    | 0, hq => cases hq; exact ⟨hi1, hi2⟩
    | 1, hq => cases hq; exact ⟨hj1, hj2⟩
    | k + 2, hq => simp at hq
  have hS : va_S (lA s) s.heap s.heap [] := va_S.rf
  have hP : va_P D vwCl [] s.heap := fun k q h => by simp at h
  have hD : va_D (lA s) [] := ⟨fun i j p q h => by simp at h, fun k q h => by simp at h⟩
  have hl := lv_entry ([.ref b]) (n := 9) (Nat.le_of_ble_eq_true rfl)
  rw [lg_entry_eq]
  generalize (lg_sl ([.ref b]) ++ List.replicate (9 - (lg_sl ([.ref b])).length) Slot.unset).toArray = ls at hl ⊢
  have hl : lv_has ls 9 [(0, .ref b)] := hl
  refine va_new (pc := 0) (ci := 6) (fs := [.null, .null, .null, .null, .null, .null, .int 0, .null]) (C := RX6) (T := TX6) (N := 8) hx hb hts (fun w h => List.mem_cons_of_mem _ (inlX6 w h)) tyX6 tyX6_ok hown (hts _ (List.mem_cons_of_mem _ wl0)) (hts _ (List.mem_cons_of_mem _ wl1)) (hts _ (List.mem_cons_of_mem _ wl2)) hK.1 hP hD hS hA rfl (fun j hj => by rcases (show j = 0 ∨ j = 1 ∨ j = 2 ∨ j = 3 ∨ j = 4 ∨ j = 5 ∨ j = 6 ∨ j = 7 by omega) with rfl | rfl | rfl | rfl | rfl | rfl | rfl | rfl <;> rfl) (Nat.le_of_ble_eq_true rfl) (Nat.le_of_ble_eq_true rfl) dL_law_0 (fun zq0 H hP hD hS => ?_)
  replace hP : va_P D vwCl [(zq0, .inr (6, [.null, .null, .null, .null, .null, .null, .int 0, .null]))] H := hP
  replace hD : va_D (lA s) [(zq0, .inr (6, [.null, .null, .null, .null, .null, .null, .int 0, .null]))] := hD
  refine W.widen (k := 1) (n := 8) (by omega) (by omega) ?_
  refine lv_dup (pc := 3) hx hb dL_law_3 rfl ?_
  refine kc_I (pc := 4) (wr := []) ⟨hx, hb, hml, hown, hts⟩ hP hK hD hS hA [] (c_X6_init l D cI cJ zq0 _) [0] [] rfl rfl rfl rfl (by decide) (cwI 0 hts (gzN wl9) rfl rfl rfl (hts _ (List.mem_cons_of_mem _ wl2)) (hts _ (List.mem_cons_of_mem _ wl7)) (hts _ (List.mem_cons_of_mem _ wl8)) rfl (by decide +kernel) ⟨Nat.le_of_ble_eq_true rfl, Nat.le_of_ble_eq_true rfl⟩) [.ref zq0] rfl hl.1 rfl (Nat.le_of_ble_eq_true rfl) dL_law_4 ⟨Nat.le_of_ble_eq_true rfl, Nat.le_of_ble_eq_true rfl⟩ (fun w1 H locs hR hP hD hS => ?_)
  obtain ⟨o, A, v, f, u, ch, xn, xa, xr, rfl, hn, hu, rfl⟩ := hR
  replace hP : va_P D vwCl (plW cI cJ o (nI 0) A v f u ch xn xa xr) H := hP
  replace hD : va_D (lA s) (plW cI cJ o (nI 0) A v f u ch xn xa xr) := hD
  refine W.widen (k := 114) (n := 3699) (by omega) (by omega) ?_
  refine lv_astore_n (pc := 7) (lv' := [(1, .ref (o 0)), (0, .ref b)]) hx hb dL_law_7 rfl hl (by decide) rfl (fun ls hl => ?_)
  refine lv_bipush (v := 8) (pc := 8) hx hb dL_law_8 (by decide) ?_
  refine kc_ai (pc := 10) (N := 8) hx hb (hts _ (List.mem_cons_of_mem _ wl3)) hK hP hD hS hA rfl (Nat.le_of_ble_eq_true rfl) (Nat.le_of_ble_eq_true rfl) (Nat.le_of_ble_eq_true rfl) dL_law_10 (fun bg H hP hD hS => ?_)
  refine W.widen (k := 115) (n := 3707) (by omega) (by omega) ?_
  refine lv_astore_n (pc := 12) (lv' := [(2, .ref bg), (1, .ref (o 0)), (0, .ref b)]) hx hb dL_law_12 rfl hl (by decide) rfl (fun ls hl => ?_)
  refine lv_bipush (v := 12) (pc := 13) hx hb dL_law_13 (by decide) ?_
  refine kc_ai (pc := 15) (N := 12) hx hb (hts _ (List.mem_cons_of_mem _ wl3)) hK hP hD hS hA rfl (Nat.le_of_ble_eq_true rfl) (Nat.le_of_ble_eq_true rfl) (Nat.le_of_ble_eq_true rfl) dL_law_15 (fun bw H hP hD hS => ?_)
  refine W.widen (k := 116) (n := 3719) (by omega) (by omega) ?_
  refine lv_astore_n (pc := 17) (lv' := [(3, .ref bw), (2, .ref bg), (1, .ref (o 0)), (0, .ref b)]) hx hb dL_law_17 rfl hl (by decide) rfl (fun ls hl => ?_)
  refine lv_bipush (v := 60) (pc := 18) hx hb dL_law_18 (by decide) ?_
  refine kc_ai (pc := 20) (N := 60) hx hb (hts _ (List.mem_cons_of_mem _ wl3)) hK hP hD hS hA rfl (Nat.le_of_ble_eq_true rfl) (Nat.le_of_ble_eq_true rfl) (Nat.le_of_ble_eq_true rfl) dL_law_20 (fun bq H hP hD hS => ?_)
  refine W.widen (k := 117) (n := 3779) (by omega) (by omega) ?_
  refine lv_astore (pc := 22) (lv' := [(4, .ref bq), (3, .ref bw), (2, .ref bg), (1, .ref (o 0)), (0, .ref b)]) hx hb dL_law_22 hl (by decide) rfl (fun ls hl => ?_)
  refine lv_bipush (v := 60) (pc := 24) hx hb dL_law_24 (by decide) ?_
  refine kc_aj (pc := 26) (N := 60) hx hb (hts _ (List.mem_cons_of_mem _ wl4)) hK hP hD hS hA rfl (Nat.le_of_ble_eq_true rfl) (Nat.le_of_ble_eq_true rfl) (Nat.le_of_ble_eq_true rfl) dL_law_26 (fun bc H hP hD hS => ?_)
  refine W.widen (k := 118) (n := 3839) (by omega) (by omega) ?_
  refine lv_astore (pc := 28) (lv' := [(5, .ref bc), (4, .ref bq), (3, .ref bw), (2, .ref bg), (1, .ref (o 0)), (0, .ref b)]) hx hb dL_law_28 hl (by decide) rfl (fun ls hl => ?_)
  rw [List.append_assoc, List.append_assoc, List.append_assoc] at hP hD
  replace hP : va_P D vwCl ((bg, .inl (cI, 8, .inl zI)) :: (bw, .inl (cI, 12, .inl zI)) :: (bq, .inl (cI, 60, .inl zI)) :: (bc, .inl (cJ, 60, .inr (.inl (fun _ => 0)))) :: plW cI cJ o (nI 0) A v f u ch xn xa xr) H := vP_sw hP
  replace hD : va_D (lA s) ((bg, .inl (cI, 8, .inl zI)) :: (bw, .inl (cI, 12, .inl zI)) :: (bq, .inl (cI, 60, .inl zI)) :: (bc, .inl (cJ, 60, .inr (.inl (fun _ => 0)))) :: plW cI cJ o (nI 0) A v f u ch xn xa xr) := vD_sw hD
  refine lv_aload_n (pc := 30) hx hb dL_law_30 rfl (lv_at hl 3 rfl) ?_
  refine lv_aload_n (pc := 31) hx hb dL_law_31 rfl (lv_at hl 2 rfl) ?_
  refine lv_aload (pc := 32) hx hb dL_law_32 (lv_at hl 1 rfl) ?_
  refine lv_aload (pc := 34) hx hb dL_law_34 (lv_at hl 0 rfl) ?_
  refine lv_iconst (v := 4) (pc := 36) hx hb dL_law_36 (by decide) ?_
  refine lv_iconst (v := 0) (pc := 37) hx hb dL_law_37 (by decide) ?_
  refine lv_bipush (v := 10) (pc := 38) hx hb dL_law_38 (by decide) ?_
  obtain ⟨g', w', q', c', eb, ⟨b0, b1, b2, b3, b4, b5⟩, bw', bq', bC⟩ := l_begins zI zI zI (fun _ => 0) (n := 4) (a := 0) (b := 10) (by omega) (by omega) (by omega) (by omega)
  refine kc_SWv (pc := 40) ⟨hx, hb, hml, hown, hts⟩ hP hK hD hS hA [.ref bg, .ref bw, .ref bq, .ref bc, .int 4, .int 0, .int 10] (c_L_begins l D cI cJ bg bw bq bc zI zI zI (fun _ => 0) 4 0 10 g' w' q' c' eb _) [0, 1, 2, 3] rfl rfl rfl (cwS 7 hts (gzS wl116 wl117 wl118 wl119) rfl rfl rfl ⟨rfl, hdL_begins⟩ ⟨Nat.le_of_ble_eq_true rfl, Nat.le_of_ble_eq_true rfl⟩) [] rfl hl.1 rfl (Nat.le_of_ble_eq_true rfl) dL_law_40 ⟨Nat.le_of_ble_eq_true rfl, Nat.le_of_ble_eq_true rfl⟩ (fun H locs hP hD hS => ?_)
  replace hP : va_P D vwCl ((bg, .inl (cI, 8, .inl g')) :: (bw, .inl (cI, 12, .inl w')) :: (bq, .inl (cI, 60, .inl q')) :: (bc, .inl (cJ, 60, .inr (.inl c'))) :: plW cI cJ o (nI 0) A v f u ch xn xa xr) H := kSet_P (aw := [(bg, .inl (cI, 8, .inl zI)), (bw, .inl (cI, 12, .inl zI)), (bq, .inl (cI, 60, .inl zI)), (bc, .inl (cJ, 60, .inr (.inl (fun _ => 0))))]) (t := plW cI cJ o (nI 0) A v f u ch xn xa xr) (isC := [0, 1, 2, 3]) (w1 := [(bg, .inl (cI, 8, .inl g')), (bw, .inl (cI, 12, .inl w')), (bq, .inl (cI, 60, .inl q')), (bc, .inl (cJ, 60, .inr (.inl c')))]) hP rfl
  replace hD : va_D (lA s) ((bg, .inl (cI, 8, .inl g')) :: (bw, .inl (cI, 12, .inl w')) :: (bq, .inl (cI, 60, .inl q')) :: (bc, .inl (cJ, 60, .inr (.inl c'))) :: plW cI cJ o (nI 0) A v f u ch xn xa xr) := kSet_D (aw := [(bg, .inl (cI, 8, .inl zI)), (bw, .inl (cI, 12, .inl zI)), (bq, .inl (cI, 60, .inl zI)), (bc, .inl (cJ, 60, .inr (.inl (fun _ => 0))))]) (t := plW cI cJ o (nI 0) A v f u ch xn xa xr) (isC := [0, 1, 2, 3]) (w1 := [(bg, .inl (cI, 8, .inl g')), (bw, .inl (cI, 12, .inl w')), (bq, .inl (cI, 60, .inl q')), (bc, .inl (cJ, 60, .inr (.inl c')))]) hD rfl
  refine lv_aload_n (pc := 43) hx hb dL_law_43 rfl (lv_at hl 3 rfl) ?_
  refine lv_iconst (v := 5) (pc := 44) hx hb dL_law_44 (by decide) ?_
  refine lv_iconst (v := 3) (pc := 45) hx hb dL_law_45 (by decide) ?_
  obtain ⟨g1, eg1⟩ : ∃ y : Nat → Int32, y = upd g' (5 : Int32).toNatClampNeg 3 := ⟨_, rfl⟩
  refine va_iast (pc := 46) hx hb hK.1 hP hD hS 0 0 rfl rfl (vp_in_nI (n := 5) (N := 8) (by decide) (by decide)) dL_law_46 (fun H locs hP hD hS => ?_)
  rw [← eg1] at hP hD
  replace hP : va_P D vwCl ((bg, .inl (cI, 8, .inl g1)) :: (bw, .inl (cI, 12, .inl w')) :: (bq, .inl (cI, 60, .inl q')) :: (bc, .inl (cJ, 60, .inr (.inl c'))) :: plW cI cJ o (nI 0) A v f u ch xn xa xr) H := hP
  replace hD : va_D (lA s) ((bg, .inl (cI, 8, .inl g1)) :: (bw, .inl (cI, 12, .inl w')) :: (bq, .inl (cI, 60, .inl q')) :: (bc, .inl (cJ, 60, .inr (.inl c'))) :: plW cI cJ o (nI 0) A v f u ch xn xa xr) := hD
  refine lv_aload_n (pc := 47) hx hb dL_law_47 rfl (lv_at hl 3 rfl) ?_
  refine lv_bipush (v := 7) (pc := 48) hx hb dL_law_48 (by decide) ?_
  refine lv_bipush (v := 50) (pc := 50) hx hb dL_law_50 (by decide) ?_
  obtain ⟨g2, eg2⟩ : ∃ y : Nat → Int32, y = upd g1 (7 : Int32).toNatClampNeg 50 := ⟨_, rfl⟩
  refine va_iast (pc := 52) hx hb hK.1 hP hD hS 0 0 rfl rfl (vp_in_nI (n := 7) (N := 8) (by decide) (by decide)) dL_law_52 (fun H locs hP hD hS => ?_)
  rw [← eg2] at hP hD
  replace hP : va_P D vwCl ((bg, .inl (cI, 8, .inl g2)) :: (bw, .inl (cI, 12, .inl w')) :: (bq, .inl (cI, 60, .inl q')) :: (bc, .inl (cJ, 60, .inr (.inl c'))) :: plW cI cJ o (nI 0) A v f u ch xn xa xr) H := hP
  replace hD : va_D (lA s) ((bg, .inl (cI, 8, .inl g2)) :: (bw, .inl (cI, 12, .inl w')) :: (bq, .inl (cI, 60, .inl q')) :: (bc, .inl (cJ, 60, .inr (.inl c'))) :: plW cI cJ o (nI 0) A v f u ch xn xa xr) := hD
  have hg : ∀ i, i ≠ 5 → i ≠ 7 → g2 i = g' i := fun i h5 h7 => by rw [eg2, show (7 : Int32).toNatClampNeg = 7 from rfl, upd_n h7, eg1, show (5 : Int32).toNatClampNeg = 5 from rfl, upd_n h5]
  have hg5 : g2 5 = nI 3 := by rw [eg2, show (7 : Int32).toNatClampNeg = 7 from rfl, upd_n (by omega), eg1, show (5 : Int32).toNatClampNeg = 5 from rfl, upd_s]; rfl
  have hg7 : g2 7 = nI 50 := by rw [eg2, show (7 : Int32).toNatClampNeg = 7 from rfl, upd_s]; rfl
  have hg6 : g2 6 = nI 0 := by rw [hg 6 (by omega) (by omega), b5 6 (by omega)]; rfl
  have hLS : LSt 4 1 1 3 0 50 (fun _ => 1) (fun _ k => if 0 + k * 10 ≤ 99 then 0 + k * 10 else 99) (fun _ _ => 0) g2 w' c' := ⟨⟨by omega, by omega, by omega, by omega, by omega, by omega, by omega, by omega⟩, ⟨by rw [hg 0 (by omega) (by omega)]; exact b0, by rw [hg 1 (by omega) (by omega)]; exact b1, by rw [hg 2 (by omega) (by omega)]; exact b2, hg5, hg6, hg7⟩, ⟨bw', fun _ _ => (by show 1 ≤ 1000000; omega), pos_sum1 (by omega)⟩, ⟨fun h k _ _ => (by show (if 0 + k * 10 ≤ 99 then 0 + k * 10 else 99) ≤ 99; split <;> omega), fun h k h0 hh _ => absurd hh (by omega)⟩, bC⟩
  obtain ⟨⟨n0, n1, n2, n3, n4, n5⟩, m0, m2, m6, m70, m71, m72⟩ := hn
  have hRl : RlS 4 1 g2 w' q' (fun _ k => if 0 + k * 10 ≤ 99 then 0 + k * 10 else 99) (fun _ _ => 0) (v 0) (f 0) := by
    refine ⟨⟨n3, n4, n5, ?_, ?_, ?_, m70.trans hg5.symm, m71.trans hg6.symm, m72.trans hg7.symm⟩, fun k hk => (m6 k hk).trans (bw' k hk).symm, fun h hh => ?_, fun h k hh hk => ?_, fun h k h0 hh _ => absurd hh (by omega)⟩
    · rw [hg 2 (by omega) (by omega), b2]; exact n0
    · rw [hg 3 (by omega) (by omega), b3]; exact n1
    · rw [hg 4 (by omega) (by omega), b4]; exact n2
    · have : h = 0 := by omega
      subst this
      have kq' : q' (3 * 0) = nI 0 := bq'
      rw [kq']
      exact ⟨m2, fun e => absurd e (by decide), fun e => absurd e (by decide)⟩
    · have : h = 0 := by omega
      subst this
      show f 0 0 (0 * 12 + k) = _
      rw [show 0 * 12 + k = k by omega]
      exact m0 k hk
  have X : LCtx p m meth c s b L xs D cI cJ := ⟨hx, hb, hr, hml, hown, hts, hX, hbl, hK⟩
  have I : LInv D cI cJ s (o 0) bg bw bq bc H locs := ⟨4, 1, 1, 3, 0, 50, _, _, _, g2, w', q', c', _, hLS, ⟨o, nI 0, A, v, f, u, ch, xn, xa, xr, rfl, rfl, hu, hRl⟩, hP, hD, hS⟩
  refine lv_aload_n (pc := 53) hx hb dL_law_53 rfl (lv_at hl 4 rfl) ?_
  refine lv_aload_n (pc := 54) hx hb dL_law_54 rfl (lv_at hl 3 rfl) ?_
  refine lv_aload_n (pc := 55) hx hb dL_law_55 rfl (lv_at hl 2 rfl) ?_
  refine lv_aload (pc := 56) hx hb dL_law_56 (lv_at hl 1 rfl) ?_
  refine lv_aload (pc := 58) hx hb dL_law_58 (lv_at hl 0 rfl) ?_
  refine st_isSo X I dL_law_60 hl.1 ⟨Nat.le_of_ble_eq_true rfl, Nat.le_of_ble_eq_true rfl⟩ ?_
  refine lv_istore (lv' := [(6, .int 1), (5, .ref bc), (4, .ref bq), (3, .ref bw), (2, .ref bg), (1, .ref (o 0)), (0, .ref b)]) (pc := 63) hx hb dL_law_63 hl (by decide) rfl (fun ls hl => ?_)
  refine lv_iconst (v := 0) (pc := 65) hx hb dL_law_65 (by decide) ?_
  refine lv_istore (lv' := [(7, .int (0 : Int32)), (6, .int 1), (5, .ref bc), (4, .ref bq), (3, .ref bw), (2, .ref bg), (1, .ref (o 0)), (0, .ref b)]) (pc := 66) hx hb dL_law_66 hl (by decide) rfl (fun ls hl => ?_)
  exact law_loop1 hL X hlocks 4 0 (by omega) (by omega) H locs ls I (lv_sub hl [7, 6, 5, 4, 3, 2, 1, 0] rfl)
set_option maxHeartbeats 4000000 in
theorem lw_walk (l : Launch) (hflags : l.flags = flags0) (b : Addr) (xs : List Int32) : MetFree l x (headSpec (Jvm.Cond.code x code maxLocals ret :: tables_1) room_1) (lw_P b xs) (fun _ _ _ _ _ => True) lw_Q := by
  refine MetFree.of_bodyS (code := code) (maxLocals := maxLocals) (ret := ret) (by decide) ?_ ?_
  · intro args s m h hn
    obtain ⟨meth, c, h1, h2, h3, h4, h5, h6, -, -⟩ := Cond.code_spec hn (atoms_spec (ws := Jvm.Cond.code x code maxLocals ret :: tables_1) h _ List.mem_cons_self)
    exact ⟨meth, c, h1, h2, h3, h4, h5, h6⟩
  · intro p e s m args below meth c s₁ B hml0 hP _
    obtain ⟨rfl, hx, hbd, hgv⟩ := hP
    obtain ⟨scr, harrAt, hlist, hof, hsmall⟩ := hx
    obtain ⟨hcb, hkn, -, -⟩ := State.arrayAt?_spec harrAt
    have hown : s.vm.findClass R_law = some m.cls := findClass_of_methodNamed B.named
    have hts0 : ∀ c ∈ (Jvm.Cond.code x code maxLocals ret :: tables_1), c.before #[Value.ref b] s = true := atoms_spec (ws := Jvm.Cond.code x code maxLocals ret :: tables_1) B.pre
    have hts : ∀ w ∈ lw_tbl, w.before #[Value.ref b] s = true := k2_hts_sels lw_privs (fun w hw => hts0 w (List.mem_cons_of_mem _ hw)) lw_privs_ok
    have hml : c.maxLocals = 9 := B.maxLocals_eq (hts0 _ List.mem_cons_self)
    have X₀ : Stand p l e room_1 s m #[Value.ref b] below meth c s₁ [] 0 0 := Stand.of_body B
    have hh0 : s₁.heap = s.heap := by rw [B.state]; rfl
    have hsz : scr.slots.size = xs.length := by rw [← Array.length_toList, hlist, List.length_map]
    have hval : ∀ j : Nat, j < xs.length → scr.slots[j]? = some (.int (xs.getD j 0)) := fun j hj => by
      rw [← Array.getElem?_toList, hlist]
      simp [hj]
    have hbl : b < s.heap.size := (Array.getElem?_eq_some_iff.mp hcb).1
    have hX : va_X b xs.length (fun j => xs.getD j 0) s s.heap := ⟨scr, hcb, hof, hkn, hsz, hval⟩
    have K : W p l e room_1 s m #[Value.ref b] below meth c s₁.heap [] 0 0 (lw_Z below #[Value.ref b] s) (entryFrame m ([Value.ref b] : List Value).toArray 9) := by
      rw [hh0]
      exact whole_start l hflags hbd ⟨B.exec, B.bytes, B.returns, hml, hown, hts, hX, hbl, B.notSynchronized, hgv⟩
    obtain ⟨t, a1, o, b1, b2, b3⟩ := K s₁ rfl X₀
    exact ⟨t, o, a1, b1, b2, b3⟩
theorem lw_pre_spec {args : Array Value} {s : State} (h : (Jvm.Cond.and given_1 narrow_1).before args s = true) (hr : rest_1_c.before args s = true) : ∃ (b : Addr) (xs : List Int32), lw_P b xs args s := by
  have hs := flat_of_before _ h
  have hq := flat_of_before _ hr
  have hc : (Cond.count 1).before args s = true := hs _ (by decide +kernel)
  have harr : (Cond.arrayOf (.arg 0) .int).before args s = true := hs _ (by decide +kernel)
  have hle : (Cond.le (.length (.arg 0)) (.int 260)).before args s = true := hs _ (by decide +kernel)
  have hlen : (Cond.isInt (.length (.arg 0))).before args s = true := hq _ (by decide +kernel)
  have hall : (Cond.all (.arg 0) (.isInt (.elem (.arg 0) (.index 0)))).before args s = true := hq _ (by decide +kernel)
  obtain ⟨b, xs, hb, hx⟩ := State.ints_of_pre rfl harr hlen hall
  have hsm : xs.length < 2 ^ 31 := hx.choose_spec.2.2.2
  have hev : (Term.length (.arg 0)).eval args s none [] s = some (.int xs.length.toInt32) := hx.length_eval hb
  have hv := Cond.le_ints hev (show (Term.int 260).eval args s none [] s = some (.int 260) from rfl)
  have hd : xs.length.toInt32 ≤ 260 := by
    simpa [Cond.before, Cond.holds, hv] using hle
  have hN : xs.length ≤ 260 := (Int32.ofNat_le_ofNat hsm (by decide)).mp (show Int32.ofNat xs.length ≤ Int32.ofNat 260 from hd)
  exact ⟨b, xs, Cond.one_arg hc (show args[0]? = some (.ref b) from hb), hx, hN, h⟩
theorem lw_comes (l : Launch) (hflags : l.flags = flags0) : Comes l x (Jvm.Cond.code x code maxLocals ret :: tables_1) room_1 (fun tb e args s => Calls_1 tb e args s ∧ rest_1 tb e args s ∧ Pre_1 tb e args s)
    (fun _ _ args s o t => lw_Q args s o t) := by
  intro p e ha hc hk s m args below hf hfit hheap happ hpre
  obtain ⟨b, xs, hP⟩ := lw_pre_spec hpre.2.2 hpre.2.1
  obtain ⟨k, o, h1, h2, h3, hQ⟩ := lw_walk l hflags b xs p e ha hc hk s m args below hf ((Spec.applies_iff_loose hf).mp happ).1 hP trivial
  exact ⟨k, o, h1, h2, h3, hQ⟩
theorem lw_frame {s t : State} {o : Outcome} {args : Array Value} (h : Framed s o t [] 600000 7302250) :
    Framed s o t (fieldLocs frame_1_writes args s ++ arrayLocs frame_1_arrays args s ++ staticLocs frame_1_statics s) 600000 7302250 := h
theorem lw_limb (L : Cond) (hL : ∀ (args : Array Value) (s t : State), L.after args s (.returned (some (.int 1))) t = true) :
    ArmFor flags0 classFile x code maxLocals ret World_1 tables_1 room_1 Calls_1 rest_1 Pre_1
      (fun tb e a s o t => postC L tb e a s o t ∧ Framed s o t (fieldLocs frame_1_writes a s ++ arrayLocs frame_1_arrays a s ++ staticLocs frame_1_statics s) 600000 7302250) := by
  intro l hflags _ _ p e ha hc hk s m args below hf hfit hheap happ hpre
  obtain ⟨k, o, h1, h2, h3, rfl, hF⟩ := lw_comes l hflags p e ha hc hk s m args below hf hfit hheap happ hpre
  exact ⟨k, _, h1, h2, h3, hL args s _, lw_frame hF⟩
theorem i_vc : Claimed_1_1 ∧ Claimed_1_2 := ⟨lw_limb limb_1_1 (fun args s t => by simp [limb_1_1, Cond.after, Cond.holds, Cond.value]), lw_limb limb_1_2 (fun args s t => Cond.after_iff.mpr (by
  first | (rw [show limb_1_2 = Cond.eq .result (.int 1) from rfl, Cond.eq_ints (x := 1) (y := 1) rfl rfl]; simp; done) | (simp [limb_1_2, Cond.value, Term.eval]; done)))⟩
