-- combinators of the pure readings of methods, and rows that walk a method in step with its reading
theorem am_fuel_ex : ∃ n : Nat, n = 1000000 := ⟨_, rfl⟩
noncomputable def am_fuel : Nat := Classical.choose am_fuel_ex
theorem fuelE : am_fuel = 1000000 := Classical.choose_spec am_fuel_ex
def am_in {R : Type} (i : Int32) (n : Nat) (k : Option R) : Option R := if i < 0 ∨ n ≤ i.toNatClampNeg then none else k
def am_nz {R : Type} (y : Int32) (k : Option R) : Option R := if y = 0 then none else k
def am_nzl {R : Type} (y : Int64) (k : Option R) : Option R := if y = 0 then none else k
def am_bool {R : Type} (y : Int32) (k : Option R) : Option R := if y = 0 ∨ y = 1 then k else none
def am_let {α R : Type} (e : α) (k : α → Option R) : Option R := k e
def am_loop1 {A1 R : Type} (b : (A1 → Option R) → A1 → Option R) : Nat → A1 → Option R
  | 0, _ => none
  | n + 1, x1 => b (am_loop1 b n) x1
def am_loop2 {A1 A2 R : Type} (b : (A1 → A2 → Option R) → A1 → A2 → Option R) : Nat → A1 → A2 → Option R
  | 0, _, _ => none
  | n + 1, x1, x2 => b (am_loop2 b n) x1 x2
def am_loop3 {A1 A2 A3 R : Type} (b : (A1 → A2 → A3 → Option R) → A1 → A2 → A3 → Option R) : Nat → A1 → A2 → A3 → Option R
  | 0, _, _, _ => none
  | n + 1, x1, x2, x3 => b (am_loop3 b n) x1 x2 x3
def am_loop4 {A1 A2 A3 A4 R : Type} (b : (A1 → A2 → A3 → A4 → Option R) → A1 → A2 → A3 → A4 → Option R) : Nat → A1 → A2 → A3 → A4 → Option R
  | 0, _, _, _, _ => none
  | n + 1, x1, x2, x3, x4 => b (am_loop4 b n) x1 x2 x3 x4
def am_loop5 {A1 A2 A3 A4 A5 R : Type} (b : (A1 → A2 → A3 → A4 → A5 → Option R) → A1 → A2 → A3 → A4 → A5 → Option R) : Nat → A1 → A2 → A3 → A4 → A5 → Option R
  | 0, _, _, _, _, _ => none
  | n + 1, x1, x2, x3, x4, x5 => b (am_loop5 b n) x1 x2 x3 x4 x5
theorem am_t {R : Type} {c : Prop} [Decidable c] {a b : Option R} {r : Option R} (hc : c) (h : (if c then a else b) = r) : a = r := by rw [if_pos hc] at h; exact h
theorem am_f {R : Type} {c : Prop} [Decidable c] {a b : Option R} {r : Option R} (hc : ¬ c) (h : (if c then a else b) = r) : b = r := by rw [if_neg hc] at h; exact h
theorem am_in_s {R : Type} {i : Int32} {n : Nat} {k : Option R} {r : R} (h : am_in i n k = some r) : vp_in i n ∧ k = some r := by
  unfold am_in at h
  by_cases hc : i < 0 ∨ n ≤ i.toNatClampNeg
  · rw [if_pos hc] at h; cases h
  · rw [if_neg hc] at h; exact ⟨hc, h⟩
theorem am_nz_s {R : Type} {y : Int32} {k : Option R} {r : R} (h : am_nz y k = some r) : ¬ y = 0 ∧ k = some r := by
  unfold am_nz at h
  by_cases hc : y = 0
  · rw [if_pos hc] at h; cases h
  · rw [if_neg hc] at h; exact ⟨hc, h⟩
theorem am_nzl_s {R : Type} {y : Int64} {k : Option R} {r : R} (h : am_nzl y k = some r) : ¬ y = 0 ∧ k = some r := by
  unfold am_nzl at h
  by_cases hc : y = 0
  · rw [if_pos hc] at h; cases h
  · rw [if_neg hc] at h; exact ⟨hc, h⟩
theorem am_bool_s {R : Type} {y : Int32} {k : Option R} {r : R} (h : am_bool y k = some r) : (y = 0 ∨ y = 1) ∧ k = some r := by
  unfold am_bool at h
  by_cases hc : y = 0 ∨ y = 1
  · rw [if_pos hc] at h; exact ⟨hc, h⟩
  · rw [if_neg hc] at h; cases h
theorem am_let_s {α R : Type} {e x : α} {k : α → Option R} {r : Option R} (hx : x = e) (h : am_let e k = r) : k x = r := by subst hx; exact h
theorem am_bind_s {α R : Type} {a : Option α} {k : α → Option R} {r : R} (h : a.bind k = some r) : ∃ v, a = some v ∧ k v = some r := by
  cases a with
  | none => cases h
  | some v => exact ⟨v, rfl, h⟩
theorem am_bool_n {y : Int32} (h : y = 0 ∨ y = 1) : narrow .boolean (.int y) = .int y := by
  rcases h with rfl | rfl <;> rfl
theorem am_join1_s {A1 R : Type} {e : A1 → Option R} {k : (A1 → Option R) → Option R} {r : R} {G : Prop} (P : A1 → Prop) (h : am_let e k = some r) (h1 : ∀ x1, e x1 = some r → P x1) (h2 : ∀ J : A1 → Option R, (∀ x1, J x1 = some r → P x1) → k J = some r → G) : G := h2 e h1 h
theorem am_join0_s {R : Type} {e : Option R} {k : Option R → Option R} {r : R} {G : Prop} (P : Prop) (h : am_let e k = some r) (h1 : e = some r → P) (h2 : ∀ J : Option R, (J = some r → P) → k J = some r → G) : G := h2 e h1 h
theorem am_join2_s {A1 A2 R : Type} {e : A1 → A2 → Option R} {k : (A1 → A2 → Option R) → Option R} {r : R} {G : Prop} (P : A1 → A2 → Prop) (h : am_let e k = some r) (h1 : ∀ x1 x2, e x1 x2 = some r → P x1 x2) (h2 : ∀ J : A1 → A2 → Option R, (∀ x1 x2, J x1 x2 = some r → P x1 x2) → k J = some r → G) : G := h2 e h1 h
theorem am_join3_s {A1 A2 A3 R : Type} {e : A1 → A2 → A3 → Option R} {k : (A1 → A2 → A3 → Option R) → Option R} {r : R} {G : Prop} (P : A1 → A2 → A3 → Prop) (h : am_let e k = some r) (h1 : ∀ x1 x2 x3, e x1 x2 x3 = some r → P x1 x2 x3) (h2 : ∀ J : A1 → A2 → A3 → Option R, (∀ x1 x2 x3, J x1 x2 x3 = some r → P x1 x2 x3) → k J = some r → G) : G := h2 e h1 h
theorem am_join4_s {A1 A2 A3 A4 R : Type} {e : A1 → A2 → A3 → A4 → Option R} {k : (A1 → A2 → A3 → A4 → Option R) → Option R} {r : R} {G : Prop} (P : A1 → A2 → A3 → A4 → Prop) (h : am_let e k = some r) (h1 : ∀ x1 x2 x3 x4, e x1 x2 x3 x4 = some r → P x1 x2 x3 x4) (h2 : ∀ J : A1 → A2 → A3 → A4 → Option R, (∀ x1 x2 x3 x4, J x1 x2 x3 x4 = some r → P x1 x2 x3 x4) → k J = some r → G) : G := h2 e h1 h
theorem am_loop1_s {A1 R : Type} {b : (A1 → Option R) → A1 → Option R} {r : R} (P : A1 → Prop) (st : ∀ rec : A1 → Option R, (∀ x1, rec x1 = some r → P x1) → ∀ x1, b rec x1 = some r → P x1) : ∀ (n : Nat) (x1 : A1), am_loop1 b n x1 = some r → P x1
  | 0, _, h => nomatch h
  | n + 1, x1, h => st (am_loop1 b n) (am_loop1_s P st n) x1 h
theorem am_loop2_s {A1 A2 R : Type} {b : (A1 → A2 → Option R) → A1 → A2 → Option R} {r : R} (P : A1 → A2 → Prop) (st : ∀ rec : A1 → A2 → Option R, (∀ x1 x2, rec x1 x2 = some r → P x1 x2) → ∀ x1 x2, b rec x1 x2 = some r → P x1 x2) : ∀ (n : Nat) (x1 : A1) (x2 : A2), am_loop2 b n x1 x2 = some r → P x1 x2
  | 0, _, _, h => nomatch h
  | n + 1, x1, x2, h => st (am_loop2 b n) (am_loop2_s P st n) x1 x2 h
theorem am_loop3_s {A1 A2 A3 R : Type} {b : (A1 → A2 → A3 → Option R) → A1 → A2 → A3 → Option R} {r : R} (P : A1 → A2 → A3 → Prop) (st : ∀ rec : A1 → A2 → A3 → Option R, (∀ x1 x2 x3, rec x1 x2 x3 = some r → P x1 x2 x3) → ∀ x1 x2 x3, b rec x1 x2 x3 = some r → P x1 x2 x3) : ∀ (n : Nat) (x1 : A1) (x2 : A2) (x3 : A3), am_loop3 b n x1 x2 x3 = some r → P x1 x2 x3
  | 0, _, _, _, h => nomatch h
  | n + 1, x1, x2, x3, h => st (am_loop3 b n) (am_loop3_s P st n) x1 x2 x3 h
theorem am_loop4_s {A1 A2 A3 A4 R : Type} {b : (A1 → A2 → A3 → A4 → Option R) → A1 → A2 → A3 → A4 → Option R} {r : R} (P : A1 → A2 → A3 → A4 → Prop) (st : ∀ rec : A1 → A2 → A3 → A4 → Option R, (∀ x1 x2 x3 x4, rec x1 x2 x3 x4 = some r → P x1 x2 x3 x4) → ∀ x1 x2 x3 x4, b rec x1 x2 x3 x4 = some r → P x1 x2 x3 x4) : ∀ (n : Nat) (x1 : A1) (x2 : A2) (x3 : A3) (x4 : A4), am_loop4 b n x1 x2 x3 x4 = some r → P x1 x2 x3 x4
  | 0, _, _, _, _, h => nomatch h
  | n + 1, x1, x2, x3, x4, h => st (am_loop4 b n) (am_loop4_s P st n) x1 x2 x3 x4 h
theorem am_loop5_s {A1 A2 A3 A4 A5 R : Type} {b : (A1 → A2 → A3 → A4 → A5 → Option R) → A1 → A2 → A3 → A4 → A5 → Option R} {r : R} (P : A1 → A2 → A3 → A4 → A5 → Prop) (st : ∀ rec : A1 → A2 → A3 → A4 → A5 → Option R, (∀ x1 x2 x3 x4 x5, rec x1 x2 x3 x4 x5 = some r → P x1 x2 x3 x4 x5) → ∀ x1 x2 x3 x4 x5, b rec x1 x2 x3 x4 x5 = some r → P x1 x2 x3 x4 x5) : ∀ (n : Nat) (x1 : A1) (x2 : A2) (x3 : A3) (x4 : A4) (x5 : A5), am_loop5 b n x1 x2 x3 x4 x5 = some r → P x1 x2 x3 x4 x5
  | 0, _, _, _, _, _, h => nomatch h
  | n + 1, x1, x2, x3, x4, x5, h => st (am_loop5 b n) (am_loop5_s P st n) x1 x2 x3 x4 x5 h
-- words by their places
theorem mem_r {big ws : List Cond} (ps : List Nat) (hp : ws = ps.filterMap (fun i => big[i]?)) : ∀ w ∈ ws, w ∈ big := by
  intro w hw
  rw [hp] at hw
  obtain ⟨i, -, hi⟩ := List.mem_filterMap.mp hw
  exact List.mem_of_getElem? hi
theorem wl_good : ∀ w ∈ wsL_law, (w.onTables && w.keeps) = true ∨ ∃ ty, w = .arrayClass ty := fun w h => good_of_word (List.all_eq_true.mp (show wsL_law.all goodWord = true by decide +kernel) w h)
-- every method has the law's words, its own code ahead
abbrev wz (y : MethodName) (cc : ByteArray) (n : Nat) (ret : Option FieldType) : List Cond := Cond.code y cc n ret :: wsL_law
theorem gzN {h : Cond} {y : MethodName} {cc : ByteArray} {n : Nat} {ret : Option FieldType} (h5 : Cond.code y cc n ret ∈ wsL_law) : GoodIn (h :: wsL_law) (wz y cc n ret) := by
  intro w hw
  have h1 : w ∈ wsL_law := by
    rcases List.mem_cons.mp hw with rfl | hw
    · exact h5
    · exact hw
  exact ⟨List.mem_cons_of_mem _ h1, wl_good w h1⟩
theorem gzV {h : Cond} {y : MethodName} {cc : ByteArray} {n : Nat} {ret : Option FieldType} {own C : String} {idx : Nat} (h1 : Cond.methodLink own idx y ∈ wsL_law) (h2 : Cond.instanceMethod y ∈ wsL_law) (h3 : Cond.selects C y y ∈ wsL_law) (h4 : Cond.initialized C ∈ wsL_law) (h5 : Cond.code y cc n ret ∈ wsL_law) : GoodIn (h :: wsL_law) (wsV own idx C y (wz y cc n ret)) := by
  refine goodIn_app (fun w hw => ?_) (gzN h5)
  have q : w ∈ wsL_law := by
    simp only [List.mem_cons, List.not_mem_nil, or_false] at hw
    rcases hw with rfl | rfl | rfl | rfl <;> assumption
  exact ⟨List.mem_cons_of_mem _ q, wl_good w q⟩
theorem gzS {h : Cond} {y : MethodName} {cc : ByteArray} {n : Nat} {ret : Option FieldType} {own C : String} {idx : Nat} (h1 : Cond.methodLink own idx y ∈ wsL_law) (h2 : Cond.static y ∈ wsL_law) (h4 : Cond.initialized C ∈ wsL_law) (h5 : Cond.code y cc n ret ∈ wsL_law) : GoodIn (h :: wsL_law) (([.methodLink own idx y, .static y, .initialized C] : List Cond) ++ wz y cc n ret) := by
  refine goodIn_app (fun w hw => ?_) (gzN h5)
  have q : w ∈ wsL_law := by
    simp only [List.mem_cons, List.not_mem_nil, or_false] at hw
    rcases hw with rfl | rfl | rfl <;> assumption
  exact ⟨List.mem_cons_of_mem _ q, wl_good w q⟩
-- what holds of the tables beside the classes: the rows of the nest's private members
def kN (U : State) : Prop := va_Nw (.methodLinkNest RX1 50 yX6_nearestPlace "ParticleLines") U ∧ va_Nw (.methodLinkNest RX4 74 yX6_isWithin "ParticleLines") U ∧ va_Nw (.methodLinkNest RX5 28 yX6_commonDivisor "ParticleLines") U ∧ va_Nw (.methodLinkNest RX4 110 yX6_noiseBehind "ParticleLines") U ∧ va_Nw (.methodLinkNest RX4 117 yX6_nearestPlace "ParticleLines") U ∧ va_Nw (.methodLinkNest RX0 49 yX6_noiseBehind "ParticleLines") U ∧ va_Nw (.methodLinkNest RX4 174 yX6_partInLowestTerms "ParticleLines") U ∧ va_Nw (.fieldLinkNest RX0 42 RX5 "many" "I" "ParticleLines") U
theorem kN.warm {s U : State} (hW : s.WarmedH U.vm) (h : kN s) : kN U := by
  obtain ⟨h1, h2, h3, h4, h5, h6, h7, h9⟩ := h
  exact ⟨h1.warmM hW, h2.warmM hW, h3.warmM hW, h4.warmM hW, h5.warmM hW, h6.warmM hW, h7.warmM hW, h9.warmF hW⟩
theorem kN.same {u U : State} (e : u.vm = U.vm) (h : kN u) : kN U := by
  obtain ⟨h1, h2, h3, h4, h5, h6, h7, h9⟩ := h
  exact ⟨h1.same rfl e, h2.same rfl e, h3.same rfl e, h4.same rfl e, h5.same rfl e, h6.same rfl e, h7.same rfl e, h9.same rfl e⟩
abbrev kTys (cI cJ : ClassId) : List (ClassId × FieldType) := [(cI, .int), (cJ, .long)]
def kK (D : va_G) (cI cJ : ClassId) (U : State) : Prop := va_K D vwCl (kTys cI cJ) U ∧ kN U
theorem kK.warm {D : va_G} {cI cJ : ClassId} {s U : State} (hW : s.WarmedH U.vm) (h : kK D cI cJ s) : kK D cI cJ U := ⟨va_K.moved hW.alike h.1, h.2.warm hW⟩
theorem kK.same {D : va_G} {cI cJ : ClassId} {u U : State} (e : u.vm = U.vm) (h : kK D cI cJ u) : kK D cI cJ U := ⟨va_K.moved (by rw [e]; exact Vm.Alike.refl U.vm) h.1, h.2.same e⟩
-- a start that is read alone, and one that is written
def kPc (D : va_G) (cI cJ : ClassId) (ws : va_W) (av : List Value) : Array Value → State → Prop := va_Pc av (fun U => va_P D vwCl ws U.heap ∧ kK D cI cJ U)
def kPw (D : va_G) (cI cJ : ClassId) (ws : va_W) (sz : Nat) (av : List Value) : Array Value → State → Prop := va_Pc av (fun U => U.heap.size = sz ∧ va_P D vwCl ws U.heap ∧ kK D cI cJ U ∧ va_D (fun _ => True) ws)
theorem kPc_blind {D : va_G} {cI cJ : ClassId} {ws : va_W} {av : List Value} : FrameBlind (kPc D cI cJ ws av) := fun _ _ _ _ q => ⟨q.1, q.2.1, q.2.2.same rfl⟩
theorem kPw_blind {D : va_G} {cI cJ : ClassId} {ws : va_W} {sz : Nat} {av : List Value} : FrameBlind (kPw D cI cJ ws sz av) := fun _ _ _ _ q => ⟨q.1, q.2.1, q.2.2.1, q.2.2.2.1.same rfl, q.2.2.2.2⟩
def kQi (D : va_G) (r0 : Int32) (w1 : va_W) (A : Nat → Prop) : Array Value → State → Outcome → State → Prop := va_Qi (fun (r : Int32) (_ : Unit) => r = r0) (fun _ t => va_P D vwCl w1 t.heap) A
def kQv (D : va_G) (w1 : va_W) (A : Nat → Prop) : Array Value → State → Outcome → State → Prop := va_Qv (fun (_ : Unit) => True) (fun _ t => va_P D vwCl w1 t.heap) A
theorem kM_ri {l : Launch} {y : MethodName} {wsy ws' : List Cond} {rm : Room} {D : va_G} {cI cJ : ClassId} {wc : va_W} {av : List Value} {r0 : Int32} {own : String} (cc : ByteArray) (maxL : Nat) (ty : FieldType) (hy : plainName y.cls = true) (ho : y.cls = own) (hw : wsy = Cond.code y cc maxL (some ty) :: ws') (hlen : (lg_sl av).length ≤ maxL) (hrc : rm.cells = 0 ∧ rm.slots = 0)
    (body : ∀ (p : Program) (e : Env) (s : State) (m : MethodId) (args : Array Value) (below : List Frame) (meth : Method) (c : Code) (Q : State → Prop) (ls : Array Slot), p.tables.exec = Jvm.exec → c.code = cc → c.maxLocals = maxL → s.vm.findClass own = some m.cls → (∀ w ∈ wsy, w.before args s = true) → va_P D vwCl wc s.heap → kK D cI cJ s → lv_has ls maxL (lv_args 0 av) → (∀ (pc : Nat) (ls : Array Slot) (v : Int32), decode cc pc = .ok (.ireturn, 1) → narrow ty (.int v) = .int v → v = r0 → W p l e rm s m args below meth c s.heap [] 0 0 Q (F0 m pc ls [.int v])) → W p l e rm s m args below meth c s.heap [] 0 0 Q (F0 m 0 ls [])) :
    Met l y wsy rm (kPc D cI cJ wc av) (vp_Si (fun r => r = r0)) 0 0 (fun _ => False) := by
  refine Met.ofW (cc := cc) (maxL := maxL) (ret := some ty) hy hw ?_
  intro p e s m args below meth c s₁ B hml hv
  obtain ⟨rfl, hP, hK⟩ := hv
  have hl := lv_entry av (n := maxL) hlen
  rw [lg_entry_eq]
  refine body p e s m _ below meth c _ _ B.exec B.bytes hml (by rw [← ho]; exact findClass_of_methodNamed B.named) (atoms_spec (ws := wsy) B.pre) hP hK hl ?_
  intro pc ls v hd hn hv
  have hlocks := B.notSynchronized
  exact W.zret (ty := ty) B.exec B.bytes B.returns hn (fun t ht _ => ⟨v, rfl, hv, ht⟩) (fun q h => absurd h List.not_mem_nil) hd
theorem kM_rl {l : Launch} {y : MethodName} {wsy ws' : List Cond} {rm : Room} {D : va_G} {cI cJ : ClassId} {wc : va_W} {av : List Value} {r0 : Int64} {own : String} (cc : ByteArray) (maxL : Nat) (hy : plainName y.cls = true) (ho : y.cls = own) (hw : wsy = Cond.code y cc maxL (some .long) :: ws') (hlen : (lg_sl av).length ≤ maxL) (hrc : rm.cells = 0 ∧ rm.slots = 0)
    (body : ∀ (p : Program) (e : Env) (s : State) (m : MethodId) (args : Array Value) (below : List Frame) (meth : Method) (c : Code) (Q : State → Prop) (ls : Array Slot), p.tables.exec = Jvm.exec → c.code = cc → c.maxLocals = maxL → s.vm.findClass own = some m.cls → (∀ w ∈ wsy, w.before args s = true) → va_P D vwCl wc s.heap → kK D cI cJ s → lv_has ls maxL (lv_args 0 av) → (∀ (pc : Nat) (ls : Array Slot) (v : Int64), decode cc pc = .ok (.lreturn, 1) → v = r0 → W p l e rm s m args below meth c s.heap [] 0 0 Q (F0 m pc ls [.long v])) → W p l e rm s m args below meth c s.heap [] 0 0 Q (F0 m 0 ls [])) :
    Met l y wsy rm (kPc D cI cJ wc av) (vp_Sl (fun r => r = r0)) 0 0 (fun _ => False) := by
  refine Met.ofW (cc := cc) (maxL := maxL) (ret := some .long) hy hw ?_
  intro p e s m args below meth c s₁ B hml hv
  obtain ⟨rfl, hP, hK⟩ := hv
  have hl := lv_entry av (n := maxL) hlen
  rw [lg_entry_eq]
  refine body p e s m _ below meth c _ _ B.exec B.bytes hml (by rw [← ho]; exact findClass_of_methodNamed B.named) (atoms_spec (ws := wsy) B.pre) hP hK hl ?_
  intro pc ls v hd hv
  have hlocks := B.notSynchronized
  exact W.lret B.exec B.bytes B.returns (fun t ht _ => ⟨v, rfl, hv, ht⟩) (fun q h => absurd h List.not_mem_nil) hd
theorem kM_wi {l : Launch} {y : MethodName} {wsy ws' : List Cond} {rm : Room} {D : va_G} {cI cJ : ClassId} {wc w1 : va_W} {av : List Value} {r0 : Int32} {sz : Nat} {own : String} (cc : ByteArray) (maxL : Nat) (ty : FieldType) (hy : plainName y.cls = true) (ho : y.cls = own) (hw : wsy = Cond.code y cc maxL (some ty) :: ws') (hlen : (lg_sl av).length ≤ maxL) (hrc : rm.cells = 0 ∧ rm.slots = 0)
    (body : ∀ (p : Program) (e : Env) (s : State) (m : MethodId) (args : Array Value) (below : List Frame) (meth : Method) (c : Code) (Q : State → Prop) (A : Nat → Prop) (ls : Array Slot), p.tables.exec = Jvm.exec → c.code = cc → c.maxLocals = maxL → s.vm.findClass own = some m.cls → (∀ w ∈ wsy, w.before args s = true) → va_P D vwCl wc s.heap → kK D cI cJ s → va_D A wc → (∀ q, s.heap.size ≤ q → A q) → va_S A s.heap s.heap [] → lv_has ls maxL (lv_args 0 av) → (∀ (H : Heap) (locs : List Loc) (pc : Nat) (ls : Array Slot) (v : Int32), decode cc pc = .ok (.ireturn, 1) → narrow ty (.int v) = .int v → v = r0 → va_P D vwCl w1 H → va_S A s.heap H locs → W p l e rm s m args below meth c H locs 0 0 Q (F0 m pc ls [.int v])) → W p l e rm s m args below meth c s.heap [] 0 0 Q (F0 m 0 ls [])) :
    Met l y wsy rm (kPw D cI cJ wc sz av) (kQi D r0 w1 (va_A wc sz)) 0 0 (va_A wc sz) := by
  refine Met.ofW (cc := cc) (maxL := maxL) (ret := some ty) hy hw ?_
  intro p e s m args below meth c s₁ B hml hv
  obtain ⟨rfl, hsz, hP, hK, hD0⟩ := hv
  subst hsz
  have hl := lv_entry av (n := maxL) hlen
  rw [lg_entry_eq]
  refine body p e s m _ below meth c _ _ _ B.exec B.bytes hml (by rw [← ho]; exact findClass_of_methodNamed B.named) (atoms_spec (ws := wsy) B.pre) hP hK (hD0.self (sz := s.heap.size)) (fun q h => Or.inr h) va_S.rf hl ?_
  intro H locs pc ls v hd hn hv hP1 hS
  have hlocks := B.notSynchronized
  exact W.zret (ty := ty) B.exec B.bytes B.returns hn (fun t ht _ => ⟨⟨v, (), rfl, hv, by show va_P D vwCl w1 t.heap; rw [ht]; exact hP1⟩, hS.F ht⟩) hS.2.2 hd
theorem kM_wv {l : Launch} {y : MethodName} {wsy ws' : List Cond} {rm : Room} {D : va_G} {cI cJ : ClassId} {wc w1 : va_W} {av : List Value} {sz : Nat} {own : String} (cc : ByteArray) (maxL : Nat) (hy : plainName y.cls = true) (ho : y.cls = own) (hw : wsy = Cond.code y cc maxL none :: ws') (hlen : (lg_sl av).length ≤ maxL) (hrc : rm.cells = 0 ∧ rm.slots = 0)
    (body : ∀ (p : Program) (e : Env) (s : State) (m : MethodId) (args : Array Value) (below : List Frame) (meth : Method) (c : Code) (Q : State → Prop) (A : Nat → Prop) (ls : Array Slot), p.tables.exec = Jvm.exec → c.code = cc → c.maxLocals = maxL → s.vm.findClass own = some m.cls → (∀ w ∈ wsy, w.before args s = true) → va_P D vwCl wc s.heap → kK D cI cJ s → va_D A wc → (∀ q, s.heap.size ≤ q → A q) → va_S A s.heap s.heap [] → lv_has ls maxL (lv_args 0 av) → (∀ (H : Heap) (locs : List Loc) (pc : Nat) (ls : Array Slot), decode cc pc = .ok (.return_, 1) → va_P D vwCl w1 H → va_S A s.heap H locs → W p l e rm s m args below meth c H locs 0 0 Q (F0 m pc ls [])) → W p l e rm s m args below meth c s.heap [] 0 0 Q (F0 m 0 ls [])) :
    Met l y wsy rm (kPw D cI cJ wc sz av) (kQv D w1 (va_A wc sz)) 0 0 (va_A wc sz) := by
  refine Met.ofW (cc := cc) (maxL := maxL) (ret := none) hy hw ?_
  intro p e s m args below meth c s₁ B hml hv
  obtain ⟨rfl, hsz, hP, hK, hD0⟩ := hv
  subst hsz
  have hl := lv_entry av (n := maxL) hlen
  rw [lg_entry_eq]
  refine body p e s m _ below meth c _ _ _ B.exec B.bytes hml (by rw [← ho]; exact findClass_of_methodNamed B.named) (atoms_spec (ws := wsy) B.pre) hP hK (hD0.self (sz := s.heap.size)) (fun q h => Or.inr h) va_S.rf hl ?_
  intro H locs pc ls hd hP1 hS
  have hlocks := B.notSynchronized
  exact W.vret B.exec B.bytes B.returns (fun t ht _ => ⟨⟨(), rfl, trivial, by show va_P D vwCl w1 t.heap; rw [ht]; exact hP1⟩, hS.F ht⟩) hS.2.2 hd
-- a call's world put back among the caller's, cell by cell
def kLk : List Nat → va_W → Nat → Nat × va_E → Nat × va_E
  | i :: is, c :: cs, k, d => bif Nat.beq k i then c else kLk is cs k d
  | [], _, _, d => d
  | _ :: _, [], _, d => d
def kUp (is : List Nat) (cs : va_W) : Nat → va_W → va_W
  | _, [] => []
  | k, c :: ws => kLk is cs k c :: kUp is cs (k + 1) ws
def kSet (ws : va_W) (is : List Nat) (cs : va_W) : va_W := kUp is cs 0 ws
theorem kLk_get : ∀ (is : List Nat) (cs : va_W) (k : Nat) (d : Nat × va_E), is.length = cs.length → (∃ j : Nat, is[j]? = some k ∧ cs[j]? = some (kLk is cs k d)) ∨ (k ∉ is ∧ kLk is cs k d = d)
  | [], cs, k, d, _ => Or.inr ⟨List.not_mem_nil, by cases cs <;> rfl⟩
  | i :: is, [], k, d, hl => nomatch hl
  | i :: is, c :: cs, k, d, hl => by
    have hl1 : is.length = cs.length := Nat.succ.inj hl
    by_cases hk : k = i
    · subst hk
      have e : kLk (k :: is) (c :: cs) k d = c := by show (bif Nat.beq k k then c else _) = c; rw [Nat.beq_refl]; rfl
      rw [e]
      exact Or.inl ⟨0, rfl, rfl⟩
    · have e : kLk (i :: is) (c :: cs) k d = kLk is cs k d := by
        show (bif Nat.beq k i then c else _) = _
        have : Nat.beq k i = false := by
          cases hb : Nat.beq k i with
          | false => rfl
          | true => exact absurd (Nat.eq_of_beq_eq_true hb) hk
        rw [this]
        rfl
      rw [e]
      rcases kLk_get is cs k d hl1 with ⟨j, h1, h2⟩ | ⟨h1, h2⟩
      · exact Or.inl ⟨j + 1, h1, h2⟩
      · exact Or.inr ⟨fun hm => (List.mem_cons.mp hm).elim hk h1, h2⟩
theorem kUp_get (is : List Nat) (cs : va_W) : ∀ (ws : va_W) (k0 k : Nat) (q : Nat × va_E), (kUp is cs k0 ws)[k]? = some q → ∃ c, ws[k]? = some c ∧ q = kLk is cs (k0 + k) c
  | [], k0, k, q, h => by cases k <;> cases h
  | c :: ws, k0, 0, q, h => ⟨c, rfl, (Option.some.inj h).symm⟩
  | c :: ws, k0, k + 1, q, h => by
    obtain ⟨c1, h1, h2⟩ := kUp_get is cs ws (k0 + 1) k q h
    refine ⟨c1, h1, ?_⟩
    rw [h2]
    congr 1
    omega
theorem kSet_get (is : List Nat) (ws cs : va_W) (k : Nat) (q : Nat × va_E) (hl : is.length = cs.length) (h : (kSet ws is cs)[k]? = some q) : (∃ j : Nat, is[j]? = some k ∧ cs[j]? = some q) ∨ (k ∉ is ∧ ws[k]? = some q) := by
  obtain ⟨c, h1, h2⟩ := kUp_get is cs ws 0 k q h
  rw [Nat.zero_add] at h2
  subst h2
  rcases kLk_get is cs k c hl with h3 | ⟨h3, h4⟩
  · exact Or.inl h3
  · exact Or.inr ⟨h3, by rw [h4]; exact h1⟩
theorem kMapFilter {α β : Type} (f : α → Option β) : ∀ (is : List α) (wc : List β), is.map f = wc.map some → is.filterMap f = wc
  | [], wc, h => by cases wc with
    | nil => rfl
    | cons _ _ => cases h
  | i :: is, wc, h => by cases wc with
    | nil => cases h
    | cons c cs =>
      have h1 : f i = some c := (List.cons.inj h).1
      have h2 := kMapFilter f is cs (List.cons.inj h).2
      rw [List.filterMap_cons, h1, h2]
theorem kJoin {A0 : Nat → Prop} {D : va_G} {cl : List vw_C} {ws wc w1 : va_W} {H H1 : Heap} (hP : va_P D cl ws H) (hD : va_D A0 ws) (isC : List Nat) (hC : isC.map (fun i => ws[i]?) = wc.map some) (hadr : w1.map Prod.fst = wc.map Prod.fst)
    (hk : ∀ q : Nat, q < H.size → ¬ va_A wc H.size q → H1[q]? = H[q]?) (hP1 : va_P D cl w1 H1) : va_P D cl (kSet ws isC w1) H1 ∧ va_D A0 (kSet ws isC w1) := by
  have hlen : isC.length = w1.length := by
    have h1 := congrArg List.length hC
    have h2 := congrArg List.length hadr
    simp only [List.length_map] at h1 h2
    omega
  have key : ∀ (k : Nat) (q : Nat × va_E), (kSet ws isC w1)[k]? = some q → ∃ q0, ws[k]? = some q0 ∧ q0.1 = q.1 ∧ ((∃ j : Nat, w1[j]? = some q) ∨ (k ∉ isC ∧ ws[k]? = some q)) := by
    intro k q hq
    rcases kSet_get isC ws w1 k q hlen hq with ⟨j, h1, h2⟩ | ⟨h1, h2⟩
    · have h3 : (isC.map (fun i => ws[i]?))[j]? = some (ws[k]?) := by rw [List.getElem?_map, h1]; rfl
      rw [hC, List.getElem?_map] at h3
      have h4 : (w1.map Prod.fst)[j]? = some q.1 := by rw [List.getElem?_map, h2]; rfl
      rw [hadr, List.getElem?_map] at h4
      cases h5 : wc[j]? with
      | none => rw [h5] at h3; cases h3
      | some q0 =>
        rw [h5] at h3 h4
        exact ⟨q0, (Option.some.inj h3).symm, Option.some.inj h4, Or.inl ⟨j, h2⟩⟩
    · exact ⟨q, h2, rfl, Or.inr ⟨h1, h2⟩⟩
  constructor
  · intro k q hq
    obtain ⟨q0, -, -, ⟨j, h1⟩ | ⟨h1, h2⟩⟩ := key k q hq
    · exact hP1 j q h1
    · refine (hP k q h2).kept (hk q.1 (hP k q h2).lt ?_)
      rintro (⟨j1, e1, he1⟩ | he1)
      · have h3 : (isC.map (fun i => ws[i]?))[j1]? = some (some (q.1, e1)) := by rw [hC, List.getElem?_map, he1]; rfl
        rw [List.getElem?_map] at h3
        cases h4 : isC[j1]? with
        | none => rw [h4] at h3; cases h3
        | some i1 =>
          rw [h4] at h3
          have h5 : ws[i1]? = some (q.1, e1) := Option.some.inj h3
          have h6 := hD.1 k i1 q (q.1, e1) h2 h5 rfl
          subst h6
          exact h1 (List.mem_of_getElem? h4)
      · exact absurd (hP k q h2).lt (Nat.not_lt.mpr he1)
  · refine ⟨fun i j p q hi hj hpq => ?_, fun k q hq => ?_⟩
    · obtain ⟨p0, h1, h2, -⟩ := key i p hi
      obtain ⟨q0, h3, h4, -⟩ := key j q hj
      exact hD.1 i j p0 q0 h1 h3 (h2.trans (hpq.trans h4.symm))
    · obtain ⟨q0, h1, h2, -⟩ := key k q hq
      rw [← h2]
      exact hD.2 k q0 h1
section kCalls
variable {p : Program} {l : Launch} {e : Env} {R : Room} {s : State} {m : MethodId} {args : Array Value} {below : List Frame} {meth : Method} {c : Code} {H H0 : Heap} {locs : List Loc} {cells slots : Nat} {Q : State → Prop} {cc : ByteArray} {nL : Nat} {Ts : List Cond} {own C : String} {D : va_G} {cI cJ : ClassId} {ws wc w1 : va_W} {y : MethodName} {wsy : List Cond} {rm : Room} {bytes : ByteArray} {maxL n index : Nat} {ret : Option FieldType} {pc : Nat} {ls : Array Slot} {A0 : Nat → Prop}
theorem kc_Vi {r0 : Int32} (S : CallFix p m c cc nL s args Ts own) (hP : va_P D vwCl ws H) (hK : kK D cI cJ s) {b : Nat} (As : List Value) (hM : Met l y wsy rm (kPc D cI cJ wc (.ref b :: As)) (vp_Si (fun r => r = r0)) 0 0 (fun _ => False)) (is : List Nat) (hs : is.filterMap (fun i => ws[i]?) = wc) (cw : CallW R s args own C index y bytes maxL ret wsy rm 0 0 n) {T : u_T} {N1 ci : Nat} {fs : List Value} (hc : vwCl[ci]? = some (C, T, N1)) (he : wc[0]? = some (b, .inr (ci, fs))) (rest : List Value) (hn : As.length = n) (hsize : ls.size = nL) {stk : List Value} (hstack : stk = As.reverse ++ .ref b :: rest) (hW : (rest.map fun v => v.category).sum ≤ 8) (hdg : decode cc pc = .ok (.invokevirtual index, 3)) (hf : cells ≤ R.cells ∧ slots ≤ R.slots)
    (kk : W p l e R s m args below meth c H locs cells slots Q (F0 m (pc + 3) ls (.int r0 :: rest))) : W p l e R s m args below meth c H locs cells slots Q (F0 m pc ls stk) := by
  subst hstack
  have hPc := hP.sub is hs
  refine vp_callSi (rest := rest) (W.runV (As := As) (rest := rest) S hM cw ⟨kPc_blind, va_recv hK.1 hPc hc he, fun U hU hW => ⟨rfl, by rw [hU]; exact hPc, hK.warm hW⟩⟩ rfl hn hsize rfl (lv_room hW) hdg hf) (fun r hr => ?_)
  subst hr
  exact kk
theorem kc_Vl {r0 : Int64} (S : CallFix p m c cc nL s args Ts own) (hP : va_P D vwCl ws H) (hK : kK D cI cJ s) {b : Nat} (As : List Value) (hM : Met l y wsy rm (kPc D cI cJ wc (.ref b :: As)) (vp_Sl (fun r => r = r0)) 0 0 (fun _ => False)) (is : List Nat) (hs : is.filterMap (fun i => ws[i]?) = wc) (cw : CallW R s args own C index y bytes maxL ret wsy rm 0 0 n) {T : u_T} {N1 ci : Nat} {fs : List Value} (hc : vwCl[ci]? = some (C, T, N1)) (he : wc[0]? = some (b, .inr (ci, fs))) (rest : List Value) (hn : As.length = n) (hsize : ls.size = nL) {stk : List Value} (hstack : stk = As.reverse ++ .ref b :: rest) (hW : (rest.map fun v => v.category).sum ≤ 8) (hdg : decode cc pc = .ok (.invokevirtual index, 3)) (hf : cells ≤ R.cells ∧ slots ≤ R.slots)
    (kk : W p l e R s m args below meth c H locs cells slots Q (F0 m (pc + 3) ls (.long r0 :: rest))) : W p l e R s m args below meth c H locs cells slots Q (F0 m pc ls stk) := by
  subst hstack
  have hPc := hP.sub is hs
  refine vp_callSl (rest := rest) (W.runV (As := As) (rest := rest) S hM cw ⟨kPc_blind, va_recv hK.1 hPc hc he, fun U hU hW => ⟨rfl, by rw [hU]; exact hPc, hK.warm hW⟩⟩ rfl hn hsize rfl (lv_room hW) hdg hf) (fun r hr => ?_)
  subst hr
  exact kk
theorem kc_Si {r0 : Int32} (S : CallFix p m c cc nL s args Ts own) (hP : va_P D vwCl ws H) (hK : kK D cI cJ s) (As : List Value) (hM : Met l y wsy rm (kPc D cI cJ wc As) (vp_Si (fun r => r = r0)) 0 0 (fun _ => False)) (is : List Nat) (hs : is.filterMap (fun i => ws[i]?) = wc) (cw : CallB R s args own index y bytes maxL ret wsy rm 0 0 n ∧ (Cond.static y).before args s = true) (rest : List Value) (hn : As.length = n) (hsize : ls.size = nL) {stk : List Value} (hstack : stk = As.reverse ++ rest) (hW : (rest.map fun v => v.category).sum ≤ 8) (hdg : decode cc pc = .ok (.invokestatic index, 3)) (hf : cells ≤ R.cells ∧ slots ≤ R.slots)
    (kk : W p l e R s m args below meth c H locs cells slots Q (F0 m (pc + 3) ls (.int r0 :: rest))) : W p l e R s m args below meth c H locs cells slots Q (F0 m pc ls stk) := by
  subst hstack
  have hPc := hP.sub is hs
  refine vp_callSi (rest := rest) (W.runS (As := As) (rest := rest) S hM cw ⟨kPc_blind, fun U hU hW => ⟨rfl, by rw [hU]; exact hPc, hK.warm hW⟩⟩ rfl hn hsize rfl (lv_room hW) hdg hf) (fun r hr => ?_)
  subst hr
  exact kk
theorem kc_Sl {r0 : Int64} (S : CallFix p m c cc nL s args Ts own) (hP : va_P D vwCl ws H) (hK : kK D cI cJ s) (As : List Value) (hM : Met l y wsy rm (kPc D cI cJ wc As) (vp_Sl (fun r => r = r0)) 0 0 (fun _ => False)) (is : List Nat) (hs : is.filterMap (fun i => ws[i]?) = wc) (cw : CallB R s args own index y bytes maxL ret wsy rm 0 0 n ∧ (Cond.static y).before args s = true) (rest : List Value) (hn : As.length = n) (hsize : ls.size = nL) {stk : List Value} (hstack : stk = As.reverse ++ rest) (hW : (rest.map fun v => v.category).sum ≤ 8) (hdg : decode cc pc = .ok (.invokestatic index, 3)) (hf : cells ≤ R.cells ∧ slots ≤ R.slots)
    (kk : W p l e R s m args below meth c H locs cells slots Q (F0 m (pc + 3) ls (.long r0 :: rest))) : W p l e R s m args below meth c H locs cells slots Q (F0 m pc ls stk) := by
  subst hstack
  have hPc := hP.sub is hs
  refine vp_callSl (rest := rest) (W.runS (As := As) (rest := rest) S hM cw ⟨kPc_blind, fun U hU hW => ⟨rfl, by rw [hU]; exact hPc, hK.warm hW⟩⟩ rfl hn hsize rfl (lv_room hW) hdg hf) (fun r hr => ?_)
  subst hr
  exact kk
theorem kRun_call {mc ms : Nat} {g : JFrame} {rest : List Value} {Qa : State → Outcome → State → Prop} {free : Addr → Prop} (h : va_Run p l e R s m args below meth c H locs cells slots mc ms g rest Qa free) : CallRun p l e R s m args below meth c H locs cells slots mc ms g rest Qa free := by
  intro T hT X
  obtain ⟨v, st₀, t, T', L, h1, h2, h3, h4, h5, h6, h7⟩ := h T hT X
  exact ⟨v, st₀, t, T', L, h1, h2, h3, h4, h6, h7⟩
theorem kc_Ni {r0 : Int32} {host : String} (S : CallFix p m c cc nL s args Ts own) (hP : va_P D vwCl ws H) (hK : kK D cI cJ s) (As : List Value) (hM : Met l y wsy rm (kPc D cI cJ wc As) (vp_Si (fun r => r = r0)) 0 0 (fun _ => False)) (is : List Nat) (hs : is.filterMap (fun i => ws[i]?) = wc) (cw : va_CN R s args own index y host bytes maxL ret wsy rm 0 0 n ∧ (Cond.static y).before args s = true ∧ True) (rest : List Value) (hn : As.length = n) (hsize : ls.size = nL) {stk : List Value} (hstack : stk = As.reverse ++ rest) (hW : (rest.map fun v => v.category).sum ≤ 8) (hdg : decode cc pc = .ok (.invokestatic index, 3)) (hf : cells ≤ R.cells ∧ slots ≤ R.slots)
    (kk : W p l e R s m args below meth c H locs cells slots Q (F0 m (pc + 3) ls (.int r0 :: rest))) : W p l e R s m args below meth c H locs cells slots Q (F0 m pc ls stk) := by
  subst hstack
  have hPc := hP.sub is hs
  refine vp_callSi (rest := rest) (kRun_call (va_runSN (As := As) (rest := rest) S hM cw ⟨kPc_blind, fun U hU hW => ⟨rfl, by rw [hU]; exact hPc, hK.warm hW⟩⟩ rfl hn hsize rfl (lv_room hW) hdg hf)) (fun r hr => ?_)
  subst hr
  exact kk
theorem kc_Nl {r0 : Int64} {host : String} (S : CallFix p m c cc nL s args Ts own) (hP : va_P D vwCl ws H) (hK : kK D cI cJ s) (As : List Value) (hM : Met l y wsy rm (kPc D cI cJ wc As) (vp_Sl (fun r => r = r0)) 0 0 (fun _ => False)) (is : List Nat) (hs : is.filterMap (fun i => ws[i]?) = wc) (cw : va_CN R s args own index y host bytes maxL ret wsy rm 0 0 n ∧ (Cond.static y).before args s = true ∧ True) (rest : List Value) (hn : As.length = n) (hsize : ls.size = nL) {stk : List Value} (hstack : stk = As.reverse ++ rest) (hW : (rest.map fun v => v.category).sum ≤ 8) (hdg : decode cc pc = .ok (.invokestatic index, 3)) (hf : cells ≤ R.cells ∧ slots ≤ R.slots)
    (kk : W p l e R s m args below meth c H locs cells slots Q (F0 m (pc + 3) ls (.long r0 :: rest))) : W p l e R s m args below meth c H locs cells slots Q (F0 m pc ls stk) := by
  subst hstack
  have hPc := hP.sub is hs
  refine vp_callSl (rest := rest) (kRun_call (va_runSN (As := As) (rest := rest) S hM cw ⟨kPc_blind, fun U hU hW => ⟨rfl, by rw [hU]; exact hPc, hK.warm hW⟩⟩ rfl hn hsize rfl (lv_room hW) hdg hf)) (fun r hr => ?_)
  subst hr
  exact kk
theorem kc_Wi {r0 : Int32} (S : CallFix p m c cc nL s args Ts own) (hP : va_P D vwCl ws H) (hK : kK D cI cJ s) (hD : va_D A0 ws) (hS : va_S A0 H0 H locs) (hA : ∀ q, H0.size ≤ q → A0 q)
    {b : Nat} (As : List Value) (hM : Met l y wsy rm (kPw D cI cJ wc H.size (.ref b :: As)) (kQi D r0 w1 (va_A wc H.size)) 0 0 (va_A wc H.size)) (isC : List Nat) (hC : isC.map (fun i => ws[i]?) = wc.map some) (hnd : va_nd isC = true) (hadr : w1.map Prod.fst = wc.map Prod.fst) (cw : CallW R s args own C index y bytes maxL ret wsy rm 0 0 n) {T : u_T} {N1 ci : Nat} {fs : List Value} (hc : vwCl[ci]? = some (C, T, N1)) (he : wc[0]? = some (b, .inr (ci, fs))) (rest : List Value) (hn : As.length = n) (hsize : ls.size = nL) {stk : List Value} (hstack : stk = As.reverse ++ .ref b :: rest) (hW : (rest.map fun v => v.category).sum ≤ 8) (hdg : decode cc pc = .ok (.invokevirtual index, 3)) (hf : cells ≤ R.cells ∧ slots ≤ R.slots)
    (kk : ∀ (H1 : Heap) (locs1 : List Loc), va_P D vwCl (kSet ws isC w1) H1 → va_D A0 (kSet ws isC w1) → va_S A0 H0 H1 locs1 → W p l e R s m args below meth c H1 locs1 cells slots Q (F0 m (pc + 3) ls (.int r0 :: rest))) : W p l e R s m args below meth c H locs cells slots Q (F0 m pc ls stk) := by
  subst hstack
  have hPc := hP.sub isC (kMapFilter _ _ _ hC)
  have hDc := hD.sub isC hnd hC
  have hFc := va_free (wc := wc) hD hS hA isC hC
  refine va_calli (rest := rest) (va_runV (As := As) (rest := rest) S hM cw ⟨kPw_blind, va_recv hK.1 hPc hc he, fun U hU hW => ⟨rfl, by rw [hU], by rw [hU]; exact hPc, hK.warm hW, hDc.weaken (fun _ _ _ _ => trivial)⟩⟩ rfl hn hsize rfl (lv_room hW) hdg hf) hS (fun q _ h => hFc q h) hFc (fun r u t H1 locs1 ht hvm hw hB hz1 hk1 hS1 => ?_)
  have hw : r = r0 := hw
  subst hw
  have hB : va_P D vwCl w1 t.heap := hB
  rw [ht] at hB
  obtain ⟨h1, h2⟩ := kJoin hP hD isC hC hadr hk1 hB
  exact kk H1 locs1 h1 h2 hS1
theorem kc_Wv (S : CallFix p m c cc nL s args Ts own) (hP : va_P D vwCl ws H) (hK : kK D cI cJ s) (hD : va_D A0 ws) (hS : va_S A0 H0 H locs) (hA : ∀ q, H0.size ≤ q → A0 q)
    {b : Nat} (As : List Value) (hM : Met l y wsy rm (kPw D cI cJ wc H.size (.ref b :: As)) (kQv D w1 (va_A wc H.size)) 0 0 (va_A wc H.size)) (isC : List Nat) (hC : isC.map (fun i => ws[i]?) = wc.map some) (hnd : va_nd isC = true) (hadr : w1.map Prod.fst = wc.map Prod.fst) (cw : CallW R s args own C index y bytes maxL ret wsy rm 0 0 n) {T : u_T} {N1 ci : Nat} {fs : List Value} (hc : vwCl[ci]? = some (C, T, N1)) (he : wc[0]? = some (b, .inr (ci, fs))) (rest : List Value) (hn : As.length = n) (hsize : ls.size = nL) {stk : List Value} (hstack : stk = As.reverse ++ .ref b :: rest) (hW : (rest.map fun v => v.category).sum ≤ 8) (hdg : decode cc pc = .ok (.invokevirtual index, 3)) (hf : cells ≤ R.cells ∧ slots ≤ R.slots)
    (kk : ∀ (H1 : Heap) (locs1 : List Loc), va_P D vwCl (kSet ws isC w1) H1 → va_D A0 (kSet ws isC w1) → va_S A0 H0 H1 locs1 → W p l e R s m args below meth c H1 locs1 cells slots Q (F0 m (pc + 3) ls rest)) : W p l e R s m args below meth c H locs cells slots Q (F0 m pc ls stk) := by
  subst hstack
  have hPc := hP.sub isC (kMapFilter _ _ _ hC)
  have hDc := hD.sub isC hnd hC
  have hFc := va_free (wc := wc) hD hS hA isC hC
  refine va_callv (rest := rest) (va_runV (As := As) (rest := rest) S hM cw ⟨kPw_blind, va_recv hK.1 hPc hc he, fun U hU hW => ⟨rfl, by rw [hU], by rw [hU]; exact hPc, hK.warm hW, hDc.weaken (fun _ _ _ _ => trivial)⟩⟩ rfl hn hsize rfl (lv_room hW) hdg hf) hS (fun q _ h => hFc q h) hFc (fun u t H1 locs1 ht hvm hw hB hz1 hk1 hS1 => ?_)
  have hB : va_P D vwCl w1 t.heap := hB
  rw [ht] at hB
  obtain ⟨h1, h2⟩ := kJoin hP hD isC hC hadr hk1 hB
  exact kk H1 locs1 h1 h2 hS1
theorem kc_SWv (S : CallFix p m c cc nL s args Ts own) (hP : va_P D vwCl ws H) (hK : kK D cI cJ s) (hD : va_D A0 ws) (hS : va_S A0 H0 H locs) (hA : ∀ q, H0.size ≤ q → A0 q)
    (As : List Value) (hM : Met l y wsy rm (kPw D cI cJ wc H.size As) (kQv D w1 (va_A wc H.size)) 0 0 (va_A wc H.size)) (isC : List Nat) (hC : isC.map (fun i => ws[i]?) = wc.map some) (hnd : va_nd isC = true) (hadr : w1.map Prod.fst = wc.map Prod.fst) (cw : CallB R s args own index y bytes maxL ret wsy rm 0 0 n ∧ (Cond.static y).before args s = true) (rest : List Value) (hn : As.length = n) (hsize : ls.size = nL) {stk : List Value} (hstack : stk = As.reverse ++ rest) (hW : (rest.map fun v => v.category).sum ≤ 8) (hdg : decode cc pc = .ok (.invokestatic index, 3)) (hf : cells ≤ R.cells ∧ slots ≤ R.slots)
    (kk : ∀ (H1 : Heap) (locs1 : List Loc), va_P D vwCl (kSet ws isC w1) H1 → va_D A0 (kSet ws isC w1) → va_S A0 H0 H1 locs1 → W p l e R s m args below meth c H1 locs1 cells slots Q (F0 m (pc + 3) ls rest)) : W p l e R s m args below meth c H locs cells slots Q (F0 m pc ls stk) := by
  subst hstack
  have hPc := hP.sub isC (kMapFilter _ _ _ hC)
  have hDc := hD.sub isC hnd hC
  have hFc := va_free (wc := wc) hD hS hA isC hC
  refine va_callv (rest := rest) (va_runS (As := As) (rest := rest) S hM cw ⟨kPw_blind, fun U hU hW => ⟨rfl, by rw [hU], by rw [hU]; exact hPc, hK.warm hW, hDc.weaken (fun _ _ _ _ => trivial)⟩⟩ rfl hn hsize rfl (lv_room hW) hdg hf) hS (fun q _ h => hFc q h) hFc (fun u t H1 locs1 ht hvm hw hB hz1 hk1 hS1 => ?_)
  have hB : va_P D vwCl w1 t.heap := hB
  rw [ht] at hB
  obtain ⟨h1, h2⟩ := kJoin hP hD isC hC hadr hk1 hB
  exact kk H1 locs1 h1 h2 hS1
end kCalls
