-- pure rows: numbers, loops (printed out of wip/whole/pure by mk.py)
theorem li_0 : (0 : Int32) = nI 0 := id rfl
theorem li_1 : (1 : Int32) = nI 1 := id rfl
theorem li_2 : (2 : Int32) = nI 2 := id rfl
theorem li_3 : (3 : Int32) = nI 3 := id rfl
theorem li_4 : (4 : Int32) = nI 4 := id rfl
theorem li_5 : (5 : Int32) = nI 5 := id rfl
theorem li_6 : (6 : Int32) = nI 6 := id rfl
theorem li_7 : (7 : Int32) = nI 7 := id rfl
theorem li_8 : (8 : Int32) = nI 8 := id rfl
theorem li_9 : (9 : Int32) = nI 9 := id rfl
theorem li_10 : (10 : Int32) = nI 10 := id rfl
theorem li_11 : (11 : Int32) = nI 11 := id rfl
theorem li_12 : (12 : Int32) = nI 12 := id rfl
theorem li_13 : (13 : Int32) = nI 13 := id rfl
theorem li_14 : (14 : Int32) = nI 14 := id rfl
theorem li_15 : (15 : Int32) = nI 15 := id rfl
theorem li_16 : (16 : Int32) = nI 16 := id rfl
theorem li_19 : (19 : Int32) = nI 19 := id rfl
theorem li_20 : (20 : Int32) = nI 20 := id rfl
theorem li_21 : (21 : Int32) = nI 21 := id rfl
theorem li_22 : (22 : Int32) = nI 22 := id rfl
theorem li_23 : (23 : Int32) = nI 23 := id rfl
theorem li_32 : (32 : Int32) = nI 32 := id rfl
theorem li_36 : (36 : Int32) = nI 36 := id rfl
theorem li_48 : (48 : Int32) = nI 48 := id rfl
theorem li_50 : (50 : Int32) = nI 50 := id rfl
theorem li_60 : (60 : Int32) = nI 60 := id rfl
theorem li_63 : (63 : Int32) = nI 63 := id rfl
theorem li_74 : (74 : Int32) = nI 74 := id rfl
theorem li_75 : (75 : Int32) = nI 75 := id rfl
theorem li_98 : (98 : Int32) = nI 98 := id rfl
theorem li_99 : (99 : Int32) = nI 99 := id rfl
theorem li_100 : (100 : Int32) = nI 100 := id rfl
theorem li_199 : (199 : Int32) = nI 199 := id rfl
theorem li_200 : (200 : Int32) = nI 200 := id rfl
theorem li_256 : (256 : Int32) = nI 256 := id rfl
theorem li_7919 : (7919 : Int32) = nI 7919 := id rfl
theorem li_65537 : (65537 : Int32) = nI 65537 := id rfl
theorem li_1000000 : (1000000 : Int32) = nI 1000000 := id rfl
theorem li_1000001 : (1000001 : Int32) = nI 1000001 := id rfl
theorem li_10000000 : (10000000 : Int32) = nI 10000000 := id rfl
theorem ll_0 : (0 : Int64) = lN 0 := id rfl
theorem ll_1 : (1 : Int64) = lN 1 := id rfl
theorem ll_100 : (100 : Int64) = lN 100 := id rfl
theorem ll_65535 : (65535 : Int64) = lN 65535 := id rfl
theorem for2L {A1 R : Type} {b : (A1 → Int32 → Option R) → A1 → Int32 → Option R} (ix : Nat → Int32) (N : Nat) (I : Nat → A1 → Prop) (X : A1 → Option R) (hs : ∀ (rec : A1 → Int32 → Option R) (x1 : A1) (j : Nat), j < N → I j x1 → ∃ (y1 : A1), I (j + 1) y1 ∧ b rec x1 (ix j) = rec y1 (ix (j + 1))) (he : ∀ (rec : A1 → Int32 → Option R) (x1 : A1), I N x1 → b rec x1 (ix N) = X x1) (j0 : Nat) (hj0 : j0 ≤ N) (n : Nat) (hn : N < n + j0) (x1 : A1) (h0 : I j0 x1) : ∃ (y1 : A1), I N y1 ∧ am_loop2 b n x1 (ix j0) = X y1 := by
  have key : ∀ (d j n : Nat), j + d = N → d < n → ∀ (x1 : A1), I j x1 → ∃ (y1 : A1), I N y1 ∧ am_loop2 b n x1 (ix j) = X y1 := by
    intro d
    induction d with
    | zero =>
      intro j n hj hn x1 hI
      obtain ⟨n, rfl⟩ : ∃ m, n = m + 1 := ⟨n - 1, by omega⟩
      have : j = N := by omega
      subst this
      exact ⟨x1, hI, he _ x1 hI⟩
    | succ d ih =>
      intro j n hj hn x1 hI
      obtain ⟨n, rfl⟩ : ∃ m, n = m + 1 := ⟨n - 1, by omega⟩
      obtain ⟨y1, h1, h2⟩ := hs (am_loop2 b n) x1 j (by omega) hI
      obtain ⟨z1, h3, h4⟩ := ih (j + 1) n (by omega) (by omega) y1 h1
      exact ⟨z1, h3, h2.trans h4⟩
  exact key (N - j0) j0 n (by omega) (by omega) x1 h0
theorem for2F {A2 R : Type} {b : (Int32 → A2 → Option R) → Int32 → A2 → Option R} (ix : Nat → Int32) (N : Nat) (I : Nat → A2 → Prop) (X : A2 → Option R) (hs : ∀ (rec : Int32 → A2 → Option R) (x2 : A2) (j : Nat), j < N → I j x2 → ∃ (y2 : A2), I (j + 1) y2 ∧ b rec (ix j) x2 = rec (ix (j + 1)) y2) (he : ∀ (rec : Int32 → A2 → Option R) (x2 : A2), I N x2 → b rec (ix N) x2 = X x2) (j0 : Nat) (hj0 : j0 ≤ N) (n : Nat) (hn : N < n + j0) (x2 : A2) (h0 : I j0 x2) : ∃ (y2 : A2), I N y2 ∧ am_loop2 b n (ix j0) x2 = X y2 := by
  have key : ∀ (d j n : Nat), j + d = N → d < n → ∀ (x2 : A2), I j x2 → ∃ (y2 : A2), I N y2 ∧ am_loop2 b n (ix j) x2 = X y2 := by
    intro d
    induction d with
    | zero =>
      intro j n hj hn x2 hI
      obtain ⟨n, rfl⟩ : ∃ m, n = m + 1 := ⟨n - 1, by omega⟩
      have : j = N := by omega
      subst this
      exact ⟨x2, hI, he _ x2 hI⟩
    | succ d ih =>
      intro j n hj hn x2 hI
      obtain ⟨n, rfl⟩ : ∃ m, n = m + 1 := ⟨n - 1, by omega⟩
      obtain ⟨y2, h1, h2⟩ := hs (am_loop2 b n) x2 j (by omega) hI
      obtain ⟨z2, h3, h4⟩ := ih (j + 1) n (by omega) (by omega) y2 h1
      exact ⟨z2, h3, h2.trans h4⟩
  exact key (N - j0) j0 n (by omega) (by omega) x2 h0
theorem for3F {A2 A3 R : Type} {b : (Int32 → A2 → A3 → Option R) → Int32 → A2 → A3 → Option R} (ix : Nat → Int32) (N : Nat) (I : Nat → A2 → A3 → Prop) (X : A2 → A3 → Option R) (hs : ∀ (rec : Int32 → A2 → A3 → Option R) (x2 : A2) (x3 : A3) (j : Nat), j < N → I j x2 x3 → ∃ (y2 : A2) (y3 : A3), I (j + 1) y2 y3 ∧ b rec (ix j) x2 x3 = rec (ix (j + 1)) y2 y3) (he : ∀ (rec : Int32 → A2 → A3 → Option R) (x2 : A2) (x3 : A3), I N x2 x3 → b rec (ix N) x2 x3 = X x2 x3) (j0 : Nat) (hj0 : j0 ≤ N) (n : Nat) (hn : N < n + j0) (x2 : A2) (x3 : A3) (h0 : I j0 x2 x3) : ∃ (y2 : A2) (y3 : A3), I N y2 y3 ∧ am_loop3 b n (ix j0) x2 x3 = X y2 y3 := by
  have key : ∀ (d j n : Nat), j + d = N → d < n → ∀ (x2 : A2) (x3 : A3), I j x2 x3 → ∃ (y2 : A2) (y3 : A3), I N y2 y3 ∧ am_loop3 b n (ix j) x2 x3 = X y2 y3 := by
    intro d
    induction d with
    | zero =>
      intro j n hj hn x2 x3 hI
      obtain ⟨n, rfl⟩ : ∃ m, n = m + 1 := ⟨n - 1, by omega⟩
      have : j = N := by omega
      subst this
      exact ⟨x2, x3, hI, he _ x2 x3 hI⟩
    | succ d ih =>
      intro j n hj hn x2 x3 hI
      obtain ⟨n, rfl⟩ : ∃ m, n = m + 1 := ⟨n - 1, by omega⟩
      obtain ⟨y2, y3, h1, h2⟩ := hs (am_loop3 b n) x2 x3 j (by omega) hI
      obtain ⟨z2, z3, h3, h4⟩ := ih (j + 1) n (by omega) (by omega) y2 y3 h1
      exact ⟨z2, z3, h3, h2.trans h4⟩
  exact key (N - j0) j0 n (by omega) (by omega) x2 x3 h0
theorem for3M {A1 A3 R : Type} {b : (A1 → Int32 → A3 → Option R) → A1 → Int32 → A3 → Option R} (ix : Nat → Int32) (N : Nat) (I : Nat → A1 → A3 → Prop) (X : A1 → A3 → Option R) (hs : ∀ (rec : A1 → Int32 → A3 → Option R) (x1 : A1) (x3 : A3) (j : Nat), j < N → I j x1 x3 → ∃ (y1 : A1) (y3 : A3), I (j + 1) y1 y3 ∧ b rec x1 (ix j) x3 = rec y1 (ix (j + 1)) y3) (he : ∀ (rec : A1 → Int32 → A3 → Option R) (x1 : A1) (x3 : A3), I N x1 x3 → b rec x1 (ix N) x3 = X x1 x3) (j0 : Nat) (hj0 : j0 ≤ N) (n : Nat) (hn : N < n + j0) (x1 : A1) (x3 : A3) (h0 : I j0 x1 x3) : ∃ (y1 : A1) (y3 : A3), I N y1 y3 ∧ am_loop3 b n x1 (ix j0) x3 = X y1 y3 := by
  have key : ∀ (d j n : Nat), j + d = N → d < n → ∀ (x1 : A1) (x3 : A3), I j x1 x3 → ∃ (y1 : A1) (y3 : A3), I N y1 y3 ∧ am_loop3 b n x1 (ix j) x3 = X y1 y3 := by
    intro d
    induction d with
    | zero =>
      intro j n hj hn x1 x3 hI
      obtain ⟨n, rfl⟩ : ∃ m, n = m + 1 := ⟨n - 1, by omega⟩
      have : j = N := by omega
      subst this
      exact ⟨x1, x3, hI, he _ x1 x3 hI⟩
    | succ d ih =>
      intro j n hj hn x1 x3 hI
      obtain ⟨n, rfl⟩ : ∃ m, n = m + 1 := ⟨n - 1, by omega⟩
      obtain ⟨y1, y3, h1, h2⟩ := hs (am_loop3 b n) x1 x3 j (by omega) hI
      obtain ⟨z1, z3, h3, h4⟩ := ih (j + 1) n (by omega) (by omega) y1 y3 h1
      exact ⟨z1, z3, h3, h2.trans h4⟩
  exact key (N - j0) j0 n (by omega) (by omega) x1 x3 h0
theorem for3L {A1 A2 R : Type} {b : (A1 → A2 → Int32 → Option R) → A1 → A2 → Int32 → Option R} (ix : Nat → Int32) (N : Nat) (I : Nat → A1 → A2 → Prop) (X : A1 → A2 → Option R) (hs : ∀ (rec : A1 → A2 → Int32 → Option R) (x1 : A1) (x2 : A2) (j : Nat), j < N → I j x1 x2 → ∃ (y1 : A1) (y2 : A2), I (j + 1) y1 y2 ∧ b rec x1 x2 (ix j) = rec y1 y2 (ix (j + 1))) (he : ∀ (rec : A1 → A2 → Int32 → Option R) (x1 : A1) (x2 : A2), I N x1 x2 → b rec x1 x2 (ix N) = X x1 x2) (j0 : Nat) (hj0 : j0 ≤ N) (n : Nat) (hn : N < n + j0) (x1 : A1) (x2 : A2) (h0 : I j0 x1 x2) : ∃ (y1 : A1) (y2 : A2), I N y1 y2 ∧ am_loop3 b n x1 x2 (ix j0) = X y1 y2 := by
  have key : ∀ (d j n : Nat), j + d = N → d < n → ∀ (x1 : A1) (x2 : A2), I j x1 x2 → ∃ (y1 : A1) (y2 : A2), I N y1 y2 ∧ am_loop3 b n x1 x2 (ix j) = X y1 y2 := by
    intro d
    induction d with
    | zero =>
      intro j n hj hn x1 x2 hI
      obtain ⟨n, rfl⟩ : ∃ m, n = m + 1 := ⟨n - 1, by omega⟩
      have : j = N := by omega
      subst this
      exact ⟨x1, x2, hI, he _ x1 x2 hI⟩
    | succ d ih =>
      intro j n hj hn x1 x2 hI
      obtain ⟨n, rfl⟩ : ∃ m, n = m + 1 := ⟨n - 1, by omega⟩
      obtain ⟨y1, y2, h1, h2⟩ := hs (am_loop3 b n) x1 x2 j (by omega) hI
      obtain ⟨z1, z2, h3, h4⟩ := ih (j + 1) n (by omega) (by omega) y1 y2 h1
      exact ⟨z1, z2, h3, h2.trans h4⟩
  exact key (N - j0) j0 n (by omega) (by omega) x1 x2 h0
theorem for4F {A2 A3 A4 R : Type} {b : (Int32 → A2 → A3 → A4 → Option R) → Int32 → A2 → A3 → A4 → Option R} (ix : Nat → Int32) (N : Nat) (I : Nat → A2 → A3 → A4 → Prop) (X : A2 → A3 → A4 → Option R) (hs : ∀ (rec : Int32 → A2 → A3 → A4 → Option R) (x2 : A2) (x3 : A3) (x4 : A4) (j : Nat), j < N → I j x2 x3 x4 → ∃ (y2 : A2) (y3 : A3) (y4 : A4), I (j + 1) y2 y3 y4 ∧ b rec (ix j) x2 x3 x4 = rec (ix (j + 1)) y2 y3 y4) (he : ∀ (rec : Int32 → A2 → A3 → A4 → Option R) (x2 : A2) (x3 : A3) (x4 : A4), I N x2 x3 x4 → b rec (ix N) x2 x3 x4 = X x2 x3 x4) (j0 : Nat) (hj0 : j0 ≤ N) (n : Nat) (hn : N < n + j0) (x2 : A2) (x3 : A3) (x4 : A4) (h0 : I j0 x2 x3 x4) : ∃ (y2 : A2) (y3 : A3) (y4 : A4), I N y2 y3 y4 ∧ am_loop4 b n (ix j0) x2 x3 x4 = X y2 y3 y4 := by
  have key : ∀ (d j n : Nat), j + d = N → d < n → ∀ (x2 : A2) (x3 : A3) (x4 : A4), I j x2 x3 x4 → ∃ (y2 : A2) (y3 : A3) (y4 : A4), I N y2 y3 y4 ∧ am_loop4 b n (ix j) x2 x3 x4 = X y2 y3 y4 := by
    intro d
    induction d with
    | zero =>
      intro j n hj hn x2 x3 x4 hI
      obtain ⟨n, rfl⟩ : ∃ m, n = m + 1 := ⟨n - 1, by omega⟩
      have : j = N := by omega
      subst this
      exact ⟨x2, x3, x4, hI, he _ x2 x3 x4 hI⟩
    | succ d ih =>
      intro j n hj hn x2 x3 x4 hI
      obtain ⟨n, rfl⟩ : ∃ m, n = m + 1 := ⟨n - 1, by omega⟩
      obtain ⟨y2, y3, y4, h1, h2⟩ := hs (am_loop4 b n) x2 x3 x4 j (by omega) hI
      obtain ⟨z2, z3, z4, h3, h4⟩ := ih (j + 1) n (by omega) (by omega) y2 y3 y4 h1
      exact ⟨z2, z3, z4, h3, h2.trans h4⟩
  exact key (N - j0) j0 n (by omega) (by omega) x2 x3 x4 h0
theorem for4M {A1 A3 A4 R : Type} {b : (A1 → Int32 → A3 → A4 → Option R) → A1 → Int32 → A3 → A4 → Option R} (ix : Nat → Int32) (N : Nat) (I : Nat → A1 → A3 → A4 → Prop) (X : A1 → A3 → A4 → Option R) (hs : ∀ (rec : A1 → Int32 → A3 → A4 → Option R) (x1 : A1) (x3 : A3) (x4 : A4) (j : Nat), j < N → I j x1 x3 x4 → ∃ (y1 : A1) (y3 : A3) (y4 : A4), I (j + 1) y1 y3 y4 ∧ b rec x1 (ix j) x3 x4 = rec y1 (ix (j + 1)) y3 y4) (he : ∀ (rec : A1 → Int32 → A3 → A4 → Option R) (x1 : A1) (x3 : A3) (x4 : A4), I N x1 x3 x4 → b rec x1 (ix N) x3 x4 = X x1 x3 x4) (j0 : Nat) (hj0 : j0 ≤ N) (n : Nat) (hn : N < n + j0) (x1 : A1) (x3 : A3) (x4 : A4) (h0 : I j0 x1 x3 x4) : ∃ (y1 : A1) (y3 : A3) (y4 : A4), I N y1 y3 y4 ∧ am_loop4 b n x1 (ix j0) x3 x4 = X y1 y3 y4 := by
  have key : ∀ (d j n : Nat), j + d = N → d < n → ∀ (x1 : A1) (x3 : A3) (x4 : A4), I j x1 x3 x4 → ∃ (y1 : A1) (y3 : A3) (y4 : A4), I N y1 y3 y4 ∧ am_loop4 b n x1 (ix j) x3 x4 = X y1 y3 y4 := by
    intro d
    induction d with
    | zero =>
      intro j n hj hn x1 x3 x4 hI
      obtain ⟨n, rfl⟩ : ∃ m, n = m + 1 := ⟨n - 1, by omega⟩
      have : j = N := by omega
      subst this
      exact ⟨x1, x3, x4, hI, he _ x1 x3 x4 hI⟩
    | succ d ih =>
      intro j n hj hn x1 x3 x4 hI
      obtain ⟨n, rfl⟩ : ∃ m, n = m + 1 := ⟨n - 1, by omega⟩
      obtain ⟨y1, y3, y4, h1, h2⟩ := hs (am_loop4 b n) x1 x3 x4 j (by omega) hI
      obtain ⟨z1, z3, z4, h3, h4⟩ := ih (j + 1) n (by omega) (by omega) y1 y3 y4 h1
      exact ⟨z1, z3, z4, h3, h2.trans h4⟩
  exact key (N - j0) j0 n (by omega) (by omega) x1 x3 x4 h0
theorem am_in_n {R : Type} {a n : Nat} {k : Option R} (h : a < n) (hn : n < 2147483648) : am_in (nI a) n k = k := by
  unfold am_in
  rw [if_neg (nI_in h hn)]
theorem am_nz_n {R : Type} {a : Nat} {k : Option R} (h : 0 < a) (hn : a < 2147483648) : am_nz (nI a) k = k := by
  unfold am_nz
  rw [if_neg (nI_ne0 h hn)]
theorem sI_le {a b : Nat} (ha : a < 2147483648) (hb : b < 2147483648) : (nI a ≤ nI b) = (a ≤ b) := propext (nI_leI ha hb)
theorem sI_lt {a b : Nat} (ha : a < 2147483648) (hb : b < 2147483648) : (nI a < nI b) = (a < b) := propext (nI_ltI ha hb)
theorem sI_eq {a b : Nat} (ha : a < 2147483648) (hb : b < 2147483648) : (nI a = nI b) = (a = b) := propext (nI_eq ha hb)
theorem sI_add (a b : Nat) : nI a + nI b = nI (a + b) := nI_add a b
theorem sI_mul (a b : Nat) : nI a * nI b = nI (a * b) := pk_mul a b
theorem sI_sub {a b : Nat} (h : b ≤ a) : nI a - nI b = nI (a - b) := pk_sub h
theorem sI_cl {n : Nat} (h : n < 2147483648) : (nI n).toNatClampNeg = n := nI_clamp h
theorem sI_l {n : Nat} (h : n < 2147483648) : (nI n).toInt64 = lN n := nI_l h
theorem sI_rem {a d : Nat} (ha : a < 2147483648) (h0 : 0 < d) (hd : d < 2147483648) : nI a - nI a / nI d * nI d = nI (a % d) := pk_rem ha h0 hd
theorem sI_div {a d : Nat} (ha : a < 2147483648) (h0 : 0 < d) (hd : d < 2147483648) : nI a / nI d = nI (a / d) := pk_div ha h0 hd
theorem sL_rem {a d : Nat} (ha : a < 9223372036854775808) (h0 : 0 < d) (hd : d < 9223372036854775808) : lN a - lN a / lN d * lN d = lN (a % d) := pk_lRem ha h0 hd
theorem sL_div {a d : Nat} (ha : a < 9223372036854775808) (h0 : 0 < d) (hd : d < 9223372036854775808) : lN a / lN d = lN (a / d) := pk_lDiv ha h0 hd
theorem sI_rem2 (a d : Nat) : nI a - nI (a / d * d) = nI (a % d) := by
  rw [pk_sub (Nat.div_mul_le_self a d)]
  congr 1
  have := Nat.div_add_mod a d
  rw [Nat.mul_comm] at this
  omega
theorem sL_rem2 (a d : Nat) : lN a - lN (a / d * d) = lN (a % d) := by
  rw [lN_sub (Nat.div_mul_le_self a d)]
  congr 1
  have := Nat.div_add_mod a d
  rw [Nat.mul_comm] at this
  omega
theorem sI_m1 {a : Nat} (h : 0 < a) : nI a + (-1) = nI (a - 1) := by
  obtain ⟨n, rfl⟩ : ∃ n, a = n + 1 := ⟨a - 1, by omega⟩
  exact pk_m1 n
theorem sI_m1n {a : Nat} (h : 0 < a) : nI a + -nI 1 = nI (a - 1) := sI_m1 h
theorem sI_or (a b : Nat) : nI a ||| nI b = nI (a ||| b) := by
  apply Int32.toBitVec_inj.mp
  show BitVec.ofNat 32 a ||| BitVec.ofNat 32 b = BitVec.ofNat 32 (a ||| b)
  rw [BitVec.ofNat_or]
theorem sL_lt {a b : Nat} (ha : a < 9223372036854775808) (hb : b < 9223372036854775808) : (lN a < lN b) = (a < b) := propext (pk_lLT ha hb)
theorem sL_eq {a b : Nat} (ha : a < 9223372036854775808) (hb : b < 9223372036854775808) : (lN a = lN b) = (a = b) := propext (pk_lEQ ha hb)
theorem am_nzl_n {R : Type} {a : Nat} {k : Option R} (h : 0 < a) (hn : a < 9223372036854775808) : am_nzl (lN a) k = k := by
  unfold am_nzl
  have e : ¬ lN a = 0 := by
    rw [ll_0, sL_eq hn (by omega)]
    omega
  rw [if_neg e]
theorem sg_gt {a b : Nat} (ha : a < 9223372036854775808) (hb : b < 9223372036854775808) : (nI 0 < lg_cmp (lN a) (lN b)) = (b < a) := by
  unfold lg_cmp
  simp only [gt_iff_lt, sL_lt hb ha, sL_eq ha hb]
  by_cases h : b < a
  · simp only [h, if_true]; decide
  · by_cases h2 : a = b
    · simp only [h2, if_true, Nat.lt_irrefl, if_false]; decide
    · simp only [h, h2, if_false]; decide
theorem sg_le {a b : Nat} (ha : a < 9223372036854775808) (hb : b < 9223372036854775808) : (lg_cmp (lN a) (lN b) ≤ nI 0) = (a ≤ b) := by
  unfold lg_cmp
  simp only [gt_iff_lt, sL_lt hb ha, sL_eq ha hb]
  by_cases h : b < a
  · have h3 : ¬ a ≤ b := by omega
    simp only [h, h3, if_true]; decide
  · have h3 : a ≤ b := by omega
    by_cases h2 : a = b
    · simp only [h2, if_true, Nat.lt_irrefl, if_false, Nat.le_refl]; decide
    · simp only [h, h2, h3, if_false]; decide
theorem sg_eq {a b : Nat} (ha : a < 9223372036854775808) (hb : b < 9223372036854775808) : (lg_cmp (lN a) (lN b) = nI 0) = (a = b) := by
  unfold lg_cmp
  simp only [gt_iff_lt, sL_lt hb ha, sL_eq ha hb]
  by_cases h : b < a
  · have h3 : ¬ a = b := by omega
    simp only [h, h3, if_true]; decide
  · by_cases h2 : a = b
    · simp only [h2, if_true, Nat.lt_irrefl, if_false]; decide
    · simp only [h, h2, if_false]; decide
theorem sg_ge {a b : Nat} (ha : a < 9223372036854775808) (hb : b < 9223372036854775808) : (nI 0 ≤ lg_cmp (lN a) (lN b)) = (b ≤ a) := by
  unfold lg_cmp
  simp only [gt_iff_lt, sL_lt hb ha, sL_eq ha hb]
  by_cases h : b < a
  · have h3 : b ≤ a := by omega
    simp only [h, h3, if_true]; decide
  · by_cases h2 : a = b
    · simp only [h2, if_true, Nat.lt_irrefl, if_false, Nat.le_refl]; decide
    · have h3 : ¬ b ≤ a := by omega
      simp only [h, h2, h3, if_false]; decide
theorem for1 {R : Type} {b : (Int32 → Option R) → Int32 → Option R} (ix : Nat → Int32) (N : Nat) (X : Option R) (hs : ∀ (rec : Int32 → Option R) (j : Nat), j < N → b rec (ix j) = rec (ix (j + 1))) (he : ∀ rec : Int32 → Option R, b rec (ix N) = X) (j0 : Nat) (hj0 : j0 ≤ N) (n : Nat) (hn : N < n + j0) : am_loop1 b n (ix j0) = X := by
  have key : ∀ (d j n : Nat), j + d = N → d < n → am_loop1 b n (ix j) = X := by
    intro d
    induction d with
    | zero =>
      intro j n hj hn
      obtain ⟨n, rfl⟩ : ∃ m, n = m + 1 := ⟨n - 1, by omega⟩
      have : j = N := by omega
      subst this
      exact he _
    | succ d ih =>
      intro j n hj hn
      obtain ⟨n, rfl⟩ : ∃ m, n = m + 1 := ⟨n - 1, by omega⟩
      exact (hs (am_loop1 b n) j (by omega)).trans (ih (j + 1) n (by omega) (by omega))
  exact key (N - j0) j0 n (by omega) (by omega)
-- a value between two numbers
theorem rng {v : Int32} {a b : Nat} (ha : a < 2147483648) (hb : b < 2147483648) (h1 : nI a ≤ v) (h2 : v ≤ nI b) : ∃ j : Nat, a ≤ j ∧ j ≤ b ∧ v = nI j := by
  have e1 : (nI a).toInt ≤ v.toInt := Int32.le_iff_toInt_le.mp h1
  have e2 : v.toInt ≤ (nI b).toInt := Int32.le_iff_toInt_le.mp h2
  rw [nI_toInt ha] at e1
  rw [nI_toInt hb] at e2
  obtain ⟨j, hj⟩ : ∃ j : Nat, v.toInt = (j : Int) := ⟨v.toInt.toNat, by omega⟩
  refine ⟨j, by omega, by omega, Int32.toInt_inj.mp ?_⟩
  rw [hj, nI_toInt (by omega)]
theorem half_rem {a b : Nat} (h : 0 < b) (hr : 0 < a % b) : 2 * (b % (a % b)) < b := by
  have h1 : a % b < b := Nat.mod_lt _ h
  have h2 : b % (a % b) < a % b := Nat.mod_lt _ hr
  have h3 := Nat.div_add_mod b (a % b)
  have h4 : 1 ≤ b / (a % b) := (Nat.le_div_iff_mul_le hr).mpr (by omega)
  have h5 : a % b * 1 ≤ a % b * (b / (a % b)) := Nat.mul_le_mul_left _ h4
  omega
-- sums and their like over the first numbers
def sumN (w : Nat → Nat) : Nat → Nat
  | 0 => 0
  | n + 1 => sumN w n + w n
def gcdN (w : Nat → Nat) : Nat → Nat
  | 0 => 0
  | n + 1 => Nat.gcd (gcdN w n) (w n)
def maxN (w : Nat → Nat) : Nat → Nat
  | 0 => 0
  | n + 1 => max (maxN w n) (w n)
def cntN (p : Nat → Bool) : Nat → Nat
  | 0 => 0
  | n + 1 => cntN p n + (if p n then 1 else 0)
theorem sumN_le {w : Nat → Nat} {M : Nat} : ∀ n, (∀ k, k < n → w k ≤ M) → sumN w n ≤ n * M
  | 0, _ => Nat.zero_le _
  | n + 1, h => by
    have h1 := sumN_le n (fun k hk => h k (by omega))
    have h2 := h n (by omega)
    show sumN w n + w n ≤ (n + 1) * M
    rw [Nat.succ_mul]
    omega
theorem sumN_congr {w v : Nat → Nat} : ∀ n, (∀ k, k < n → w k = v k) → sumN w n = sumN v n
  | 0, _ => rfl
  | n + 1, h => by
    show sumN w n + w n = sumN v n + v n
    rw [sumN_congr n (fun k hk => h k (by omega)), h n (by omega)]
theorem sumN_mono {w : Nat → Nat} {m n : Nat} (h : m ≤ n) : sumN w m ≤ sumN w n := by
  induction n with
  | zero => have : m = 0 := by omega
            subst this; exact Nat.le_refl _
  | succ n ih =>
    by_cases h1 : m = n + 1
    · subst h1; exact Nat.le_refl _
    · have := ih (by omega)
      show _ ≤ sumN w n + w n
      omega
theorem gcdN_congr {w v : Nat → Nat} : ∀ n, (∀ k, k < n → w k = v k) → gcdN w n = gcdN v n
  | 0, _ => rfl
  | n + 1, h => by
    show Nat.gcd (gcdN w n) (w n) = Nat.gcd (gcdN v n) (v n)
    rw [gcdN_congr n (fun k hk => h k (by omega)), h n (by omega)]
theorem maxN_congr {w v : Nat → Nat} : ∀ n, (∀ k, k < n → w k = v k) → maxN w n = maxN v n
  | 0, _ => rfl
  | n + 1, h => by
    show max (maxN w n) (w n) = max (maxN v n) (v n)
    rw [maxN_congr n (fun k hk => h k (by omega)), h n (by omega)]
theorem maxN_le {w : Nat → Nat} {M : Nat} : ∀ n, (∀ k, k < n → w k ≤ M) → maxN w n ≤ M
  | 0, _ => Nat.zero_le _
  | n + 1, h => by
    have h1 := maxN_le n (fun k hk => h k (by omega))
    have h2 := h n (by omega)
    show max (maxN w n) (w n) ≤ M
    omega
theorem le_maxN {w : Nat → Nat} : ∀ n k, k < n → w k ≤ maxN w n
  | 0, k, h => absurd h (Nat.not_lt_zero k)
  | n + 1, k, h => by
    show w k ≤ max (maxN w n) (w n)
    by_cases h1 : k = n
    · subst h1; omega
    · have := le_maxN (w := w) n k (by omega)
      omega
theorem gcdN_dvd {w : Nat → Nat} : ∀ n k, k < n → gcdN w n ∣ w k
  | 0, k, h => absurd h (Nat.not_lt_zero k)
  | n + 1, k, h => by
    by_cases h1 : k = n
    · subst h1; exact Nat.gcd_dvd_right _ _
    · exact Nat.dvd_trans (Nat.gcd_dvd_left _ _) (gcdN_dvd n k (by omega))
theorem gcdN_0 {w : Nat → Nat} : ∀ n, gcdN w n = 0 ↔ ∀ k, k < n → w k = 0
  | 0 => ⟨fun _ k h => absurd h (Nat.not_lt_zero k), fun _ => rfl⟩
  | n + 1 => by
    show Nat.gcd (gcdN w n) (w n) = 0 ↔ _
    rw [Nat.gcd_eq_zero_iff, gcdN_0 n]
    constructor
    · rintro ⟨h1, h2⟩ k hk
      by_cases h : k = n
      · subst h; exact h2
      · exact h1 k (by omega)
    · intro h
      exact ⟨fun k hk => h k (by omega), h n (by omega)⟩
theorem sumN_0 {w : Nat → Nat} : ∀ n, sumN w n = 0 ↔ ∀ k, k < n → w k = 0
  | 0 => ⟨fun _ k h => absurd h (Nat.not_lt_zero k), fun _ => rfl⟩
  | n + 1 => by
    show sumN w n + w n = 0 ↔ _
    rw [Nat.add_eq_zero_iff, sumN_0 n]
    constructor
    · rintro ⟨h1, h2⟩ k hk
      by_cases h : k = n
      · subst h; exact h2
      · exact h1 k (by omega)
    · intro h
      exact ⟨fun k hk => h k (by omega), h n (by omega)⟩
theorem gcdN_le {w : Nat → Nat} {n k : Nat} (hk : k < n) (h : 0 < w k) : gcdN w n ≤ w k := Nat.le_of_dvd h (gcdN_dvd n k hk)
theorem cntN_le {p : Nat → Bool} : ∀ n, cntN p n ≤ n
  | 0 => Nat.le_refl _
  | n + 1 => by
    have := cntN_le (p := p) n
    show cntN p n + (if p n then 1 else 0) ≤ n + 1
    split <;> omega

