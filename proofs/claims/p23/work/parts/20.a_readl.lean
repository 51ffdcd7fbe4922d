-- readings of the law's own methods, printed by wip/p23/gen23.py
abbrev zI : Nat → Int32 := fun _ => 0
noncomputable def F_L_low (p0 : Int32) (p1 : Int32) : Option (Int32) :=
  am_nz p1 (some ((p0 &&& (2147483647 : Int32)) - (p0 &&& (2147483647 : Int32)) / p1 * p1))
noncomputable def F_L_of (yc : Nat → Int64) (p1 : Int32) (p2 : Int32) : Option (Int32) :=
  am_in (((3 : Int32) * p1) + (p2 / (4 : Int32))) 60 (some (((yc (((3 : Int32) * p1) + (p2 / (4 : Int32))).toNatClampNeg) >>> (((16 : Int32) * (p2 - p2 / (4 : Int32) * (4 : Int32))).toInt64 &&& 63)) &&& (65535 : Int64)).toInt32)
noncomputable def F_L_put (yc : Nat → Int64) (p1 : Int32) (p2 : Int32) (p3 : Int32) (p4 : Int32) : Option ((Nat → Int64)) :=
  am_let (((3 : Int32) * p1) + (p2 / (4 : Int32))) fun (x1 : Int32) =>
  am_in x1 60 (am_in x1 60 (am_let (vp_updL yc x1.toNatClampNeg (((yc x1.toNatClampNeg) &&& (((65535 : Int64) <<< (((16 : Int32) * (p2 - p2 / (4 : Int32) * (4 : Int32))).toInt64 &&& 63)) ^^^ (-1 : Int64))) ||| ((p3 + ((256 : Int32) * p4)).toInt64 <<< (((16 : Int32) * (p2 - p2 / (4 : Int32) * (4 : Int32))).toInt64 &&& 63)))) fun (f2 : Nat → Int64) =>
  some f2))
noncomputable def F_L_place (yg : Nat → Int32) (yc : Nat → Int64) (p2 : Int32) : Option (Int32) :=
  (Option.bind (F_L_of yc ((yg (1 : Int32).toNatClampNeg) - (1 : Int32)) p2) fun (r1 : Int32) =>
  some (r1 - r1 / (256 : Int32) * (256 : Int32)))
noncomputable def F_L_begins_B28 (K9 : (Nat → Int32) → (Nat → Int64) → Option ((Nat → Int32) × (Nat → Int32) × (Nat → Int32) × (Nat → Int64))) (p5 : Int32) (p6 : Int32) (p4 : Int32) (rec13 : Int32 → (Nat → Int32) → (Nat → Int64) → Option ((Nat → Int32) × (Nat → Int32) × (Nat → Int32) × (Nat → Int64))) (x10 : Int32) (f11 : Nat → Int32) (f12 : Nat → Int64) : Option ((Nat → Int32) × (Nat → Int32) × (Nat → Int32) × (Nat → Int64)) :=
  (if (12 : Int32) ≤ x10 then
  K9 f11 f12
else
  am_let (fun (j14 : Int32) => am_in x10 12 (am_let (upd f11 x10.toNatClampNeg j14) fun (f16 : Nat → Int32) =>
  (if (99 : Int32) ≤ (p5 + (x10 * p6)) then
  (Option.bind (F_L_put f12 (0 : Int32) x10 (99 : Int32) (15 : Int32)) fun (f17 : Nat → Int64) =>
  am_let (x10 + (1 : Int32)) fun (x18 : Int32) =>
  rec13 x18 f16 f17)
else
  (Option.bind (F_L_put f12 (0 : Int32) x10 (p5 + (x10 * p6)) (15 : Int32)) fun (f19 : Nat → Int64) =>
  am_let (x10 + (1 : Int32)) fun (x20 : Int32) =>
  rec13 x20 f16 f19)))) fun (J15 : Int32 → Option ((Nat → Int32) × (Nat → Int32) × (Nat → Int32) × (Nat → Int64))) =>
  (if p4 ≤ x10 then
  J15 (0 : Int32)
else
  J15 (1 : Int32)))
noncomputable def F_L_begins (yg : Nat → Int32) (yw : Nat → Int32) (yq : Nat → Int32) (yc : Nat → Int64) (p4 : Int32) (p5 : Int32) (p6 : Int32) : Option ((Nat → Int32) × (Nat → Int32) × (Nat → Int32) × (Nat → Int64)) :=
  am_let (upd yg (0 : Int32).toNatClampNeg p4) fun (f1 : Nat → Int32) =>
  am_let (upd f1 (1 : Int32).toNatClampNeg (1 : Int32)) fun (f2 : Nat → Int32) =>
  am_let (upd f2 (2 : Int32).toNatClampNeg (1 : Int32)) fun (f3 : Nat → Int32) =>
  am_let (upd f3 (3 : Int32).toNatClampNeg (0 : Int32)) fun (f4 : Nat → Int32) =>
  am_let (upd f4 (4 : Int32).toNatClampNeg (0 : Int32)) fun (f5 : Nat → Int32) =>
  am_let (upd yq (0 : Int32).toNatClampNeg (0 : Int32)) fun (f6 : Nat → Int32) =>
  am_let (fun (f7 : Nat → Int32) (f8 : Nat → Int64) => some (f5, f7, f6, f8)) fun (K9 : (Nat → Int32) → (Nat → Int64) → Option ((Nat → Int32) × (Nat → Int32) × (Nat → Int32) × (Nat → Int64))) =>
  am_loop3 (F_L_begins_B28 K9 p5 p6 p4) am_fuel (0 : Int32) yw yc
noncomputable def F_L_noise (yg : Nat → Int32) : Option (Int32 × (Nat → Int32)) :=
  am_let (upd yg (2 : Int32).toNatClampNeg ((((75 : Int32) * (yg (2 : Int32).toNatClampNeg)) + (74 : Int32)) - (((75 : Int32) * (yg (2 : Int32).toNatClampNeg)) + (74 : Int32)) / (65537 : Int32) * (65537 : Int32))) fun (f1 : Nat → Int32) =>
  some ((f1 (2 : Int32).toNatClampNeg), f1)
noncomputable def F_L_all_B4 (yg : Nat → Int32) (K2 : Int32 → Option (Int32)) (yw : Nat → Int32) (rec5 : Int32 → Int32 → Option (Int32)) (x3 : Int32) (x4 : Int32) : Option (Int32) :=
  (if (yg (0 : Int32).toNatClampNeg) ≤ x4 then
  K2 x3
else
  am_in x4 12 (am_let (x3 + (yw x4.toNatClampNeg)) fun (x6 : Int32) =>
  am_let (x4 + (1 : Int32)) fun (x7 : Int32) =>
  rec5 x6 x7))
noncomputable def F_L_all (yg : Nat → Int32) (yw : Nat → Int32) : Option (Int32) :=
  am_let (fun (x1 : Int32) => some x1) fun (K2 : Int32 → Option (Int32)) =>
  am_loop2 (F_L_all_B4 yg K2 yw) am_fuel (0 : Int32) (0 : Int32)
noncomputable def F_L_counts_B5 (yg : Nat → Int32) (K2 : Int64 → Option (Int32)) (yw : Nat → Int32) (rec7 : Int64 → Int32 → Option (Int32)) (x5 : Int64) (x6 : Int32) : Option (Int32) :=
  (if (yg (0 : Int32).toNatClampNeg) ≤ x6 then
  K2 x5
else
  am_in x6 12 (am_in x6 12 (am_let (x5 + ((yw x6.toNatClampNeg).toInt64 * (yw x6.toNatClampNeg).toInt64)) fun (x8 : Int64) =>
  am_let (x6 + (1 : Int32)) fun (x9 : Int32) =>
  rec7 x8 x9)))
noncomputable def F_L_counts (yg : Nat → Int32) (yw : Nat → Int32) : Option (Int32) :=
  am_let (fun (x1 : Int64) => (Option.bind (F_L_all yg yw) fun (r3 : Int32) =>
  (Option.bind (F_L_all yg yw) fun (r4 : Int32) =>
  am_nzl x1 (some ((r3.toInt64 * r4.toInt64) / x1).toInt32)))) fun (K2 : Int64 → Option (Int32)) =>
  am_loop2 (F_L_counts_B5 yg K2 yw) am_fuel (0 : Int64) (0 : Int32)
noncomputable def F_L_thins_B51 (yg : Nat → Int32) (K5 : Int32 → (Nat → Int32) → Option (Int32 × (Nat → Int32))) (x1 : Int32) (rec9 : Int32 → Int32 → (Nat → Int32) → Option (Int32 × (Nat → Int32))) (x6 : Int32) (x7 : Int32) (f8 : Nat → Int32) : Option (Int32 × (Nat → Int32)) :=
  (if (yg (0 : Int32).toNatClampNeg) ≤ x7 then
  K5 x6 f8
else
  am_let (fun (j10 : Int32) => am_in x7 12 (am_let (upd f8 x7.toNatClampNeg j10) fun (f12 : Nat → Int32) =>
  am_in x7 12 ((if (f12 x7.toNatClampNeg) ≤ x6 then
  am_let (x7 + (1 : Int32)) fun (x13 : Int32) =>
  rec9 x6 x13 f12
else
  am_in x7 12 (am_let (f12 x7.toNatClampNeg) fun (x14 : Int32) =>
  am_let (x7 + (1 : Int32)) fun (x15 : Int32) =>
  rec9 x14 x15 f12))))) fun (J11 : Int32 → Option (Int32 × (Nat → Int32))) =>
  (if x1 = 0 then
  J11 (0 : Int32)
else
  am_in x7 12 (am_nz x1 (J11 ((f8 x7.toNatClampNeg) / x1)))))
noncomputable def F_L_thins_B21 (K21 : Int32 → Option (Int32 × (Nat → Int32))) (rec25 : Int32 → Int32 → Option (Int32 × (Nat → Int32))) (x23 : Int32) (x24 : Int32) : Option (Int32 × (Nat → Int32)) :=
  (if x24 ≤ 0 then
  K21 x23
else
  am_nz x24 (am_let (x23 - x23 / x24 * x24) fun (x26 : Int32) =>
  rec25 x24 x26))
noncomputable def F_L_thins_B7 (yg : Nat → Int32) (K2 : Int32 → Option (Int32 × (Nat → Int32))) (yw : Nat → Int32) (rec18 : Int32 → Int32 → Option (Int32 × (Nat → Int32))) (x16 : Int32) (x17 : Int32) : Option (Int32 × (Nat → Int32)) :=
  (if (yg (0 : Int32).toNatClampNeg) ≤ x17 then
  K2 x16
else
  am_in x17 12 (am_let (yw x17.toNatClampNeg) fun (x19 : Int32) =>
  am_let (fun (x20 : Int32) => am_let (x17 + (1 : Int32)) fun (x22 : Int32) =>
  rec18 x20 x22) fun (K21 : Int32 → Option (Int32 × (Nat → Int32))) =>
  am_loop2 (F_L_thins_B21 K21) am_fuel x16 x19))
noncomputable def F_L_thins (yg : Nat → Int32) (yw : Nat → Int32) : Option (Int32 × (Nat → Int32)) :=
  am_let (fun (x1 : Int32) => am_let (fun (x3 : Int32) (f4 : Nat → Int32) => some (x3, f4)) fun (K5 : Int32 → (Nat → Int32) → Option (Int32 × (Nat → Int32))) =>
  am_loop3 (F_L_thins_B51 yg K5 x1) am_fuel (0 : Int32) (0 : Int32) yw) fun (K2 : Int32 → Option (Int32 × (Nat → Int32))) =>
  am_loop2 (F_L_thins_B7 yg K2 yw) am_fuel (0 : Int32) (0 : Int32)
noncomputable def F_L_choose_B302 (x18 : Int32) (K21 : Int32 → (Nat → Int32) → Option ((Nat → Int32) × (Nat → Int32))) (x9 : Int32) (rec26 : Int32 → Int32 → (Nat → Int32) → Option ((Nat → Int32) × (Nat → Int32))) (x23 : Int32) (x24 : Int32) (f25 : Nat → Int32) : Option ((Nat → Int32) × (Nat → Int32)) :=
  (if x18 ≤ x24 then
  K21 x23 f25
else
  am_in x23 12 (am_let (upd f25 x23.toNatClampNeg x9) fun (f27 : Nat → Int32) =>
  am_let (x23 + (1 : Int32)) fun (x28 : Int32) =>
  am_let (x24 + (1 : Int32)) fun (x29 : Int32) =>
  rec26 x28 x29 f27))
noncomputable def F_L_choose_B219 (x1 : Int32) (K15 : Int32 → Option ((Nat → Int32) × (Nat → Int32))) (x3 : Int64) (yw : Nat → Int32) (x13 : Int64) (x9 : Int32) (rec32 : Int32 → Int32 → Option ((Nat → Int32) × (Nat → Int32))) (x30 : Int32) (x31 : Int32) : Option ((Nat → Int32) × (Nat → Int32)) :=
  (if x1 ≤ x31 then
  K15 x30
else
  am_in x31 12 (am_nzl x3 (am_let ((x1.toInt64 * (yw x31.toNatClampNeg).toInt64) - (x1.toInt64 * (yw x31.toNatClampNeg).toInt64) / x3 * x3) fun (x33 : Int64) =>
  (if 0 < (lg_cmp x33 x13) then
  am_let (x30 + (1 : Int32)) fun (x34 : Int32) =>
  am_let (x31 + (1 : Int32)) fun (x35 : Int32) =>
  rec32 x34 x35
else
  (if (lg_cmp x33 x13) = 0 then
  (if x9 ≤ x31 then
  am_let (x30 + (0 : Int32)) fun (x38 : Int32) =>
  am_let (x31 + (1 : Int32)) fun (x39 : Int32) =>
  rec32 x38 x39
else
  am_let (x30 + (1 : Int32)) fun (x40 : Int32) =>
  am_let (x31 + (1 : Int32)) fun (x41 : Int32) =>
  rec32 x40 x41)
else
  am_let (x30 + (0 : Int32)) fun (x36 : Int32) =>
  am_let (x31 + (1 : Int32)) fun (x37 : Int32) =>
  rec32 x36 x37)))))
noncomputable def F_L_choose_B177 (x1 : Int32) (K7 : (Nat → Int32) → Option ((Nat → Int32) × (Nat → Int32))) (x3 : Int64) (yw : Nat → Int32) (x4 : Int32) (rec11 : Int32 → Int32 → (Nat → Int32) → Option ((Nat → Int32) × (Nat → Int32))) (x8 : Int32) (x9 : Int32) (f10 : Nat → Int32) : Option ((Nat → Int32) × (Nat → Int32)) :=
  (if x1 ≤ x9 then
  K7 f10
else
  am_in x9 12 (am_nzl x3 (am_let ((x1.toInt64 * (yw x9.toNatClampNeg).toInt64) / x3).toInt32 fun (x12 : Int32) =>
  am_in x9 12 (am_nzl x3 (am_let ((x1.toInt64 * (yw x9.toNatClampNeg).toInt64) - (x1.toInt64 * (yw x9.toNatClampNeg).toInt64) / x3 * x3) fun (x13 : Int64) =>
  am_let (fun (x14 : Int32) => am_let (fun (j16 : Int32) => am_let (x12 + j16) fun (x18 : Int32) =>
  am_let (fun (x19 : Int32) (f20 : Nat → Int32) => am_let (x9 + (1 : Int32)) fun (x22 : Int32) =>
  rec11 x19 x22 f20) fun (K21 : Int32 → (Nat → Int32) → Option ((Nat → Int32) × (Nat → Int32))) =>
  am_loop3 (F_L_choose_B302 x18 K21 x9) am_fuel x8 (0 : Int32) f10) fun (J17 : Int32 → Option ((Nat → Int32) × (Nat → Int32))) =>
  (if (x1 - x4) ≤ x14 then
  J17 (0 : Int32)
else
  J17 (1 : Int32))) fun (K15 : Int32 → Option ((Nat → Int32) × (Nat → Int32))) =>
  am_loop2 (F_L_choose_B219 x1 K15 x3 yw x13 x9) am_fuel (0 : Int32) (0 : Int32))))))
noncomputable def F_L_choose_B143 (x1 : Int32) (K5 : Int32 → Option ((Nat → Int32) × (Nat → Int32))) (x3 : Int64) (yw : Nat → Int32) (rec44 : Int32 → Int32 → Option ((Nat → Int32) × (Nat → Int32))) (x42 : Int32) (x43 : Int32) : Option ((Nat → Int32) × (Nat → Int32)) :=
  (if x1 ≤ x43 then
  K5 x42
else
  am_in x43 12 (am_nzl x3 (am_let (x42 + ((x1.toInt64 * (yw x43.toNatClampNeg).toInt64) / x3).toInt32) fun (x45 : Int32) =>
  am_let (x43 + (1 : Int32)) fun (x46 : Int32) =>
  rec44 x45 x46)))
noncomputable def F_L_choose_B78 (x1 : Int32) (K60 : (Nat → Int32) → Option ((Nat → Int32) × (Nat → Int32))) (x50 : Int32) (yw : Nat → Int32) (x57 : Int64) (rec65 : Int64 → Int32 → (Nat → Int32) → Option ((Nat → Int32) × (Nat → Int32))) (x62 : Int64) (x63 : Int32) (f64 : Nat → Int32) : Option ((Nat → Int32) × (Nat → Int32)) :=
  (if x1 ≤ x63 then
  K60 f64
else
  am_in x50 12 ((if 0 ≤ (f64 x50.toNatClampNeg) then
  K60 f64
else
  am_in x63 12 (am_let (x62 + (yw x63.toNatClampNeg).toInt64) fun (x66 : Int64) =>
  (if (lg_cmp (x66 * x1.toInt64) x57) ≤ 0 then
  am_in x50 12 (am_let (upd f64 x50.toNatClampNeg (-1 : Int32)) fun (f67 : Nat → Int32) =>
  am_let (x63 + (1 : Int32)) fun (x68 : Int32) =>
  rec65 x66 x68 f67)
else
  am_in x50 12 (am_let (upd f64 x50.toNatClampNeg x63) fun (f69 : Nat → Int32) =>
  am_let (x63 + (1 : Int32)) fun (x70 : Int32) =>
  rec65 x66 x70 f69))))))
noncomputable def F_L_choose_B24 (x1 : Int32) (K49 : (Nat → Int32) → (Nat → Int32) → Option ((Nat → Int32) × (Nat → Int32))) (x3 : Int64) (yw : Nat → Int32) (p2 : Int32) (rec53 : Int32 → (Nat → Int32) → (Nat → Int32) → Option ((Nat → Int32) × (Nat → Int32))) (x50 : Int32) (f51 : Nat → Int32) (f52 : Nat → Int32) : Option ((Nat → Int32) × (Nat → Int32)) :=
  (if x1 ≤ x50 then
  K49 f51 f52
else
  am_let (fun (j54 : Int64) (f55 : Nat → Int32) => am_let ((x50.toInt64 * x3) + j54) fun (x57 : Int64) =>
  am_in x50 12 (am_let (upd f52 x50.toNatClampNeg (-1 : Int32)) fun (f58 : Nat → Int32) =>
  am_let (fun (f59 : Nat → Int32) => am_let (x50 + (1 : Int32)) fun (x61 : Int32) =>
  rec53 x61 f55 f59) fun (K60 : (Nat → Int32) → Option ((Nat → Int32) × (Nat → Int32))) =>
  am_loop3 (F_L_choose_B78 x1 K60 x50 yw x57) am_fuel (0 : Int64) (0 : Int32) f58)) fun (J56 : Int64 → (Nat → Int32) → Option ((Nat → Int32) × (Nat → Int32))) =>
  (if p2 = 0 then
  J56 (((f51 (7 : Int32).toNatClampNeg).toInt64 * x3) / (100 : Int64)) f51
else
  (am_call2 (F_L_noise f51) fun (r71 : Int32) (f72 : Nat → Int32) =>
  am_nzl x3 (J56 (r71.toInt64 - r71.toInt64 / x3 * x3) f72))))
noncomputable def F_L_choose (yg : Nat → Int32) (yw : Nat → Int32) (ya : Nat → Int32) (p2 : Int32) : Option ((Nat → Int32) × (Nat → Int32)) :=
  am_let (yg (0 : Int32).toNatClampNeg) fun (x1 : Int32) =>
  (Option.bind (F_L_all yg yw) fun (r2 : Int32) =>
  am_let (r2.toInt64) fun (x3 : Int64) =>
  (if (2 : Int32) ≤ p2 then
  am_let (fun (x4 : Int32) => am_let (fun (f6 : Nat → Int32) => some (yg, f6)) fun (K7 : (Nat → Int32) → Option ((Nat → Int32) × (Nat → Int32))) =>
  am_loop3 (F_L_choose_B177 x1 K7 x3 yw x4) am_fuel (0 : Int32) (0 : Int32) ya) fun (K5 : Int32 → Option ((Nat → Int32) × (Nat → Int32))) =>
  am_loop2 (F_L_choose_B143 x1 K5 x3 yw) am_fuel (0 : Int32) (0 : Int32)
else
  am_let (fun (f47 : Nat → Int32) (f48 : Nat → Int32) => some (f47, f48)) fun (K49 : (Nat → Int32) → (Nat → Int32) → Option ((Nat → Int32) × (Nat → Int32))) =>
  am_loop3 (F_L_choose_B24 x1 K49 x3 yw p2) am_fuel (0 : Int32) yg ya))
noncomputable def F_L_unlike_B17 (p1 : Int32) (K8 : Int32 → Option (Int32)) (x4 : Int32) (ya : Nat → Int32) (rec15 : Int32 → Int32 → Option (Int32)) (x13 : Int32) (x14 : Int32) : Option (Int32) :=
  (if p1 ≤ x14 then
  K8 x13
else
  (if x13 = 0 then
  am_let (x14 + (1 : Int32)) fun (x16 : Int32) =>
  rec15 (0 : Int32) x16
else
  am_in x14 12 (am_in x4 12 ((if (ya x14.toNatClampNeg) = (ya x4.toNatClampNeg) then
  am_let (x14 + (1 : Int32)) fun (x17 : Int32) =>
  rec15 (0 : Int32) x17
else
  am_let (x14 + (1 : Int32)) fun (x18 : Int32) =>
  rec15 (1 : Int32) x18)))))
noncomputable def F_L_unlike_B4 (p1 : Int32) (K2 : Int32 → Option (Int32)) (ya : Nat → Int32) (rec5 : Int32 → Int32 → Option (Int32)) (x3 : Int32) (x4 : Int32) : Option (Int32) :=
  (if p1 ≤ x4 then
  K2 x3
else
  am_let (x4 + (1 : Int32)) fun (x6 : Int32) =>
  am_let (fun (x7 : Int32) => (if x7 = 0 then
  am_let (x3 + (0 : Int32)) fun (x9 : Int32) =>
  am_let (x4 + (1 : Int32)) fun (x10 : Int32) =>
  rec5 x9 x10
else
  am_let (x3 + (1 : Int32)) fun (x11 : Int32) =>
  am_let (x4 + (1 : Int32)) fun (x12 : Int32) =>
  rec5 x11 x12)) fun (K8 : Int32 → Option (Int32)) =>
  am_loop2 (F_L_unlike_B17 p1 K8 x4 ya) am_fuel (1 : Int32) x6)
noncomputable def F_L_unlike (ya : Nat → Int32) (p1 : Int32) : Option (Int32) :=
  am_let (fun (x1 : Int32) => some x1) fun (K2 : Int32 → Option (Int32)) =>
  am_loop2 (F_L_unlike_B4 p1 K2 ya) am_fuel (0 : Int32) (0 : Int32)
noncomputable def F_L_again_B25 (f2 : Nat → Int32) (K6 : (Nat → Int32) → (Nat → Int64) → Option (Int32 × (Nat → Int32) × (Nat → Int32) × (Nat → Int32) × (Nat → Int64))) (x1 : Int32) (f3 : Nat → Int32) (rec15 : Int32 → (Nat → Int32) → (Nat → Int64) → Option (Int32 × (Nat → Int32) × (Nat → Int32) × (Nat → Int32) × (Nat → Int64))) (x12 : Int32) (f13 : Nat → Int32) (f14 : Nat → Int64) : Option (Int32 × (Nat → Int32) × (Nat → Int32) × (Nat → Int32) × (Nat → Int64)) :=
  (if (f2 (0 : Int32).toNatClampNeg) ≤ x12 then
  K6 f13 f14
else
  am_in x12 12 ((Option.bind (F_L_of f14 (x1 - (1 : Int32)) (f3 x12.toNatClampNeg)) fun (r16 : Int32) =>
  am_in x12 12 ((Option.bind (F_L_put f14 x1 x12 (r16 - r16 / (256 : Int32) * (256 : Int32)) (f3 x12.toNatClampNeg)) fun (f17 : Nat → Int64) =>
  am_in x12 12 (am_let (upd f13 x12.toNatClampNeg (1 : Int32)) fun (f18 : Nat → Int32) =>
  am_let (x12 + (1 : Int32)) fun (x19 : Int32) =>
  rec15 x19 f18 f17))))))
noncomputable def F_L_again (yg : Nat → Int32) (yw : Nat → Int32) (yq : Nat → Int32) (yc : Nat → Int64) : Option (Int32 × (Nat → Int32) × (Nat → Int32) × (Nat → Int32) × (Nat → Int64)) :=
  am_let (yg (1 : Int32).toNatClampNeg) fun (x1 : Int32) =>
  (am_call2 (F_L_choose yg yw zI (yg (6 : Int32).toNatClampNeg)) fun (f2 : Nat → Int32) (f3 : Nat → Int32) =>
  am_let (fun (f4 : Nat → Int32) (f5 : Nat → Int64) => am_in ((3 : Int32) * x1) 60 (am_let (upd yq ((3 : Int32) * x1).toNatClampNeg (2 : Int32)) fun (f7 : Nat → Int32) =>
  am_in (((3 : Int32) * x1) + (2 : Int32)) 60 (am_let (upd f7 (((3 : Int32) * x1) + (2 : Int32)).toNatClampNeg (f2 (6 : Int32).toNatClampNeg)) fun (f8 : Nat → Int32) =>
  am_let (upd f2 (1 : Int32).toNatClampNeg ((f2 (1 : Int32).toNatClampNeg) + (1 : Int32))) fun (f9 : Nat → Int32) =>
  am_let (upd f9 (4 : Int32).toNatClampNeg ((f9 (4 : Int32).toNatClampNeg) + (1 : Int32))) fun (f10 : Nat → Int32) =>
  (Option.bind (F_L_unlike f3 (f10 (0 : Int32).toNatClampNeg)) fun (r11 : Int32) =>
  some (r11, f10, f4, f8, f5))))) fun (K6 : (Nat → Int32) → (Nat → Int64) → Option (Int32 × (Nat → Int32) × (Nat → Int32) × (Nat → Int32) × (Nat → Int64))) =>
  am_loop3 (F_L_again_B25 f2 K6 x1 f3) am_fuel (0 : Int32) yw yc)
noncomputable def F_L_acts_B694 (yg : Nat → Int32) (K28 : (Nat → Int32) → Option (Int32 × (Nat → Int32) × (Nat → Int32) × (Nat → Int32) × (Nat → Int64))) (f23 : Nat → Int32) (rec40 : Int32 → (Nat → Int32) → Option (Int32 × (Nat → Int32) × (Nat → Int32) × (Nat → Int32) × (Nat → Int64))) (x38 : Int32) (f39 : Nat → Int32) : Option (Int32 × (Nat → Int32) × (Nat → Int32) × (Nat → Int32) × (Nat → Int64)) :=
  (if (yg (0 : Int32).toNatClampNeg) ≤ x38 then
  K28 f39
else
  am_in x38 12 (am_in x38 12 (am_let (upd f39 x38.toNatClampNeg (f23 x38.toNatClampNeg)) fun (f41 : Nat → Int32) =>
  am_let (x38 + (1 : Int32)) fun (x42 : Int32) =>
  rec40 x42 f41)))
noncomputable def F_L_acts_B533 (yg : Nat → Int32) (K21 : (Nat → Int32) → Option (Int32 × (Nat → Int32) × (Nat → Int32) × (Nat → Int32) × (Nat → Int64))) (yc : Nat → Int64) (x19 : Int32) (yw : Nat → Int32) (j17 : Int32) (rec47 : Int32 → (Nat → Int32) → Option (Int32 × (Nat → Int32) × (Nat → Int32) × (Nat → Int32) × (Nat → Int64))) (x45 : Int32) (f46 : Nat → Int32) : Option (Int32 × (Nat → Int32) × (Nat → Int32) × (Nat → Int32) × (Nat → Int64)) :=
  (if (yg (0 : Int32).toNatClampNeg) ≤ x45 then
  K21 f46
else
  (Option.bind (F_L_place yg yc x45) fun (r48 : Int32) =>
  am_let (fun (j49 : Int32) => (if x19 ≤ j49 then
  am_in x45 12 (am_let (upd f46 x45.toNatClampNeg (0 : Int32)) fun (f51 : Nat → Int32) =>
  am_let (x45 + (1 : Int32)) fun (x52 : Int32) =>
  rec47 x52 f51)
else
  am_in x45 12 (am_in x45 12 (am_let (upd f46 x45.toNatClampNeg ((x19 - j49) * (yw x45.toNatClampNeg))) fun (f53 : Nat → Int32) =>
  am_let (x45 + (1 : Int32)) fun (x54 : Int32) =>
  rec47 x54 f53)))) fun (J50 : Int32 → Option (Int32 × (Nat → Int32) × (Nat → Int32) × (Nat → Int32) × (Nat → Int64))) =>
  (if j17 ≤ r48 then
  (Option.bind (F_L_place yg yc x45) fun (r55 : Int32) =>
  J50 (r55 - j17))
else
  (Option.bind (F_L_place yg yc x45) fun (r56 : Int32) =>
  J50 (j17 - r56)))))
noncomputable def F_L_acts_B336 (K67 : (Nat → Int32) → (Nat → Int64) → Option (Int32 × (Nat → Int32) × (Nat → Int32) × (Nat → Int32) × (Nat → Int64))) (x64 : Int32) (x63 : Int32) (j59 : Int32) (rec76 : Int32 → (Nat → Int32) → (Nat → Int64) → Option (Int32 × (Nat → Int32) × (Nat → Int32) × (Nat → Int32) × (Nat → Int64))) (x73 : Int32) (f74 : Nat → Int32) (f75 : Nat → Int64) : Option (Int32 × (Nat → Int32) × (Nat → Int32) × (Nat → Int32) × (Nat → Int64)) :=
  (if (f74 (0 : Int32).toNatClampNeg) ≤ x73 then
  K67 f74 f75
else
  (Option.bind (F_L_of f75 (x64 - (1 : Int32)) x73) fun (r77 : Int32) =>
  (am_call2 (F_L_noise f74) fun (r78 : Int32) (f79 : Nat → Int32) =>
  am_nz ((1 : Int32) + ((2 : Int32) * x63)) (am_let ((((r77 - r77 / (256 : Int32) * (256 : Int32)) + j59) - x63) + (r78 - r78 / ((1 : Int32) + ((2 : Int32) * x63)) * ((1 : Int32) + ((2 : Int32) * x63)))) fun (x80 : Int32) =>
  (if 0 ≤ x80 then
  (if x80 ≤ (99 : Int32) then
  (Option.bind (F_L_put f75 x64 x73 x80 x73) fun (f81 : Nat → Int64) =>
  am_let (x73 + (1 : Int32)) fun (x82 : Int32) =>
  rec76 x82 f79 f81)
else
  (Option.bind (F_L_put f75 x64 x73 (99 : Int32) x73) fun (f83 : Nat → Int64) =>
  am_let (x73 + (1 : Int32)) fun (x84 : Int32) =>
  rec76 x84 f79 f83))
else
  (Option.bind (F_L_put f75 x64 x73 (0 : Int32) x73) fun (f85 : Nat → Int64) =>
  am_let (x73 + (1 : Int32)) fun (x86 : Int32) =>
  rec76 x86 f79 f85))))))
noncomputable def F_L_acts (KO : Int32 → Int32 → Int32 → Int32 → Option Int32) (yg : Nat → Int32) (yw : Nat → Int32) (yq : Nat → Int32) (yc : Nat → Int64) (p5 : Int32) : Option (Int32 × (Nat → Int32) × (Nat → Int32) × (Nat → Int32) × (Nat → Int64)) :=
  (Option.bind (F_L_low (p5 >>> ((5 : Int32) &&& 31)) (10000000 : Int32)) fun (r1 : Int32) =>
  (Option.bind (F_L_low p5 (22 : Int32)) fun (r2 : Int32) =>
  am_let ((if (4 : Int32) ≤ r2 then
  (if (9 : Int32) ≤ r2 then
  (if (16 : Int32) ≤ r2 then
  (if (19 : Int32) ≤ r2 then
  am_let (r1 - r1 / (3 : Int32) * (3 : Int32)) fun (x4 : Int32) =>
  am_in ((5 : Int32) + x4) 8 (am_let (yg ((5 : Int32) + x4).toNatClampNeg) fun (x5 : Int32) =>
  am_let (fun (j6 : Int32) => am_nz j6 (am_in ((5 : Int32) + x4) 8 (am_let (upd yg ((5 : Int32) + x4).toNatClampNeg ((r1 / (3 : Int32)) - (r1 / (3 : Int32)) / j6 * j6)) fun (f8 : Nat → Int32) =>
  am_in ((5 : Int32) + x4) 8 ((Option.bind (KO (5 : Int32) x4 (f8 ((5 : Int32) + x4).toNatClampNeg) (0 : Int32)) fun (r9 : Int32) =>
  (if r9 = x5 then
  some ((1 : Int32), f8, yw, yq, yc)
else
  some ((0 : Int32), f8, yw, yq, yc))))))) fun (J7 : Int32 → Option (Int32 × (Nat → Int32) × (Nat → Int32) × (Nat → Int32) × (Nat → Int64))) =>
  (if x4 = 0 then
  J7 (13 : Int32)
else
  (if x4 = (1 : Int32) then
  J7 (3 : Int32)
else
  J7 (100 : Int32))))
else
  (if (yg (1 : Int32).toNatClampNeg) = (20 : Int32) then
  (Option.bind (KO (4 : Int32) (0 : Int32) (0 : Int32) (0 : Int32)) fun (r16 : Int32) =>
  (if r16 = (-1000003 : Int32) then
  some ((1 : Int32), yg, yw, yq, yc)
else
  some ((0 : Int32), yg, yw, yq, yc)))
else
  (am_call5 (F_L_again yg yw yq yc) fun (r10 : Int32) (f11 : Nat → Int32) (f12 : Nat → Int32) (f13 : Nat → Int32) (f14 : Nat → Int64) =>
  (Option.bind (KO (4 : Int32) (0 : Int32) (0 : Int32) (0 : Int32)) fun (r15 : Int32) =>
  (if r15 = r10 then
  some ((1 : Int32), f11, f12, f13, f14)
else
  some ((0 : Int32), f11, f12, f13, f14))))))
else
  am_let (fun (j17 : Int32) => am_let ((1 : Int32) + ((r1 / (48 : Int32)) - (r1 / (48 : Int32)) / (99 : Int32) * (99 : Int32))) fun (x19 : Int32) =>
  am_let (fun (f20 : Nat → Int32) => (am_call2 (F_L_thins yg f20) fun (r22 : Int32) (f23 : Nat → Int32) =>
  (if r22 = 0 then
  (Option.bind (KO (3 : Int32) j17 x19 (0 : Int32)) fun (r44 : Int32) =>
  (if r44 = (-1000002 : Int32) then
  some ((1 : Int32), yg, yw, yq, yc)
else
  some ((0 : Int32), yg, yw, yq, yc)))
else
  am_let ((Option.bind (KO (3 : Int32) j17 x19 (0 : Int32)) fun (r25 : Int32) =>
  (if r25 = (-1000003 : Int32) then
  some ((1 : Int32), yg, yw, yq, yc)
else
  some ((0 : Int32), yg, yw, yq, yc)))) fun (J24 : Option (Int32 × (Nat → Int32) × (Nat → Int32) × (Nat → Int32) × (Nat → Int64))) =>
  (if (1000000 : Int32) < r22 then
  J24
else
  am_let (am_let (fun (f27 : Nat → Int32) => (Option.bind (F_L_counts yg f27) fun (r29 : Int32) =>
  am_let (upd yg (3 : Int32).toNatClampNeg ((yg (3 : Int32).toNatClampNeg) + (1 : Int32))) fun (f30 : Nat → Int32) =>
  (if (f30 (5 : Int32).toNatClampNeg) ≤ r29 then
  (Option.bind (KO (3 : Int32) j17 x19 (0 : Int32)) fun (r31 : Int32) =>
  (if r31 = r29 then
  some ((1 : Int32), f30, f27, yq, yc)
else
  some ((0 : Int32), f30, f27, yq, yc)))
else
  (am_call5 (F_L_again f30 f27 yq yc) fun (r32 : Int32) (f33 : Nat → Int32) (f34 : Nat → Int32) (f35 : Nat → Int32) (f36 : Nat → Int64) =>
  (Option.bind (KO (3 : Int32) j17 x19 (0 : Int32)) fun (r37 : Int32) =>
  (if r37 = r29 then
  (if r32 ≤ 0 then
  some ((0 : Int32), f33, f34, f35, f36)
else
  some ((1 : Int32), f33, f34, f35, f36))
else
  some ((0 : Int32), f33, f34, f35, f36))))))) fun (K28 : (Nat → Int32) → Option (Int32 × (Nat → Int32) × (Nat → Int32) × (Nat → Int32) × (Nat → Int64))) =>
  am_loop2 (F_L_acts_B694 yg K28 f23) am_fuel (0 : Int32) yw) fun (J26 : Option (Int32 × (Nat → Int32) × (Nat → Int32) × (Nat → Int32) × (Nat → Int64))) =>
  (if (yg (1 : Int32).toNatClampNeg) = (20 : Int32) then
  (Option.bind (F_L_counts yg f23) fun (r43 : Int32) =>
  (if (yg (5 : Int32).toNatClampNeg) ≤ r43 then
  J26
else
  J24))
else
  J26))))) fun (K21 : (Nat → Int32) → Option (Int32 × (Nat → Int32) × (Nat → Int32) × (Nat → Int32) × (Nat → Int64))) =>
  am_loop2 (F_L_acts_B533 yg K21 yc x19 yw j17) am_fuel (0 : Int32) zI) fun (J18 : Int32 → Option (Int32 × (Nat → Int32) × (Nat → Int32) × (Nat → Int32) × (Nat → Int64))) =>
  (if (r1 - r1 / (4 : Int32) * (4 : Int32)) = 0 then
  J18 ((r1 / (4 : Int32)) - (r1 / (4 : Int32)) / (100 : Int32) * (100 : Int32))
else
  am_nz (yg (0 : Int32).toNatClampNeg) ((Option.bind (F_L_place yg yc ((r1 / (4 : Int32)) - (r1 / (4 : Int32)) / (yg (0 : Int32).toNatClampNeg) * (yg (0 : Int32).toNatClampNeg))) fun (r57 : Int32) =>
  J18 r57))))
else
  am_let ((r1 - r1 / (199 : Int32) * (199 : Int32)) - (99 : Int32)) fun (x58 : Int32) =>
  am_let (fun (j59 : Int32) => am_let (fun (j61 : Int32) => am_nz j61 (am_let ((r1 / (199 : Int32)) - (r1 / (199 : Int32)) / j61 * j61) fun (x63 : Int32) =>
  (if (yg (1 : Int32).toNatClampNeg) = (20 : Int32) then
  (Option.bind (KO (2 : Int32) j59 x63 (0 : Int32)) fun (r87 : Int32) =>
  (if r87 = (-1000003 : Int32) then
  some ((1 : Int32), yg, yw, yq, yc)
else
  some ((0 : Int32), yg, yw, yq, yc)))
else
  am_let (yg (1 : Int32).toNatClampNeg) fun (x64 : Int32) =>
  am_let (fun (f65 : Nat → Int32) (f66 : Nat → Int64) => am_in ((3 : Int32) * x64) 60 (am_let (upd yq ((3 : Int32) * x64).toNatClampNeg (1 : Int32)) fun (f68 : Nat → Int32) =>
  am_in (((3 : Int32) * x64) + (1 : Int32)) 60 (am_let (upd f68 (((3 : Int32) * x64) + (1 : Int32)).toNatClampNeg j59) fun (f69 : Nat → Int32) =>
  am_in (((3 : Int32) * x64) + (2 : Int32)) 60 (am_let (upd f69 (((3 : Int32) * x64) + (2 : Int32)).toNatClampNeg x63) fun (f70 : Nat → Int32) =>
  am_let (upd f65 (1 : Int32).toNatClampNeg ((f65 (1 : Int32).toNatClampNeg) + (1 : Int32))) fun (f71 : Nat → Int32) =>
  (Option.bind (KO (2 : Int32) j59 x63 (0 : Int32)) fun (r72 : Int32) =>
  (if r72 = x64 then
  some ((1 : Int32), f71, yw, f70, f66)
else
  some ((0 : Int32), f71, yw, f70, f66))))))) fun (K67 : (Nat → Int32) → (Nat → Int64) → Option (Int32 × (Nat → Int32) × (Nat → Int32) × (Nat → Int32) × (Nat → Int64))) =>
  am_loop3 (F_L_acts_B336 K67 x64 x63 j59) am_fuel (0 : Int32) yg yc))) fun (J62 : Int32 → Option (Int32 × (Nat → Int32) × (Nat → Int32) × (Nat → Int32) × (Nat → Int64))) =>
  (if (r1 - r1 / (5 : Int32) * (5 : Int32)) = 0 then
  J62 (100 : Int32)
else
  J62 (12 : Int32))) fun (J60 : Int32 → Option (Int32 × (Nat → Int32) × (Nat → Int32) × (Nat → Int32) × (Nat → Int64))) =>
  (if (r1 - r1 / (3 : Int32) * (3 : Int32)) ≤ 0 then
  J60 x58
else
  J60 (x58 / (9 : Int32))))
else
  am_nz (yg (0 : Int32).toNatClampNeg) (am_let (r1 - r1 / (yg (0 : Int32).toNatClampNeg) * (yg (0 : Int32).toNatClampNeg)) fun (x88 : Int32) =>
  am_let (fun (j89 : Int32) => (Option.bind (F_L_all yg yw) fun (r91 : Int32) =>
  am_in x88 12 ((if ((r91 - (yw x88.toNatClampNeg)) + j89) = 0 then
  (Option.bind (KO (1 : Int32) x88 j89 (0 : Int32)) fun (r96 : Int32) =>
  (if r96 = (-1000002 : Int32) then
  some ((1 : Int32), yg, yw, yq, yc)
else
  some ((0 : Int32), yg, yw, yq, yc)))
else
  am_in x88 12 (am_let (upd yw x88.toNatClampNeg j89) fun (f92 : Nat → Int32) =>
  (am_call2 (F_L_thins yg f92) fun (r93 : Int32) (f94 : Nat → Int32) =>
  (Option.bind (KO (1 : Int32) x88 j89 (0 : Int32)) fun (r95 : Int32) =>
  am_in x88 12 ((if r95 = (f94 x88.toNatClampNeg) then
  some ((1 : Int32), yg, f94, yq, yc)
else
  some ((0 : Int32), yg, f94, yq, yc)))))))))) fun (J90 : Int32 → Option (Int32 × (Nat → Int32) × (Nat → Int32) × (Nat → Int32) × (Nat → Int64))) =>
  (if (r1 - r1 / (4 : Int32) * (4 : Int32)) = 0 then
  J90 ((r1 / (12 : Int32)) - (r1 / (12 : Int32)) / (1000001 : Int32) * (1000001 : Int32))
else
  J90 ((r1 / (12 : Int32)) - (r1 / (12 : Int32)) / (20 : Int32) * (20 : Int32)))))) fun (J3 : Option (Int32 × (Nat → Int32) × (Nat → Int32) × (Nat → Int32) × (Nat → Int64))) =>
  (if r2 = 0 then
  (if (r1 - r1 / (3 : Int32) * (3 : Int32)) = 0 then
  am_let ((1 : Int32) + ((r1 / (3 : Int32)) - (r1 / (3 : Int32)) / (12 : Int32) * (12 : Int32))) fun (x97 : Int32) =>
  am_let (yg (1 : Int32).toNatClampNeg) fun (x98 : Int32) =>
  am_let (fun (j99 : Int32) => am_nz j99 ((am_call4 (F_L_begins yg yw yq yc x97 ((r1 / (36 : Int32)) - (r1 / (36 : Int32)) / (100 : Int32) * (100 : Int32)) ((r1 / (7 : Int32)) - (r1 / (7 : Int32)) / j99 * j99)) fun (f101 : Nat → Int32) (f102 : Nat → Int32) (f103 : Nat → Int32) (f104 : Nat → Int64) =>
  am_let (fun (j105 : Int32) => am_nz j105 ((Option.bind (KO (0 : Int32) x97 ((r1 / (36 : Int32)) - (r1 / (36 : Int32)) / (100 : Int32) * (100 : Int32)) ((r1 / (7 : Int32)) - (r1 / (7 : Int32)) / j105 * j105)) fun (r107 : Int32) =>
  (if r107 = x98 then
  some ((1 : Int32), f101, f102, f103, f104)
else
  some ((0 : Int32), f101, f102, f103, f104))))) fun (J106 : Int32 → Option (Int32 × (Nat → Int32) × (Nat → Int32) × (Nat → Int32) × (Nat → Int64))) =>
  (if (r1 - r1 / (2 : Int32) * (2 : Int32)) = 0 then
  J106 (100 : Int32)
else
  J106 (12 : Int32))))) fun (J100 : Int32 → Option (Int32 × (Nat → Int32) × (Nat → Int32) × (Nat → Int32) × (Nat → Int64))) =>
  (if (r1 - r1 / (2 : Int32) * (2 : Int32)) = 0 then
  J100 (100 : Int32)
else
  J100 (12 : Int32))
else
  J3)
else
  J3)))
noncomputable def F_L_isSo_B582 (yg : Nat → Int32) (K11 : Int32 → Option (Int32)) (yq : Nat → Int32) (v : Nat → Nat → Int32) (f : Nat → Nat → Nat → Int32) (rec19 : Int32 → Int32 → Option (Int32)) (x17 : Int32) (x18 : Int32) : Option (Int32) :=
  (if (yg (1 : Int32).toNatClampNeg) ≤ x18 then
  K11 x17
else
  (if x17 = 0 then
  K11 x17
else
  am_in ((3 : Int32) * x18) 60 (am_let (yq ((3 : Int32) * x18).toNatClampNeg) fun (x20 : Int32) =>
  (Option.bind (F_X6_generationOf (v 0 3) (v 0 4) (f 0 0) (f 0 1) (f 0 2) (f 0 3) (f 0 4) (f 0 5) x18 (0 : Int32)) fun (r21 : Int32) =>
  (if r21 = x20 then
  (Option.bind (F_X6_generationOf (v 0 3) (v 0 4) (f 0 0) (f 0 1) (f 0 2) (f 0 3) (f 0 4) (f 0 5) x18 (1 : Int32)) fun (r23 : Int32) =>
  am_let (fun (j24 : Int32) => (if r23 = j24 then
  (Option.bind (F_X6_generationOf (v 0 3) (v 0 4) (f 0 0) (f 0 1) (f 0 2) (f 0 3) (f 0 4) (f 0 5) x18 (2 : Int32)) fun (r27 : Int32) =>
  am_let (fun (j28 : Int32) => (if r27 = j28 then
  (Option.bind (F_X6_generationOf (v 0 3) (v 0 4) (f 0 0) (f 0 1) (f 0 2) (f 0 3) (f 0 4) (f 0 5) x18 (3 : Int32)) fun (r31 : Int32) =>
  am_let (fun (j32 : Int32) => (if r31 = j32 then
  am_let (x18 + (1 : Int32)) fun (x35 : Int32) =>
  rec19 (1 : Int32) x35
else
  am_let (x18 + (1 : Int32)) fun (x34 : Int32) =>
  rec19 (0 : Int32) x34)) fun (J33 : Int32 → Option (Int32)) =>
  (if x20 = (2 : Int32) then
  am_in (((3 : Int32) * x18) + (2 : Int32)) 60 (J33 (yq (((3 : Int32) * x18) + (2 : Int32)).toNatClampNeg))
else
  J33 (-1000004 : Int32)))
else
  am_let (x18 + (1 : Int32)) fun (x30 : Int32) =>
  rec19 (0 : Int32) x30)) fun (J29 : Int32 → Option (Int32)) =>
  (if x20 = (1 : Int32) then
  am_in (((3 : Int32) * x18) + (2 : Int32)) 60 (J29 (yq (((3 : Int32) * x18) + (2 : Int32)).toNatClampNeg))
else
  J29 (-1000004 : Int32)))
else
  am_let (x18 + (1 : Int32)) fun (x26 : Int32) =>
  rec19 (0 : Int32) x26)) fun (J25 : Int32 → Option (Int32)) =>
  (if x20 = (1 : Int32) then
  am_in (((3 : Int32) * x18) + (1 : Int32)) 60 (J25 ((yq (((3 : Int32) * x18) + (1 : Int32)).toNatClampNeg) + (100 : Int32)))
else
  J25 (-1000004 : Int32)))
else
  am_let (x18 + (1 : Int32)) fun (x22 : Int32) =>
  rec19 (0 : Int32) x22)))))
noncomputable def F_L_isSo_B379 (K73 : Int32 → Option (Int32)) (rec83 : Int32 → Int32 → Option (Int32)) (x81 : Int32) (x82 : Int32) : Option (Int32) :=
  (if x81 ≤ 0 then
  K73 x82
else
  am_nz x81 (am_let (x82 - x82 / x81 * x81) fun (x84 : Int32) =>
  rec83 x84 x81))
noncomputable def F_L_isSo_B51 (x1 : Int32) (K57 : Int32 → Int32 → Int32 → Option (Int32)) (yg : Nat → Int32) (yc : Nat → Int64) (x52 : Int32) (yw : Nat → Int32) (rec97 : Int32 → Int32 → Int32 → Int32 → Option (Int32)) (x93 : Int32) (x94 : Int32) (x95 : Int32) (x96 : Int32) : Option (Int32) :=
  (if x1 ≤ x96 then
  K57 x93 x94 x95
else
  (Option.bind (F_L_place yg yc x96) fun (r98 : Int32) =>
  (Option.bind (F_L_place yg yc x52) fun (r99 : Int32) =>
  am_let (fun (j100 : Int32) => am_let (x93 + j100) fun (x102 : Int32) =>
  am_let (fun (j103 : Int32) => am_in x96 12 (am_in x52 12 ((if (yw x52.toNatClampNeg) < (yw x96.toNatClampNeg) then
  am_let (x94 + (1 : Int32)) fun (x105 : Int32) =>
  am_let (x96 + (1 : Int32)) fun (x106 : Int32) =>
  rec97 x102 x105 j103 x106
else
  am_in x96 12 (am_in x52 12 ((if (yw x96.toNatClampNeg) = (yw x52.toNatClampNeg) then
  (if x52 ≤ x96 then
  am_let (x94 + (0 : Int32)) fun (x109 : Int32) =>
  am_let (x96 + (1 : Int32)) fun (x110 : Int32) =>
  rec97 x102 x109 j103 x110
else
  am_let (x94 + (1 : Int32)) fun (x111 : Int32) =>
  am_let (x96 + (1 : Int32)) fun (x112 : Int32) =>
  rec97 x102 x111 j103 x112)
else
  am_let (x94 + (0 : Int32)) fun (x107 : Int32) =>
  am_let (x96 + (1 : Int32)) fun (x108 : Int32) =>
  rec97 x102 x107 j103 x108))))))) fun (J104 : Int32 → Option (Int32)) =>
  am_let (J104 (0 : Int32)) fun (J113 : Option (Int32)) =>
  (if x95 = 0 then
  J113
else
  am_let (J104 (1 : Int32)) fun (J114 : Option (Int32)) =>
  (if x52 ≤ x96 then
  J114
else
  (Option.bind (F_L_place yg yc x96) fun (r115 : Int32) =>
  (Option.bind (F_L_place yg yc x52) fun (r116 : Int32) =>
  (if r115 = r116 then
  J113
else
  J114)))))) fun (J101 : Int32 → Option (Int32)) =>
  (if r98 = r99 then
  J101 (1 : Int32)
else
  J101 (0 : Int32)))))
noncomputable def F_L_isSo_B27 (x1 : Int32) (K7 : Int32 → Int32 → Int32 → Int32 → Option (Int32)) (v : Nat → Nat → Int32) (f : Nat → Nat → Nat → Int32) (yc : Nat → Int64) (yg : Nat → Int32) (r2 : Int32) (yw : Nat → Int32) (rec53 : Int32 → Int32 → Int32 → Int32 → Int32 → Option (Int32)) (x48 : Int32) (x49 : Int32) (x50 : Int32) (x51 : Int32) (x52 : Int32) : Option (Int32) :=
  (if x1 ≤ x52 then
  K7 x48 x49 x50 x51
else
  (if x51 = 0 then
  K7 x48 x49 x50 x51
else
  am_let (fun (x54 : Int32) (x55 : Int32) (x56 : Int32) => am_in x52 12 (am_let (fun (j58 : Int32) => am_let (x48 + j58) fun (x60 : Int32) =>
  am_let (fun (j61 : Int32) => am_let (x49 + j61) fun (x63 : Int32) =>
  (Option.bind (F_X6_particleOf (v 0 3) (v 0 4) (f 0 0) (f 0 1) (v 0 5) (f 0 6) x52 (4 : Int32)) fun (r64 : Int32) =>
  (Option.bind (F_X6_particleOf (v 0 3) (v 0 4) (f 0 0) (f 0 1) (v 0 5) (f 0 6) x52 (5 : Int32)) fun (r65 : Int32) =>
  (Option.bind (F_L_of yc ((yg (1 : Int32).toNatClampNeg) - (1 : Int32)) x52) fun (r66 : Int32) =>
  am_let (r66 / (256 : Int32)) fun (x67 : Int32) =>
  (Option.bind (F_X6_particleOf (v 0 3) (v 0 4) (f 0 0) (f 0 1) (v 0 5) (f 0 6) x52 (0 : Int32)) fun (r68 : Int32) =>
  (Option.bind (F_L_place yg yc x52) fun (r69 : Int32) =>
  am_let (fun (j70 : Int32) => am_let (fun (x72 : Int32) => am_let (fun (j74 : Int32) => (if r65 ≤ 0 then
  am_let (x50 + (0 : Int32)) fun (x76 : Int32) =>
  am_let (x52 + (1 : Int32)) fun (x77 : Int32) =>
  rec53 x60 x63 x76 j74 x77
else
  am_nz r65 (am_let (x50 + ((r2 / r65) * r64)) fun (x78 : Int32) =>
  am_let (x52 + (1 : Int32)) fun (x79 : Int32) =>
  rec53 x60 x63 x78 j74 x79))) fun (J75 : Int32 → Option (Int32)) =>
  am_let (J75 (0 : Int32)) fun (J80 : Option (Int32)) =>
  (if j70 = 0 then
  J80
else
  (if x72 = (1 : Int32) then
  J75 (1 : Int32)
else
  J80))) fun (K73 : Int32 → Option (Int32)) =>
  am_loop2 (F_L_isSo_B379 K73) am_fuel r64 r65) fun (J71 : Int32 → Option (Int32)) =>
  am_let (J71 (0 : Int32)) fun (J85 : Option (Int32)) =>
  (if r68 = r69 then
  (Option.bind (F_X6_particleOf (v 0 3) (v 0 4) (f 0 0) (f 0 1) (v 0 5) (f 0 6) x52 (1 : Int32)) fun (r86 : Int32) =>
  am_in x52 12 ((if r86 = (yw x52.toNatClampNeg) then
  (Option.bind (F_X6_particleOf (v 0 3) (v 0 4) (f 0 0) (f 0 1) (v 0 5) (f 0 6) x52 (2 : Int32)) fun (r87 : Int32) =>
  am_let (fun (j88 : Int32) => (if r87 = j88 then
  (Option.bind (F_X6_particleOf (v 0 3) (v 0 4) (f 0 0) (f 0 1) (v 0 5) (f 0 6) x52 (3 : Int32)) fun (r90 : Int32) =>
  (if r90 = x54 then
  (if r65 ≤ 0 then
  J85
else
  am_nz r65 ((if (r2 - r2 / r65 * r65) = 0 then
  am_nz r65 (am_in x52 12 ((if (lg_cmp (r64.toInt64 * (r2 / r65).toInt64) (yw x52.toNatClampNeg).toInt64) = 0 then
  (Option.bind (F_X6_particleOf (v 0 3) (v 0 4) (f 0 0) (f 0 1) (v 0 5) (f 0 6) x52 (6 : Int32)) fun (r91 : Int32) =>
  (if r91 = x55 then
  (Option.bind (F_X6_particleOf (v 0 3) (v 0 4) (f 0 0) (f 0 1) (v 0 5) (f 0 6) x52 (7 : Int32)) fun (r92 : Int32) =>
  (if r92 = (-1000001 : Int32) then
  J71 (1 : Int32)
else
  J85))
else
  J85))
else
  J85)))
else
  J85)))
else
  J85))
else
  J85)) fun (J89 : Int32 → Option (Int32)) =>
  (if x67 = (15 : Int32) then
  J89 (-1000004 : Int32)
else
  J89 x67))
else
  J85)))
else
  J85))))))) fun (J62 : Int32 → Option (Int32)) =>
  (if x56 = 0 then
  J62 (0 : Int32)
else
  J62 (1 : Int32))) fun (J59 : Int32 → Option (Int32)) =>
  (if (yw x52.toNatClampNeg) = 0 then
  J59 (1 : Int32)
else
  J59 (0 : Int32)))) fun (K57 : Int32 → Int32 → Int32 → Option (Int32)) =>
  am_loop4 (F_L_isSo_B51 x1 K57 yg yc x52 yw) am_fuel (0 : Int32) (0 : Int32) (1 : Int32) (0 : Int32)))
noncomputable def F_L_isSo (rec : Int32) (v : Nat → Nat → Int32) (f : Nat → Nat → Nat → Int32) (u : Nat → Int32) (yg : Nat → Int32) (yw : Nat → Int32) (yq : Nat → Int32) (yc : Nat → Int64) : Option (Int32) :=
  am_let (yg (0 : Int32).toNatClampNeg) fun (x1 : Int32) =>
  (Option.bind (F_L_all yg yw) fun (r2 : Int32) =>
  am_let (fun (x3 : Int32) (x4 : Int32) (x5 : Int32) (x6 : Int32) => am_let (fun (j8 : Int32) => am_let (fun (x10 : Int32) => (if x10 = 0 then
  some (0 : Int32)
else
  (Option.bind (F_X6_generationOf (v 0 3) (v 0 4) (f 0 0) (f 0 1) (f 0 2) (f 0 3) (f 0 4) (f 0 5) (yg (1 : Int32).toNatClampNeg) (0 : Int32)) fun (r12 : Int32) =>
  (if r12 = (-1000001 : Int32) then
  (Option.bind (F_X6_count rec (v 0 0) (v 0 1) (v 0 2) (v 0 3) (v 0 4) (f 0 0) (v 0 5) (f 0 6) (f 0 7) (u 0) (20 : Int32)) fun (r13 : Int32) =>
  (if r13 = (yg (5 : Int32).toNatClampNeg) then
  (Option.bind (F_X6_count rec (v 0 0) (v 0 1) (v 0 2) (v 0 3) (v 0 4) (f 0 0) (v 0 5) (f 0 6) (f 0 7) (u 0) (21 : Int32)) fun (r14 : Int32) =>
  (if r14 = (yg (6 : Int32).toNatClampNeg) then
  (Option.bind (F_X6_count rec (v 0 0) (v 0 1) (v 0 2) (v 0 3) (v 0 4) (f 0 0) (v 0 5) (f 0 6) (f 0 7) (u 0) (22 : Int32)) fun (r15 : Int32) =>
  (if r15 = (yg (7 : Int32).toNatClampNeg) then
  (Option.bind (F_X6_count rec (v 0 0) (v 0 1) (v 0 2) (v 0 3) (v 0 4) (f 0 0) (v 0 5) (f 0 6) (f 0 7) (u 0) (10 : Int32)) fun (r16 : Int32) =>
  (if r16 = 0 then
  some (1 : Int32)
else
  some (0 : Int32)))
else
  some (0 : Int32)))
else
  some (0 : Int32)))
else
  some (0 : Int32)))
else
  some (0 : Int32))))) fun (K11 : Int32 → Option (Int32)) =>
  am_loop2 (F_L_isSo_B582 yg K11 yq v f) am_fuel j8 (0 : Int32)) fun (J9 : Int32 → Option (Int32)) =>
  am_let (J9 (0 : Int32)) fun (J36 : Option (Int32)) =>
  (if x6 = 0 then
  J36
else
  (if x5 = r2 then
  (Option.bind (F_X6_particleOf (v 0 3) (v 0 4) (f 0 0) (f 0 1) (v 0 5) (f 0 6) x1 (0 : Int32)) fun (r37 : Int32) =>
  (if r37 = (-1000001 : Int32) then
  (Option.bind (F_X6_count rec (v 0 0) (v 0 1) (v 0 2) (v 0 3) (v 0 4) (f 0 0) (v 0 5) (f 0 6) (f 0 7) (u 0) (0 : Int32)) fun (r38 : Int32) =>
  (if r38 = x1 then
  (Option.bind (F_X6_count rec (v 0 0) (v 0 1) (v 0 2) (v 0 3) (v 0 4) (f 0 0) (v 0 5) (f 0 6) (f 0 7) (u 0) (1 : Int32)) fun (r39 : Int32) =>
  (if r39 = (yg (1 : Int32).toNatClampNeg) then
  (Option.bind (F_X6_count rec (v 0 0) (v 0 1) (v 0 2) (v 0 3) (v 0 4) (f 0 0) (v 0 5) (f 0 6) (f 0 7) (u 0) (2 : Int32)) fun (r40 : Int32) =>
  (if r40 = r2 then
  (Option.bind (F_X6_count rec (v 0 0) (v 0 1) (v 0 2) (v 0 3) (v 0 4) (f 0 0) (v 0 5) (f 0 6) (f 0 7) (u 0) (3 : Int32)) fun (r41 : Int32) =>
  (Option.bind (F_L_counts yg yw) fun (r42 : Int32) =>
  (if r41 = r42 then
  (Option.bind (F_X6_count rec (v 0 0) (v 0 1) (v 0 2) (v 0 3) (v 0 4) (f 0 0) (v 0 5) (f 0 6) (f 0 7) (u 0) (4 : Int32)) fun (r43 : Int32) =>
  (if r43 = (yg (2 : Int32).toNatClampNeg) then
  (Option.bind (F_X6_count rec (v 0 0) (v 0 1) (v 0 2) (v 0 3) (v 0 4) (f 0 0) (v 0 5) (f 0 6) (f 0 7) (u 0) (5 : Int32)) fun (r44 : Int32) =>
  (if r44 = x3 then
  (Option.bind (F_X6_count rec (v 0 0) (v 0 1) (v 0 2) (v 0 3) (v 0 4) (f 0 0) (v 0 5) (f 0 6) (f 0 7) (u 0) (6 : Int32)) fun (r45 : Int32) =>
  (if r45 = x4 then
  (Option.bind (F_X6_count rec (v 0 0) (v 0 1) (v 0 2) (v 0 3) (v 0 4) (f 0 0) (v 0 5) (f 0 6) (f 0 7) (u 0) (7 : Int32)) fun (r46 : Int32) =>
  (if r46 = (yg (3 : Int32).toNatClampNeg) then
  (Option.bind (F_X6_count rec (v 0 0) (v 0 1) (v 0 2) (v 0 3) (v 0 4) (f 0 0) (v 0 5) (f 0 6) (f 0 7) (u 0) (8 : Int32)) fun (r47 : Int32) =>
  (if r47 = (yg (4 : Int32).toNatClampNeg) then
  J9 (1 : Int32)
else
  J36))
else
  J36))
else
  J36))
else
  J36))
else
  J36))
else
  J36)))
else
  J36))
else
  J36))
else
  J36))
else
  J36))
else
  J36))) fun (K7 : Int32 → Int32 → Int32 → Int32 → Option (Int32)) =>
  am_loop5 (F_L_isSo_B27 x1 K7 v f yc yg r2 yw) am_fuel (0 : Int32) (0 : Int32) (0 : Int32) (1 : Int32) (0 : Int32))
