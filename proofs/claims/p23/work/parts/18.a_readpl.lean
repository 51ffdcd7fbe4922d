-- readings of the outer class, printed by wip/p23/gen23.py
noncomputable def F_X6_keepDraftUnlessError_neg (rec : Int32) (p0 : Int32) : Option (Int32) :=
  some p0
noncomputable def F_X6_keepDraftUnlessError_pos (rec : Int32) (p0 : Int32) : Option (Int32 × Int32) :=
  am_let (if (4 : Int32) < (rec + (1 : Int32)) then (4 : Int32) else (rec + (1 : Int32))) fun (x1 : Int32) =>
  some (p0, x1)
noncomputable def F_X6_particleOf (ralmany : Int32) (ralgens : Int32) (ralplf : Nat → Int32) (ralpaf : Nat → Int32) (rawmany : Int32) (rawf : Nat → Int32) (p0 : Int32) (p1 : Int32) : Option (Int32) :=
  (Option.bind (F_X4_hasParticle ralmany p0) fun (r1 : Int32) =>
  (if r1 = 0 then
  some (-1000001 : Int32)
else
  (Option.bind (F_X6_isWithin p1 (0 : Int32) (6 : Int32)) fun (r2 : Int32) =>
  (if r2 = 0 then
  some (-1000001 : Int32)
else
  (Option.bind (F_X4_tellOfParticle ralmany ralgens ralplf ralpaf rawmany rawf p0 p1) fun (r3 : Int32) =>
  some r3)))))
noncomputable def F_X6_generationOf (ralmany : Int32) (ralgens : Int32) (ralplf : Nat → Int32) (ralpaf : Nat → Int32) (ralogf : Nat → Int32) (raldrf : Nat → Int32) (ralspf : Nat → Int32) (ralscf : Nat → Int32) (p0 : Int32) (p1 : Int32) : Option (Int32) :=
  (Option.bind (F_X4_hasGeneration ralgens p0) fun (r1 : Int32) =>
  (if r1 = 0 then
  some (-1000001 : Int32)
else
  (Option.bind (F_X6_isWithin p1 (0 : Int32) (5 : Int32)) fun (r2 : Int32) =>
  (if r2 = 0 then
  some (-1000001 : Int32)
else
  (Option.bind (F_X4_tellOfGeneration ralmany ralgens ralplf ralpaf ralogf raldrf ralspf ralscf p0 p1) fun (r3 : Int32) =>
  some r3)))))
noncomputable def F_X6_count (rec : Int32) (ranoi : Int32) (raobs : Int32) (rares : Int32) (ralmany : Int32) (ralgens : Int32) (ralplf : Nat → Int32) (rawmany : Int32) (rawf : Nat → Int32) (rasf : Nat → Int32) (sclen : Int32) (p0 : Int32) : Option (Int32) :=
  (if p0 = (9 : Int32) then
  some rec
else
  (if p0 = (10 : Int32) then
  (Option.bind (F_X3_length sclen) fun (r2 : Int32) =>
  some r2)
else
  (Option.bind (F_X4_number ranoi raobs rares ralmany ralgens ralplf rawmany rawf rasf p0) fun (r1 : Int32) =>
  some r1)))
noncomputable def F_X6_begin (ranoi : Int32) (raobs : Int32) (rares : Int32) (ralmany : Int32) (ralgens : Int32) (ralplf : Nat → Int32) (ralpaf : Nat → Int32) (ralogf : Nat → Int32) (raldrf : Nat → Int32) (ralspf : Nat → Int32) (ralscf : Nat → Int32) (rawmany : Int32) (rawf : Nat → Int32) (rasf : Nat → Int32) (rbnoi : Int32) (rbobs : Int32) (rbres : Int32) (rblmany : Int32) (rblgens : Int32) (rblplf : Nat → Int32) (rblpaf : Nat → Int32) (rblogf : Nat → Int32) (rbldrf : Nat → Int32) (rblspf : Nat → Int32) (rblscf : Nat → Int32) (rbwmany : Int32) (rbwf : Nat → Int32) (rbsf : Nat → Int32) (p0 : Int32) (p1 : Int32) (p2 : Int32) : Option (Int32 × Int32 × Int32 × Int32 × Int32 × Int32 × (Nat → Int32) × (Nat → Int32) × (Nat → Int32) × (Nat → Int32) × (Nat → Int32) × (Nat → Int32) × Int32 × (Nat → Int32) × (Nat → Int32)) :=
  (am_call14 (F_X4_copyState rbnoi rbobs rbres rblmany rblgens rblplf rblpaf rblogf rbldrf rblspf rblscf rbwmany rbwf rbsf ranoi raobs rares ralmany ralgens ralplf ralpaf ralogf raldrf ralspf ralscf rawmany rawf rasf) fun (u1 : Int32) (u2 : Int32) (u3 : Int32) (u4 : Int32) (u5 : Int32) (f6 : Nat → Int32) (f7 : Nat → Int32) (f8 : Nat → Int32) (f9 : Nat → Int32) (f10 : Nat → Int32) (f11 : Nat → Int32) (u12 : Int32) (f13 : Nat → Int32) (f14 : Nat → Int32) =>
  (am_call10 (F_X4_beginAnew u1 u2 u3 u4 u5 f6 f8 u12 f13 p0 p1 p2) fun (r15 : Int32) (u16 : Int32) (u17 : Int32) (u18 : Int32) (u19 : Int32) (u20 : Int32) (f21 : Nat → Int32) (f22 : Nat → Int32) (u23 : Int32) (f24 : Nat → Int32) =>
  some (r15, u16, u17, u18, u19, u20, f21, f7, f22, f9, f10, f11, u23, f24, f14)))
noncomputable def F_X6_weigh (ranoi : Int32) (raobs : Int32) (rares : Int32) (ralmany : Int32) (ralgens : Int32) (ralplf : Nat → Int32) (ralpaf : Nat → Int32) (ralogf : Nat → Int32) (raldrf : Nat → Int32) (ralspf : Nat → Int32) (ralscf : Nat → Int32) (rawmany : Int32) (rawf : Nat → Int32) (rasf : Nat → Int32) (rbnoi : Int32) (rbobs : Int32) (rbres : Int32) (rblmany : Int32) (rblgens : Int32) (rblplf : Nat → Int32) (rblpaf : Nat → Int32) (rblogf : Nat → Int32) (rbldrf : Nat → Int32) (rblspf : Nat → Int32) (rblscf : Nat → Int32) (rbwmany : Int32) (rbwf : Nat → Int32) (rbsf : Nat → Int32) (p0 : Int32) (p1 : Int32) : Option (Int32 × Int32 × Int32 × Int32 × Int32 × Int32 × (Nat → Int32) × (Nat → Int32) × (Nat → Int32) × (Nat → Int32) × (Nat → Int32) × (Nat → Int32) × Int32 × (Nat → Int32) × (Nat → Int32)) :=
  (am_call14 (F_X4_copyState rbnoi rbobs rbres rblmany rblgens rblplf rblpaf rblogf rbldrf rblspf rblscf rbwmany rbwf rbsf ranoi raobs rares ralmany ralgens ralplf ralpaf ralogf raldrf ralspf ralscf rawmany rawf rasf) fun (u1 : Int32) (u2 : Int32) (u3 : Int32) (u4 : Int32) (u5 : Int32) (f6 : Nat → Int32) (f7 : Nat → Int32) (f8 : Nat → Int32) (f9 : Nat → Int32) (f10 : Nat → Int32) (f11 : Nat → Int32) (u12 : Int32) (f13 : Nat → Int32) (f14 : Nat → Int32) =>
  (am_call2 (F_X4_changeWeight u4 u12 f13 p0 p1) fun (r15 : Int32) (f16 : Nat → Int32) =>
  some (r15, u1, u2, u3, u4, u5, f6, f7, f8, f9, f10, f11, u12, f16, f14)))
noncomputable def F_X6_move (ranoi : Int32) (raobs : Int32) (rares : Int32) (ralmany : Int32) (ralgens : Int32) (ralplf : Nat → Int32) (ralpaf : Nat → Int32) (ralogf : Nat → Int32) (raldrf : Nat → Int32) (ralspf : Nat → Int32) (ralscf : Nat → Int32) (rawmany : Int32) (rawf : Nat → Int32) (rasf : Nat → Int32) (rbnoi : Int32) (rbobs : Int32) (rbres : Int32) (rblmany : Int32) (rblgens : Int32) (rblplf : Nat → Int32) (rblpaf : Nat → Int32) (rblogf : Nat → Int32) (rbldrf : Nat → Int32) (rblspf : Nat → Int32) (rblscf : Nat → Int32) (rbwmany : Int32) (rbwf : Nat → Int32) (rbsf : Nat → Int32) (p0 : Int32) (p1 : Int32) : Option (Int32 × Int32 × Int32 × Int32 × Int32 × Int32 × (Nat → Int32) × (Nat → Int32) × (Nat → Int32) × (Nat → Int32) × (Nat → Int32) × (Nat → Int32) × Int32 × (Nat → Int32) × (Nat → Int32)) :=
  (am_call14 (F_X4_copyState rbnoi rbobs rbres rblmany rblgens rblplf rblpaf rblogf rbldrf rblspf rblscf rbwmany rbwf rbsf ranoi raobs rares ralmany ralgens ralplf ralpaf ralogf raldrf ralspf ralscf rawmany rawf rasf) fun (u1 : Int32) (u2 : Int32) (u3 : Int32) (u4 : Int32) (u5 : Int32) (f6 : Nat → Int32) (f7 : Nat → Int32) (f8 : Nat → Int32) (f9 : Nat → Int32) (f10 : Nat → Int32) (f11 : Nat → Int32) (u12 : Int32) (f13 : Nat → Int32) (f14 : Nat → Int32) =>
  (am_call8 (F_X4_shift u1 u4 u5 f6 f7 f8 f9 f10 p0 p1) fun (r15 : Int32) (u16 : Int32) (u17 : Int32) (f18 : Nat → Int32) (f19 : Nat → Int32) (f20 : Nat → Int32) (f21 : Nat → Int32) (f22 : Nat → Int32) =>
  some (r15, u16, u2, u3, u4, u17, f18, f19, f20, f21, f22, f11, u12, f13, f14)))
noncomputable def F_X6_observe (ranoi : Int32) (raobs : Int32) (rares : Int32) (ralmany : Int32) (ralgens : Int32) (ralplf : Nat → Int32) (ralpaf : Nat → Int32) (ralogf : Nat → Int32) (raldrf : Nat → Int32) (ralspf : Nat → Int32) (ralscf : Nat → Int32) (rawmany : Int32) (rawf : Nat → Int32) (rasf : Nat → Int32) (rbnoi : Int32) (rbobs : Int32) (rbres : Int32) (rblmany : Int32) (rblgens : Int32) (rblplf : Nat → Int32) (rblpaf : Nat → Int32) (rblogf : Nat → Int32) (rbldrf : Nat → Int32) (rblspf : Nat → Int32) (rblscf : Nat → Int32) (rbwmany : Int32) (rbwf : Nat → Int32) (rbsf : Nat → Int32) (chnoi : Int32) (chanc : Nat → Int32) (chrst : Nat → Int64) (p0 : Int32) (p1 : Int32) : Option (Int32 × Int32 × Int32 × Int32 × Int32 × Int32 × (Nat → Int32) × (Nat → Int32) × (Nat → Int32) × (Nat → Int32) × (Nat → Int32) × (Nat → Int32) × Int32 × (Nat → Int32) × (Nat → Int32) × Int32 × (Nat → Int32) × (Nat → Int64)) :=
  (am_call14 (F_X4_copyState rbnoi rbobs rbres rblmany rblgens rblplf rblpaf rblogf rbldrf rblspf rblscf rbwmany rbwf rbsf ranoi raobs rares ralmany ralgens ralplf ralpaf ralogf raldrf ralspf ralscf rawmany rawf rasf) fun (u1 : Int32) (u2 : Int32) (u3 : Int32) (u4 : Int32) (u5 : Int32) (f6 : Nat → Int32) (f7 : Nat → Int32) (f8 : Nat → Int32) (f9 : Nat → Int32) (f10 : Nat → Int32) (f11 : Nat → Int32) (u12 : Int32) (f13 : Nat → Int32) (f14 : Nat → Int32) =>
  (am_call14 (F_X4_look u1 u2 u3 u4 u5 f6 f7 f8 f11 u12 f13 f14 chnoi chanc chrst p0 p1) fun (r15 : Int32) (u16 : Int32) (u17 : Int32) (u18 : Int32) (u19 : Int32) (f20 : Nat → Int32) (f21 : Nat → Int32) (f22 : Nat → Int32) (f23 : Nat → Int32) (u24 : Int32) (f25 : Nat → Int32) (u26 : Int32) (f27 : Nat → Int32) (f28 : Nat → Int64) =>
  some (r15, u16, u17, u18, u4, u19, f20, f21, f22, f9, f10, f23, u24, f25, f14, u26, f27, f28)))
noncomputable def F_X6_resample (ranoi : Int32) (raobs : Int32) (rares : Int32) (ralmany : Int32) (ralgens : Int32) (ralplf : Nat → Int32) (ralpaf : Nat → Int32) (ralogf : Nat → Int32) (raldrf : Nat → Int32) (ralspf : Nat → Int32) (ralscf : Nat → Int32) (rawmany : Int32) (rawf : Nat → Int32) (rasf : Nat → Int32) (rbnoi : Int32) (rbobs : Int32) (rbres : Int32) (rblmany : Int32) (rblgens : Int32) (rblplf : Nat → Int32) (rblpaf : Nat → Int32) (rblogf : Nat → Int32) (rbldrf : Nat → Int32) (rblspf : Nat → Int32) (rblscf : Nat → Int32) (rbwmany : Int32) (rbwf : Nat → Int32) (rbsf : Nat → Int32) (chnoi : Int32) (chanc : Nat → Int32) (chrst : Nat → Int64) : Option (Int32 × Int32 × Int32 × Int32 × Int32 × Int32 × (Nat → Int32) × (Nat → Int32) × (Nat → Int32) × (Nat → Int32) × (Nat → Int32) × (Nat → Int32) × Int32 × (Nat → Int32) × (Nat → Int32) × Int32 × (Nat → Int32) × (Nat → Int64)) :=
  (am_call14 (F_X4_copyState rbnoi rbobs rbres rblmany rblgens rblplf rblpaf rblogf rbldrf rblspf rblscf rbwmany rbwf rbsf ranoi raobs rares ralmany ralgens ralplf ralpaf ralogf raldrf ralspf ralscf rawmany rawf rasf) fun (u1 : Int32) (u2 : Int32) (u3 : Int32) (u4 : Int32) (u5 : Int32) (f6 : Nat → Int32) (f7 : Nat → Int32) (f8 : Nat → Int32) (f9 : Nat → Int32) (f10 : Nat → Int32) (f11 : Nat → Int32) (u12 : Int32) (f13 : Nat → Int32) (f14 : Nat → Int32) =>
  (am_call13 (F_X4_renew u1 u3 u4 u5 f6 f7 f8 f11 u12 f13 f14 chnoi chanc chrst) fun (r15 : Int32) (u16 : Int32) (u17 : Int32) (u18 : Int32) (f19 : Nat → Int32) (f20 : Nat → Int32) (f21 : Nat → Int32) (f22 : Nat → Int32) (u23 : Int32) (f24 : Nat → Int32) (u25 : Int32) (f26 : Nat → Int32) (f27 : Nat → Int64) =>
  some (r15, u16, u2, u17, u4, u18, f19, f20, f21, f9, f10, f22, u23, f24, f14, u25, f26, f27)))
noncomputable def F_X6_set (ranoi : Int32) (raobs : Int32) (rares : Int32) (ralmany : Int32) (ralgens : Int32) (ralplf : Nat → Int32) (ralpaf : Nat → Int32) (ralogf : Nat → Int32) (raldrf : Nat → Int32) (ralspf : Nat → Int32) (ralscf : Nat → Int32) (rawmany : Int32) (rawf : Nat → Int32) (rasf : Nat → Int32) (rbnoi : Int32) (rbobs : Int32) (rbres : Int32) (rblmany : Int32) (rblgens : Int32) (rblplf : Nat → Int32) (rblpaf : Nat → Int32) (rblogf : Nat → Int32) (rbldrf : Nat → Int32) (rblspf : Nat → Int32) (rblscf : Nat → Int32) (rbwmany : Int32) (rbwf : Nat → Int32) (rbsf : Nat → Int32) (p0 : Int32) (p1 : Int32) : Option (Int32 × Int32 × Int32 × Int32 × Int32 × Int32 × (Nat → Int32) × (Nat → Int32) × (Nat → Int32) × (Nat → Int32) × (Nat → Int32) × (Nat → Int32) × Int32 × (Nat → Int32) × (Nat → Int32)) :=
  (am_call14 (F_X4_copyState rbnoi rbobs rbres rblmany rblgens rblplf rblpaf rblogf rbldrf rblspf rblscf rbwmany rbwf rbsf ranoi raobs rares ralmany ralgens ralplf ralpaf ralogf raldrf ralspf ralscf rawmany rawf rasf) fun (u1 : Int32) (u2 : Int32) (u3 : Int32) (u4 : Int32) (u5 : Int32) (f6 : Nat → Int32) (f7 : Nat → Int32) (f8 : Nat → Int32) (f9 : Nat → Int32) (f10 : Nat → Int32) (f11 : Nat → Int32) (u12 : Int32) (f13 : Nat → Int32) (f14 : Nat → Int32) =>
  (am_call2 (F_X4_putSetting f14 p0 p1) fun (r15 : Int32) (f16 : Nat → Int32) =>
  some (r15, u1, u2, u3, u4, u5, f6, f7, f8, f9, f10, f11, u12, f13, f16)))
def keepRec (rec : Int32) : Int32 := if (4 : Int32) < (rec + (1 : Int32)) then (4 : Int32) else (rec + (1 : Int32))
theorem keep_pos_F (rec p : Int32) : F_X6_keepDraftUnlessError_pos rec p = some (p, keepRec rec) := rfl
theorem keep_neg_F (rec p : Int32) : F_X6_keepDraftUnlessError_neg rec p = some p := rfl
