-- readings of the outer class, printed by wip/whole/gen.py
noncomputable def F_X6_keepDraftUnlessError_neg (rec : Int32) (p0 : Int32) : Option (Int32) :=
  some p0
noncomputable def F_X6_keepDraftUnlessError_pos (rec : Int32) (p0 : Int32) : Option (Int32 × Int32) :=
  am_let (if (4 : Int32) < (rec + (1 : Int32)) then (4 : Int32) else (rec + (1 : Int32))) fun (x1 : Int32) =>
  some (p0, x1)
noncomputable def F_X6_undo_neg (rec : Int32) : Option (Int32) :=
  some (-1000002 : Int32)
noncomputable def F_X6_undo_pos (rec : Int32) : Option (Int32 × Int32) :=
  am_let (rec - (1 : Int32)) fun (x1 : Int32) =>
  some (x1, x1)
noncomputable def F_X6_particleOf (ralmany : Int32) (ralgens : Int32) (ralplf : Nat → Int32) (ralpaf : Nat → Int32) (rawmany : Int32) (rawf : Nat → Int32) (p0 : Int32) (p1 : Int32) : Option (Int32) :=
  (Option.bind (F_X4_hasParticle ralmany p0) fun (r1 : Int32) =>
  (if r1 = 0 then
  some (-1000001 : Int32)
else
  (Option.bind (F_X6_isWithin p1 (0 : Int32) (6 : Int32)) fun (r2 : Int32) =>
  (if r2 = 0 then
  some (-1000001 : Int32)
else
  (Option.bind (F_X4_tellOfParticle ralmany ralgens ralplf ralpaf rawmany rawf p0 p1) fun (r3 : Int32) =>
  some r3)))))
noncomputable def F_X6_generationOf (ralmany : Int32) (ralgens : Int32) (ralplf : Nat → Int32) (ralpaf : Nat → Int32) (ralogf : Nat → Int32) (raldrf : Nat → Int32) (ralspf : Nat → Int32) (ralscf : Nat → Int32) (p0 : Int32) (p1 : Int32) : Option (Int32) :=
  (Option.bind (F_X4_hasGeneration ralgens p0) fun (r1 : Int32) =>
  (if r1 = 0 then
  some (-1000001 : Int32)
else
  (Option.bind (F_X6_isWithin p1 (0 : Int32) (5 : Int32)) fun (r2 : Int32) =>
  (if r2 = 0 then
  some (-1000001 : Int32)
else
  (Option.bind (F_X4_tellOfGeneration ralmany ralgens ralplf ralpaf ralogf raldrf ralspf ralscf p0 p1) fun (r3 : Int32) =>
  some r3)))))
noncomputable def F_X6_ancestor (ralmany : Int32) (ralgens : Int32) (ralplf : Nat → Int32) (ralpaf : Nat → Int32) (p0 : Int32) (p1 : Int32) (p2 : Int32) : Option (Int32) :=
  (Option.bind (F_X4_hasParticle ralmany p0) fun (r1 : Int32) =>
  (if r1 = 0 then
  some (-1000001 : Int32)
else
  (Option.bind (F_X4_hasGeneration ralgens p1) fun (r2 : Int32) =>
  (if r2 = 0 then
  some (-1000001 : Int32)
else
  (Option.bind (F_X6_isWithin p2 (0 : Int32) (1 : Int32)) fun (r3 : Int32) =>
  (if r3 = 0 then
  some (-1000001 : Int32)
else
  (Option.bind (F_X4_tellOfAncestor ralgens ralplf ralpaf p0 p1 p2) fun (r4 : Int32) =>
  some r4)))))))
noncomputable def F_X6_common (ralmany : Int32) (ralgens : Int32) (ralpaf : Nat → Int32) (p0 : Int32) (p1 : Int32) : Option (Int32) :=
  (Option.bind (F_X4_hasParticle ralmany p0) fun (r1 : Int32) =>
  (if r1 = 0 then
  some (-1000001 : Int32)
else
  (Option.bind (F_X4_hasParticle ralmany p1) fun (r2 : Int32) =>
  (if r2 = 0 then
  some (-1000001 : Int32)
else
  (Option.bind (F_X4_meetingOfTwo ralgens ralpaf p0 p1) fun (r3 : Int32) =>
  some r3)))))
noncomputable def F_X6_root (ralmany : Int32) (ralgens : Int32) (ralpaf : Nat → Int32) : Option (Int32) :=
  (Option.bind (F_X4_meetingOfAll ralmany ralgens ralpaf) fun (r1 : Int32) =>
  some r1)
noncomputable def F_X6_mean (ralmany : Int32) (ralgens : Int32) (ralplf : Nat → Int32) (ralpaf : Nat → Int32) (rawmany : Int32) (rawf : Nat → Int32) (p0 : Int32) (p1 : Int32) : Option (Int32) :=
  (Option.bind (F_X4_hasGeneration ralgens p0) fun (r1 : Int32) =>
  (if r1 = 0 then
  some (-1000001 : Int32)
else
  (Option.bind (F_X6_isWithin p1 (0 : Int32) (1 : Int32)) fun (r2 : Int32) =>
  (if r2 = 0 then
  some (-1000001 : Int32)
else
  (Option.bind (F_X4_partOfMean ralmany ralgens ralplf ralpaf rawmany rawf p0 p1) fun (r3 : Int32) =>
  some r3)))))
noncomputable def F_X6_share (ralmany : Int32) (ralgens : Int32) (ralplf : Nat → Int32) (ralpaf : Nat → Int32) (rawmany : Int32) (rawf : Nat → Int32) (p0 : Int32) (p1 : Int32) (p2 : Int32) (p3 : Int32) : Option (Int32) :=
  (Option.bind (F_X4_hasGeneration ralgens p0) fun (r1 : Int32) =>
  (if r1 = 0 then
  some (-1000001 : Int32)
else
  (Option.bind (F_X6_isWithin p1 (0 : Int32) (99 : Int32)) fun (r2 : Int32) =>
  (if r2 = 0 then
  some (-1000001 : Int32)
else
  (Option.bind (F_X6_isWithin p2 (0 : Int32) (99 : Int32)) fun (r3 : Int32) =>
  (if r3 = 0 then
  some (-1000001 : Int32)
else
  (Option.bind (F_X6_isWithin p3 (0 : Int32) (1 : Int32)) fun (r4 : Int32) =>
  (if r4 = 0 then
  some (-1000001 : Int32)
else
  (Option.bind (F_X4_partOfShare ralmany ralgens ralplf ralpaf rawmany rawf p0 p1 p2 p3) fun (r5 : Int32) =>
  some r5)))))))))
noncomputable def F_X6_would (ranoi : Int32) (ralmany : Int32) (rawmany : Int32) (rawf : Nat → Int32) (rasf : Nat → Int32) (chnoi : Int32) (chanc : Nat → Int32) (chrst : Nat → Int64) (p0 : Int32) (p1 : Int32) : Option (Int32 × Int32 × (Nat → Int32) × (Nat → Int64)) :=
  (Option.bind (F_X6_isWithin p0 (0 : Int32) (2 : Int32)) fun (r1 : Int32) =>
  (if r1 = 0 then
  some ((-1000001 : Int32), chnoi, chanc, chrst)
else
  (Option.bind (F_X4_hasParticle ralmany p1) fun (r2 : Int32) =>
  (if r2 = 0 then
  some ((-1000001 : Int32), chnoi, chanc, chrst)
else
  (am_call4 (F_X4_chosenBy ranoi rawmany rawf rasf chnoi chanc chrst p0 p1) fun (r3 : Int32) (u4 : Int32) (f5 : Nat → Int32) (f6 : Nat → Int64) =>
  some (r3, u4, f5, f6))))))
noncomputable def F_X6_count (rec : Int32) (ranoi : Int32) (raobs : Int32) (rares : Int32) (ralmany : Int32) (ralgens : Int32) (ralplf : Nat → Int32) (rawmany : Int32) (rawf : Nat → Int32) (rasf : Nat → Int32) (sclen : Int32) (p0 : Int32) : Option (Int32) :=
  (if p0 = (9 : Int32) then
  some rec
else
  (if p0 = (10 : Int32) then
  (Option.bind (F_X3_length sclen) fun (r2 : Int32) =>
  some r2)
else
  (Option.bind (F_X4_number ranoi raobs rares ralmany ralgens ralplf rawmany rawf rasf p0) fun (r1 : Int32) =>
  some r1)))
noncomputable def F_X6_type (sclen : Int32) (scch : Nat → Int32) (p0 : Int32) : Option (Int32 × Int32 × (Nat → Int32)) :=
  (Option.bind (F_X6_isWithin p0 (32 : Int32) (126 : Int32)) fun (r1 : Int32) =>
  (if r1 = 0 then
  some ((-1000001 : Int32), sclen, scch)
else
  (am_call3 (F_X3_append sclen scch p0) fun (r2 : Int32) (u3 : Int32) (f4 : Nat → Int32) =>
  some (r2, u3, f4))))
noncomputable def F_X6_clearText (sclen : Int32) : Option (Int32 × Int32) :=
  (am_call2 (F_X3_empty sclen) fun (r1 : Int32) (u2 : Int32) =>
  some (r1, u2))
noncomputable def F_X6_fault (ranoi : Int32) (raobs : Int32) (rares : Int32) (ralmany : Int32) (ralgens : Int32) (ralplf : Nat → Int32) (ralpaf : Nat → Int32) (ralogf : Nat → Int32) (raldrf : Nat → Int32) (ralspf : Nat → Int32) (ralscf : Nat → Int32) (rawmany : Int32) (rawf : Nat → Int32) (rasf : Nat → Int32) (rbnoi : Int32) (rbobs : Int32) (rbres : Int32) (rblmany : Int32) (rblgens : Int32) (rblplf : Nat → Int32) (rblpaf : Nat → Int32) (rblogf : Nat → Int32) (rbldrf : Nat → Int32) (rblspf : Nat → Int32) (rblscf : Nat → Int32) (rbwmany : Int32) (rbwf : Nat → Int32) (rbsf : Nat → Int32) (sclen : Int32) (scsta : Int32) (scpos : Int32) (sckin : Int32) (scfst : Int32) (scsnd : Int32) (scdon : Int32) (screa : Int32) (sccau : Int32) (scch : Nat → Int32) (chnoi : Int32) (chanc : Nat → Int32) (chrst : Nat → Int64) (p0 : Int32) : Option (Int32 × Int32 × Int32 × Int32 × Int32 × Int32 × (Nat → Int32) × (Nat → Int32) × (Nat → Int32) × (Nat → Int32) × (Nat → Int32) × (Nat → Int32) × Int32 × (Nat → Int32) × (Nat → Int32) × Int32 × Int32 × Int32 × Int32 × Int32 × Int32 × Int32 × Int32 × Int32 × (Nat → Int32) × (Nat → Int64)) :=
  (Option.bind (F_X6_isWithin p0 (0 : Int32) (2 : Int32)) fun (r1 : Int32) =>
  (if r1 = 0 then
  some ((-1000001 : Int32), rbnoi, rbobs, rbres, rblmany, rblgens, rblplf, rblpaf, rblogf, rbldrf, rblspf, rblscf, rbwmany, rbwf, rbsf, scsta, scpos, sckin, scfst, scsnd, scdon, screa, sccau, chnoi, chanc, chrst)
else
  (am_call14 (F_X4_copyState rbnoi rbobs rbres rblmany rblgens rblplf rblpaf rblogf rbldrf rblspf rblscf rbwmany rbwf rbsf ranoi raobs rares ralmany ralgens ralplf ralpaf ralogf raldrf ralspf ralscf rawmany rawf rasf) fun (u2 : Int32) (u3 : Int32) (u4 : Int32) (u5 : Int32) (u6 : Int32) (f7 : Nat → Int32) (f8 : Nat → Int32) (f9 : Nat → Int32) (f10 : Nat → Int32) (f11 : Nat → Int32) (f12 : Nat → Int32) (u13 : Int32) (f14 : Nat → Int32) (f15 : Nat → Int32) =>
  (am_call24 (F_X3_perform sclen scsta scpos sckin scfst scsnd scdon screa sccau scch u2 u3 u4 u5 u6 f7 f8 f9 f10 f11 f12 u13 f14 f15 chnoi chanc chrst) fun (r16 : Int32) (u17 : Int32) (u18 : Int32) (u19 : Int32) (u20 : Int32) (u21 : Int32) (u22 : Int32) (u23 : Int32) (u24 : Int32) (u25 : Int32) (u26 : Int32) (u27 : Int32) (u28 : Int32) (f29 : Nat → Int32) (f30 : Nat → Int32) (f31 : Nat → Int32) (f32 : Nat → Int32) (f33 : Nat → Int32) (f34 : Nat → Int32) (u35 : Int32) (f36 : Nat → Int32) (u37 : Int32) (f38 : Nat → Int32) (f39 : Nat → Int64) =>
  (if r16 = 0 then
  (Option.bind (F_X3_tellOfFault u17 u23 u24 p0) fun (r40 : Int32) =>
  some (r40, u25, u26, u27, u5, u28, f29, f30, f31, f32, f33, f34, u35, f36, f15, u17, u18, u19, u20, u21, u22, u23, u24, u37, f38, f39))
else
  some ((-1000004 : Int32), u25, u26, u27, u5, u28, f29, f30, f31, f32, f33, f34, u35, f36, f15, u17, u18, u19, u20, u21, u22, u23, u24, u37, f38, f39))))))
noncomputable def F_X6_begin (ranoi : Int32) (raobs : Int32) (rares : Int32) (ralmany : Int32) (ralgens : Int32) (ralplf : Nat → Int32) (ralpaf : Nat → Int32) (ralogf : Nat → Int32) (raldrf : Nat → Int32) (ralspf : Nat → Int32) (ralscf : Nat → Int32) (rawmany : Int32) (rawf : Nat → Int32) (rasf : Nat → Int32) (rbnoi : Int32) (rbobs : Int32) (rbres : Int32) (rblmany : Int32) (rblgens : Int32) (rblplf : Nat → Int32) (rblpaf : Nat → Int32) (rblogf : Nat → Int32) (rbldrf : Nat → Int32) (rblspf : Nat → Int32) (rblscf : Nat → Int32) (rbwmany : Int32) (rbwf : Nat → Int32) (rbsf : Nat → Int32) (p0 : Int32) (p1 : Int32) (p2 : Int32) : Option (Int32 × Int32 × Int32 × Int32 × Int32 × Int32 × (Nat → Int32) × (Nat → Int32) × (Nat → Int32) × (Nat → Int32) × (Nat → Int32) × (Nat → Int32) × Int32 × (Nat → Int32) × (Nat → Int32)) :=
  (am_call14 (F_X4_copyState rbnoi rbobs rbres rblmany rblgens rblplf rblpaf rblogf rbldrf rblspf rblscf rbwmany rbwf rbsf ranoi raobs rares ralmany ralgens ralplf ralpaf ralogf raldrf ralspf ralscf rawmany rawf rasf) fun (u1 : Int32) (u2 : Int32) (u3 : Int32) (u4 : Int32) (u5 : Int32) (f6 : Nat → Int32) (f7 : Nat → Int32) (f8 : Nat → Int32) (f9 : Nat → Int32) (f10 : Nat → Int32) (f11 : Nat → Int32) (u12 : Int32) (f13 : Nat → Int32) (f14 : Nat → Int32) =>
  (am_call10 (F_X4_beginAnew u1 u2 u3 u4 u5 f6 f8 u12 f13 p0 p1 p2) fun (r15 : Int32) (u16 : Int32) (u17 : Int32) (u18 : Int32) (u19 : Int32) (u20 : Int32) (f21 : Nat → Int32) (f22 : Nat → Int32) (u23 : Int32) (f24 : Nat → Int32) =>
  some (r15, u16, u17, u18, u19, u20, f21, f7, f22, f9, f10, f11, u23, f24, f14)))
noncomputable def F_X6_weigh (ranoi : Int32) (raobs : Int32) (rares : Int32) (ralmany : Int32) (ralgens : Int32) (ralplf : Nat → Int32) (ralpaf : Nat → Int32) (ralogf : Nat → Int32) (raldrf : Nat → Int32) (ralspf : Nat → Int32) (ralscf : Nat → Int32) (rawmany : Int32) (rawf : Nat → Int32) (rasf : Nat → Int32) (rbnoi : Int32) (rbobs : Int32) (rbres : Int32) (rblmany : Int32) (rblgens : Int32) (rblplf : Nat → Int32) (rblpaf : Nat → Int32) (rblogf : Nat → Int32) (rbldrf : Nat → Int32) (rblspf : Nat → Int32) (rblscf : Nat → Int32) (rbwmany : Int32) (rbwf : Nat → Int32) (rbsf : Nat → Int32) (p0 : Int32) (p1 : Int32) : Option (Int32 × Int32 × Int32 × Int32 × Int32 × Int32 × (Nat → Int32) × (Nat → Int32) × (Nat → Int32) × (Nat → Int32) × (Nat → Int32) × (Nat → Int32) × Int32 × (Nat → Int32) × (Nat → Int32)) :=
  (am_call14 (F_X4_copyState rbnoi rbobs rbres rblmany rblgens rblplf rblpaf rblogf rbldrf rblspf rblscf rbwmany rbwf rbsf ranoi raobs rares ralmany ralgens ralplf ralpaf ralogf raldrf ralspf ralscf rawmany rawf rasf) fun (u1 : Int32) (u2 : Int32) (u3 : Int32) (u4 : Int32) (u5 : Int32) (f6 : Nat → Int32) (f7 : Nat → Int32) (f8 : Nat → Int32) (f9 : Nat → Int32) (f10 : Nat → Int32) (f11 : Nat → Int32) (u12 : Int32) (f13 : Nat → Int32) (f14 : Nat → Int32) =>
  (am_call2 (F_X4_changeWeight u4 u12 f13 p0 p1) fun (r15 : Int32) (f16 : Nat → Int32) =>
  some (r15, u1, u2, u3, u4, u5, f6, f7, f8, f9, f10, f11, u12, f16, f14)))
noncomputable def F_X6_move (ranoi : Int32) (raobs : Int32) (rares : Int32) (ralmany : Int32) (ralgens : Int32) (ralplf : Nat → Int32) (ralpaf : Nat → Int32) (ralogf : Nat → Int32) (raldrf : Nat → Int32) (ralspf : Nat → Int32) (ralscf : Nat → Int32) (rawmany : Int32) (rawf : Nat → Int32) (rasf : Nat → Int32) (rbnoi : Int32) (rbobs : Int32) (rbres : Int32) (rblmany : Int32) (rblgens : Int32) (rblplf : Nat → Int32) (rblpaf : Nat → Int32) (rblogf : Nat → Int32) (rbldrf : Nat → Int32) (rblspf : Nat → Int32) (rblscf : Nat → Int32) (rbwmany : Int32) (rbwf : Nat → Int32) (rbsf : Nat → Int32) (p0 : Int32) (p1 : Int32) : Option (Int32 × Int32 × Int32 × Int32 × Int32 × Int32 × (Nat → Int32) × (Nat → Int32) × (Nat → Int32) × (Nat → Int32) × (Nat → Int32) × (Nat → Int32) × Int32 × (Nat → Int32) × (Nat → Int32)) :=
  (am_call14 (F_X4_copyState rbnoi rbobs rbres rblmany rblgens rblplf rblpaf rblogf rbldrf rblspf rblscf rbwmany rbwf rbsf ranoi raobs rares ralmany ralgens ralplf ralpaf ralogf raldrf ralspf ralscf rawmany rawf rasf) fun (u1 : Int32) (u2 : Int32) (u3 : Int32) (u4 : Int32) (u5 : Int32) (f6 : Nat → Int32) (f7 : Nat → Int32) (f8 : Nat → Int32) (f9 : Nat → Int32) (f10 : Nat → Int32) (f11 : Nat → Int32) (u12 : Int32) (f13 : Nat → Int32) (f14 : Nat → Int32) =>
  (am_call8 (F_X4_shift u1 u4 u5 f6 f7 f8 f9 f10 p0 p1) fun (r15 : Int32) (u16 : Int32) (u17 : Int32) (f18 : Nat → Int32) (f19 : Nat → Int32) (f20 : Nat → Int32) (f21 : Nat → Int32) (f22 : Nat → Int32) =>
  some (r15, u16, u2, u3, u4, u17, f18, f19, f20, f21, f22, f11, u12, f13, f14)))
noncomputable def F_X6_observe (ranoi : Int32) (raobs : Int32) (rares : Int32) (ralmany : Int32) (ralgens : Int32) (ralplf : Nat → Int32) (ralpaf : Nat → Int32) (ralogf : Nat → Int32) (raldrf : Nat → Int32) (ralspf : Nat → Int32) (ralscf : Nat → Int32) (rawmany : Int32) (rawf : Nat → Int32) (rasf : Nat → Int32) (rbnoi : Int32) (rbobs : Int32) (rbres : Int32) (rblmany : Int32) (rblgens : Int32) (rblplf : Nat → Int32) (rblpaf : Nat → Int32) (rblogf : Nat → Int32) (rbldrf : Nat → Int32) (rblspf : Nat → Int32) (rblscf : Nat → Int32) (rbwmany : Int32) (rbwf : Nat → Int32) (rbsf : Nat → Int32) (chnoi : Int32) (chanc : Nat → Int32) (chrst : Nat → Int64) (p0 : Int32) (p1 : Int32) : Option (Int32 × Int32 × Int32 × Int32 × Int32 × Int32 × (Nat → Int32) × (Nat → Int32) × (Nat → Int32) × (Nat → Int32) × (Nat → Int32) × (Nat → Int32) × Int32 × (Nat → Int32) × (Nat → Int32) × Int32 × (Nat → Int32) × (Nat → Int64)) :=
  (am_call14 (F_X4_copyState rbnoi rbobs rbres rblmany rblgens rblplf rblpaf rblogf rbldrf rblspf rblscf rbwmany rbwf rbsf ranoi raobs rares ralmany ralgens ralplf ralpaf ralogf raldrf ralspf ralscf rawmany rawf rasf) fun (u1 : Int32) (u2 : Int32) (u3 : Int32) (u4 : Int32) (u5 : Int32) (f6 : Nat → Int32) (f7 : Nat → Int32) (f8 : Nat → Int32) (f9 : Nat → Int32) (f10 : Nat → Int32) (f11 : Nat → Int32) (u12 : Int32) (f13 : Nat → Int32) (f14 : Nat → Int32) =>
  (am_call14 (F_X4_look u1 u2 u3 u4 u5 f6 f7 f8 f11 u12 f13 f14 chnoi chanc chrst p0 p1) fun (r15 : Int32) (u16 : Int32) (u17 : Int32) (u18 : Int32) (u19 : Int32) (f20 : Nat → Int32) (f21 : Nat → Int32) (f22 : Nat → Int32) (f23 : Nat → Int32) (u24 : Int32) (f25 : Nat → Int32) (u26 : Int32) (f27 : Nat → Int32) (f28 : Nat → Int64) =>
  some (r15, u16, u17, u18, u4, u19, f20, f21, f22, f9, f10, f23, u24, f25, f14, u26, f27, f28)))
noncomputable def F_X6_resample (ranoi : Int32) (raobs : Int32) (rares : Int32) (ralmany : Int32) (ralgens : Int32) (ralplf : Nat → Int32) (ralpaf : Nat → Int32) (ralogf : Nat → Int32) (raldrf : Nat → Int32) (ralspf : Nat → Int32) (ralscf : Nat → Int32) (rawmany : Int32) (rawf : Nat → Int32) (rasf : Nat → Int32) (rbnoi : Int32) (rbobs : Int32) (rbres : Int32) (rblmany : Int32) (rblgens : Int32) (rblplf : Nat → Int32) (rblpaf : Nat → Int32) (rblogf : Nat → Int32) (rbldrf : Nat → Int32) (rblspf : Nat → Int32) (rblscf : Nat → Int32) (rbwmany : Int32) (rbwf : Nat → Int32) (rbsf : Nat → Int32) (chnoi : Int32) (chanc : Nat → Int32) (chrst : Nat → Int64) : Option (Int32 × Int32 × Int32 × Int32 × Int32 × Int32 × (Nat → Int32) × (Nat → Int32) × (Nat → Int32) × (Nat → Int32) × (Nat → Int32) × (Nat → Int32) × Int32 × (Nat → Int32) × (Nat → Int32) × Int32 × (Nat → Int32) × (Nat → Int64)) :=
  (am_call14 (F_X4_copyState rbnoi rbobs rbres rblmany rblgens rblplf rblpaf rblogf rbldrf rblspf rblscf rbwmany rbwf rbsf ranoi raobs rares ralmany ralgens ralplf ralpaf ralogf raldrf ralspf ralscf rawmany rawf rasf) fun (u1 : Int32) (u2 : Int32) (u3 : Int32) (u4 : Int32) (u5 : Int32) (f6 : Nat → Int32) (f7 : Nat → Int32) (f8 : Nat → Int32) (f9 : Nat → Int32) (f10 : Nat → Int32) (f11 : Nat → Int32) (u12 : Int32) (f13 : Nat → Int32) (f14 : Nat → Int32) =>
  (am_call13 (F_X4_renew u1 u3 u4 u5 f6 f7 f8 f11 u12 f13 f14 chnoi chanc chrst) fun (r15 : Int32) (u16 : Int32) (u17 : Int32) (u18 : Int32) (f19 : Nat → Int32) (f20 : Nat → Int32) (f21 : Nat → Int32) (f22 : Nat → Int32) (u23 : Int32) (f24 : Nat → Int32) (u25 : Int32) (f26 : Nat → Int32) (f27 : Nat → Int64) =>
  some (r15, u16, u2, u17, u4, u18, f19, f20, f21, f9, f10, f22, u23, f24, f14, u25, f26, f27)))
noncomputable def F_X6_set (ranoi : Int32) (raobs : Int32) (rares : Int32) (ralmany : Int32) (ralgens : Int32) (ralplf : Nat → Int32) (ralpaf : Nat → Int32) (ralogf : Nat → Int32) (raldrf : Nat → Int32) (ralspf : Nat → Int32) (ralscf : Nat → Int32) (rawmany : Int32) (rawf : Nat → Int32) (rasf : Nat → Int32) (rbnoi : Int32) (rbobs : Int32) (rbres : Int32) (rblmany : Int32) (rblgens : Int32) (rblplf : Nat → Int32) (rblpaf : Nat → Int32) (rblogf : Nat → Int32) (rbldrf : Nat → Int32) (rblspf : Nat → Int32) (rblscf : Nat → Int32) (rbwmany : Int32) (rbwf : Nat → Int32) (rbsf : Nat → Int32) (p0 : Int32) (p1 : Int32) : Option (Int32 × Int32 × Int32 × Int32 × Int32 × Int32 × (Nat → Int32) × (Nat → Int32) × (Nat → Int32) × (Nat → Int32) × (Nat → Int32) × (Nat → Int32) × Int32 × (Nat → Int32) × (Nat → Int32)) :=
  (am_call14 (F_X4_copyState rbnoi rbobs rbres rblmany rblgens rblplf rblpaf rblogf rbldrf rblspf rblscf rbwmany rbwf rbsf ranoi raobs rares ralmany ralgens ralplf ralpaf ralogf raldrf ralspf ralscf rawmany rawf rasf) fun (u1 : Int32) (u2 : Int32) (u3 : Int32) (u4 : Int32) (u5 : Int32) (f6 : Nat → Int32) (f7 : Nat → Int32) (f8 : Nat → Int32) (f9 : Nat → Int32) (f10 : Nat → Int32) (f11 : Nat → Int32) (u12 : Int32) (f13 : Nat → Int32) (f14 : Nat → Int32) =>
  (am_call2 (F_X4_putSetting f14 p0 p1) fun (r15 : Int32) (f16 : Nat → Int32) =>
  some (r15, u1, u2, u3, u4, u5, f6, f7, f8, f9, f10, f11, u12, f13, f16)))
noncomputable def F_X6_play (ranoi : Int32) (raobs : Int32) (rares : Int32) (ralmany : Int32) (ralgens : Int32) (ralplf : Nat → Int32) (ralpaf : Nat → Int32) (ralogf : Nat → Int32) (raldrf : Nat → Int32) (ralspf : Nat → Int32) (ralscf : Nat → Int32) (rawmany : Int32) (rawf : Nat → Int32) (rasf : Nat → Int32) (rbnoi : Int32) (rbobs : Int32) (rbres : Int32) (rblmany : Int32) (rblgens : Int32) (rblplf : Nat → Int32) (rblpaf : Nat → Int32) (rblogf : Nat → Int32) (rbldrf : Nat → Int32) (rblspf : Nat → Int32) (rblscf : Nat → Int32) (rbwmany : Int32) (rbwf : Nat → Int32) (rbsf : Nat → Int32) (sclen : Int32) (scsta : Int32) (scpos : Int32) (sckin : Int32) (scfst : Int32) (scsnd : Int32) (scdon : Int32) (screa : Int32) (sccau : Int32) (scch : Nat → Int32) (chnoi : Int32) (chanc : Nat → Int32) (chrst : Nat → Int64) : Option (Int32 × Int32 × Int32 × Int32 × Int32 × Int32 × (Nat → Int32) × (Nat → Int32) × (Nat → Int32) × (Nat → Int32) × (Nat → Int32) × (Nat → Int32) × Int32 × (Nat → Int32) × (Nat → Int32) × Int32 × Int32 × Int32 × Int32 × Int32 × Int32 × Int32 × Int32 × Int32 × (Nat → Int32) × (Nat → Int64)) :=
  (am_call14 (F_X4_copyState rbnoi rbobs rbres rblmany rblgens rblplf rblpaf rblogf rbldrf rblspf rblscf rbwmany rbwf rbsf ranoi raobs rares ralmany ralgens ralplf ralpaf ralogf raldrf ralspf ralscf rawmany rawf rasf) fun (u1 : Int32) (u2 : Int32) (u3 : Int32) (u4 : Int32) (u5 : Int32) (f6 : Nat → Int32) (f7 : Nat → Int32) (f8 : Nat → Int32) (f9 : Nat → Int32) (f10 : Nat → Int32) (f11 : Nat → Int32) (u12 : Int32) (f13 : Nat → Int32) (f14 : Nat → Int32) =>
  (am_call24 (F_X3_perform sclen scsta scpos sckin scfst scsnd scdon screa sccau scch u1 u2 u3 u4 u5 f6 f7 f8 f9 f10 f11 u12 f13 f14 chnoi chanc chrst) fun (r15 : Int32) (u16 : Int32) (u17 : Int32) (u18 : Int32) (u19 : Int32) (u20 : Int32) (u21 : Int32) (u22 : Int32) (u23 : Int32) (u24 : Int32) (u25 : Int32) (u26 : Int32) (u27 : Int32) (f28 : Nat → Int32) (f29 : Nat → Int32) (f30 : Nat → Int32) (f31 : Nat → Int32) (f32 : Nat → Int32) (f33 : Nat → Int32) (u34 : Int32) (f35 : Nat → Int32) (u36 : Int32) (f37 : Nat → Int32) (f38 : Nat → Int64) =>
  (if r15 = 0 then
  some ((-1000002 : Int32), u24, u25, u26, u4, u27, f28, f29, f30, f31, f32, f33, u34, f35, f14, u16, u17, u18, u19, u20, u21, u22, u23, u36, f37, f38)
else
  (Option.bind (F_X3_ordersDone u21) fun (r39 : Int32) =>
  some (r39, u24, u25, u26, u4, u27, f28, f29, f30, f31, f32, f33, u34, f35, f14, u16, u17, u18, u19, u20, u21, u22, u23, u36, f37, f38)))))
def keepRec (rec : Int32) : Int32 := if (4 : Int32) < (rec + (1 : Int32)) then (4 : Int32) else (rec + (1 : Int32))
theorem keep_pos_F (rec p : Int32) : F_X6_keepDraftUnlessError_pos rec p = some (p, keepRec rec) := rfl
theorem keep_neg_F (rec p : Int32) : F_X6_keepDraftUnlessError_neg rec p = some p := rfl
