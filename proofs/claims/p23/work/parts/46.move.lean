-- moves
theorem way_eq (x d m e : Int32) : x + ((d + m) - e) = ((x + d) + m) - e := by
  simp only [Int32.sub_eq_add_neg, Int32.add_assoc]
section Move
variable {N G z th sc of : Nat} {w : Nat → Nat} {pl pa : Nat → Nat → Nat} {s : Nat → Int32} {noi obs res lmany lgens : Int32} {lplf lpaf logf ldrf lspf lscf : Nat → Int32} {wmany : Int32} {wf sf : Nat → Int32}
def moveP (pl : Nat → Nat → Nat) (G z sp : Nat) (d : Int32) (k : Nat) : Nat := clampN (((nI (pl (G - 1) k) + d) + nI (nzk z (k + 1) % (2 * sp + 1))) - nI sp)
end Move

