-- resampling, on both sides
section Resam
variable {N G z th sc of : Nat} {w : Nat → Nat} {pl pa : Nat → Nat → Nat} {s : Nat → Int32} {noi obs res lmany lgens : Int32} {lplf lpaf logf ldrf lspf lscf : Nat → Int32} {wmany : Int32} {wf sf : Nat → Int32}
end Resam

