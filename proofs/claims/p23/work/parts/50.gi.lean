-- lists as functions
def gI (l : List Int32) (k : Nat) : Int32 := l.getD k 0
def gF (l : List (Nat → Int32)) (k : Nat) : Nat → Int32 := l.getD k (fun _ => 0)
