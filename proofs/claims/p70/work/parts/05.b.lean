def rw_ (o t : Int32) : Int32 := (if t < o then 10 else if o = t then 4 else 0) - o * o
def nb_ (o t : Int32) : Int32 := if rw_ o t < rw_ 0 t ∨ rw_ o t < rw_ 1 t ∨ rw_ o t < rw_ 2 t ∨ rw_ o t < rw_ 3 t then 0 else 1
def S_sounds (x y : Int32) : Int32 := if 0 ≤ x.toInt ∧ x.toInt ≤ 3 ∧ 0 ≤ y.toInt ∧ y.toInt ≤ 3 then rw_ x y else -1000
def S_best (y : Int32) : Int32 := if 0 ≤ y.toInt ∧ y.toInt ≤ 3 then (if y = 0 then 1 else if y = 1 then 2 else if y = 2 then 3 else 0) else -2
def S_image (k : Int32) : Int32 := if 0 ≤ k.toInt ∧ k.toInt ≤ 2 then 0 else -2
def S_kept (v : Int32) (f : Nat → Int32) : Nat → Int32 := if 0 ≤ v.toInt ∧ v.toInt ≤ 2 then upd f v.toInt.toNat 1 else f
def S_back (v : Int32) (f : Nat → Int32) : Int32 := if 0 ≤ v.toInt ∧ v.toInt ≤ 2 then (if (f v.toInt.toNat).toInt = 0 then -6 else 0) else -2
def S_row (a b n : Int32) : Int32 := if 0 ≤ a.toInt ∧ a.toInt ≤ 3 ∧ 0 ≤ b.toInt ∧ b.toInt ≤ 3 ∧ n.toInt ≤ 60 then (if n.toInt < 0 then -3 else 0) else -2
