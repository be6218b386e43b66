/-! ===== lots ===== -/
def sd (z : Int32) : Nat → Int32
  | 0 => z
  | i + 1 => fseed (fseed (sd z i))
def lotP (q nw : Int32) (v : Nat → Int32) (z : Int32) (i : Nat) : Int32 := rg_pb q v (rg_val v (fdraw (fseed (sd z i)) nw) 0) (fdraw (fseed (sd z i)) nw) (fdraw (fseed (fseed (sd z i))) 200).toInt64
def isum (f : Nat → Int32) : Nat → Int32
  | 0 => 0
  | i + 1 => isum f i + f i
def rf_lot (nw n k : Int32) : Int32 := if n < 1 then -4 else if 50 < n then -6 else if ¬ (0 ≤ k ∧ k < 2) then -2 else if nw = 0 then -3 else 0
def lotA (q nw : Int32) (v : Nat → Int32) (z : Int32) (n : Nat) (k : Int32) : Int32 := if k = 0 then nI (mk (lotP q nw v z) n).length else isum (lotP q nw v z) n
theorem n50 {n : Int32} (h1 : 1 ≤ n) (h2 : n ≤ 50) : 1 ≤ n.toNatClampNeg ∧ n.toNatClampNeg ≤ 50 := by
  rw [fa_le] at h1 h2
  have c1 : (1 : Int32).toInt = 1 := rfl
  have c2 : (50 : Int32).toInt = 50 := rfl
  have e : n.toNatClampNeg = n.toInt.toNat := rfl
  omega
