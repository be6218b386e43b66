/-! ===== terms, the calls ===== -/
def rf_ter (nw w j : Int32) : Int32 := if ¬ (0 ≤ w ∧ w < nw) then -1 else if j < -1 then -4 else 0
def terA (a b L : Nat) (j : Int32) : Int32 := if j = -1 then nI L else if 0 ≤ j ∧ j < nI L then nI (eT a b j.toNatClampNeg) else -9
theorem asN {x : Int32} (h : 0 ≤ x) : x = nI x.toNatClampNeg := (jN h).1
theorem st_N {q s : Int32} (hq : okQ q) (h : 0 ≤ s ∧ s < q) : s.toNatClampNeg < 2000 := by
  have h1 := (okQ_N hq).2
  have h2 := h.2
  have h3 := h.1
  rw [fa_lt] at h2
  rw [fa_le] at h3
  have e1 : s.toNatClampNeg = s.toInt.toNat := rfl
  have e2 : q.toNatClampNeg = q.toInt.toNat := rfl
  have c0 : (0 : Int32).toInt = 0 := rfl
  omega
