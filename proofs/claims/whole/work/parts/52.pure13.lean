/-! ===== sums ===== -/
theorem wideN {x : Int32} (h : 0 ≤ x) : x.toInt64 = lN x.toNatClampNeg := by
  have e := jN h
  have e2 := nI_l (n := x.toNatClampNeg) (by omega)
  rw [← e.1] at e2
  exact e2
theorem lN_leI {a b : Nat} (ha : a < 2147483648) (hb : b < 2147483648) : lN a ≤ lN b ↔ a ≤ b := lN_le (by omega) (by omega)
def rf_has (nw w : Int32) : Int32 := if 0 ≤ w ∧ w < nw then 0 else -1
abbrev flo (st by9 : Int32) (n : Nat) : Int64 := lsum (fun k => lq ((nI k).toInt64 * st.toInt64) by9.toInt64) n
abbrev res9 (st by9 : Int32) (n : Nat) : Int64 := lsum (fun k => lr ((nI k).toInt64 * st.toInt64) by9.toInt64) n
theorem flo_z (by9 : Int32) (n : Nat) : lq ((nI n).toInt64 * (0 : Int32).toInt64) by9.toInt64 = 0 := by
  have e : (0 : Int32).toInt64 = 0 := rfl
  rw [e, Int64.mul_zero]
  unfold lq
  split
  · rfl
  · exact Int64.zero_div
theorem flo_0 (by9 : Int32) : ∀ n, flo 0 by9 n = 0
  | 0 => rfl
  | n + 1 => by
    have ih := flo_0 by9 n
    show flo 0 by9 n + lq ((nI n).toInt64 * (0 : Int32).toInt64) by9.toInt64 = 0
    rw [flo_z, ih]
    rfl
theorem okQ_0 {q : Int32} (hq : okQ q) : 0 ≤ q := by
  have h := hq.1
  rw [fa_le] at h ⊢
  have c0 : (0 : Int32).toInt = 0 := rfl
  have c2 : (2 : Int32).toInt = 2 := rfl
  omega
