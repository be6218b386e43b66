/-! ===== off ===== -/
def mx (x y : Int64) : Int64 := if y < x then x else y
theorem mx3 (m a b : Int64) : mx m (mx a b) = if a ≤ m then (if b ≤ m then m else b) else (if b ≤ a then a else b) := by
  unfold mx
  rw [fa_eq64]
  by_cases h1 : b < a <;> by_cases h2 : a ≤ m <;> by_cases h3 : b ≤ m <;> by_cases h4 : b ≤ a <;> simp only [h1, h2, h3, h4, if_true, if_false] <;> (try split) <;> rw [fa_lt64] at * <;> rw [fa_le64] at * <;> omega
def oBeh (q n : Int32) (S : List Int32) (i : Nat) : Int64 := (nI (i + 1)).toInt64 * q.toInt64 - (S.getD i 0).toInt64 * n.toInt64
def oAhe (q n : Int32) (S : List Int32) (i : Nat) : Int64 := (S.getD i 0).toInt64 * n.toInt64 - (nI i).toInt64 * q.toInt64
def ofF (q n : Int32) (S : List Int32) : Nat → Int64
  | 0 => 0
  | i + 1 => mx (ofF q n S i) (mx (oBeh q n S i) (oAhe q n S i))
theorem mulW {x y : Int32} {a b : Nat} (hx : 0 ≤ x.toInt ∧ x.toInt ≤ a) (hy : 0 ≤ y.toInt ∧ y.toInt ≤ b) (hab : a * b < 2147483648) : 0 ≤ (x.toInt64 * y.toInt64).toInt ∧ (x.toInt64 * y.toInt64).toInt ≤ (a * b : Nat) := by
  have h1 : 0 ≤ x.toInt * y.toInt := Int.mul_nonneg hx.1 hy.1
  have h2 : x.toInt * y.toInt ≤ (a : Int) * (b : Int) := Int.mul_le_mul hx.2 hy.2 hy.1 (by omega)
  have h3 : ((a * b : Nat) : Int) = (a : Int) * (b : Int) := Int.natCast_mul a b
  rw [fb_mulL (by rw [Int32.toInt_toInt64, Int32.toInt_toInt64]; omega) (by rw [Int32.toInt_toInt64, Int32.toInt_toInt64]; omega), Int32.toInt_toInt64, Int32.toInt_toInt64]
  omega
theorem mx_bd {x y : Int64} {c : Int} (hx : 0 ≤ x.toInt ∧ x.toInt ≤ c) (hy : y.toInt ≤ c) : 0 ≤ (mx x y).toInt ∧ (mx x y).toInt ≤ c := by
  unfold mx
  split
  · exact hx
  · rename_i h
    rw [fa_lt64] at h
    omega
theorem mx_le {x y : Int64} {c : Int} (hx : x.toInt ≤ c) (hy : y.toInt ≤ c) : (mx x y).toInt ≤ c := by
  unfold mx
  split
  · exact hx
  · exact hy
theorem ofF_bd {q n : Int32} {S : List Int32} (hq : okQ q) (hn : 1 ≤ n ∧ n ≤ 200) (hS : ∀ j, j < S.length → 0 ≤ S.getD j 0 ∧ S.getD j 0 < q) (hl : S.length ≤ 200) : ∀ i, i ≤ S.length → 0 ≤ (ofF q n S i).toInt ∧ (ofF q n S i).toInt ≤ 402000
  | 0, _ => by
    show 0 ≤ (0 : Int64).toInt ∧ (0 : Int64).toInt ≤ 402000
    have c0 : (0 : Int64).toInt = 0 := rfl
    omega
  | i + 1, h => by
    have ih := ofF_bd hq hn hS hl i (by omega)
    have hs := hS i (by omega)
    obtain ⟨q1, q2⟩ := hq
    obtain ⟨n1, n2⟩ := hn
    obtain ⟨s1, s2⟩ := hs
    rw [fa_le] at q1 q2 n1 n2 s1
    rw [fa_lt] at s2
    have c0 : (0 : Int32).toInt = 0 := rfl
    have c1 : (1 : Int32).toInt = 1 := rfl
    have c2 : (2 : Int32).toInt = 2 := rfl
    have c3 : (2000 : Int32).toInt = 2000 := rfl
    have c4 : (200 : Int32).toInt = 200 := rfl
    have m1 := mulW (x := S.getD i 0) (y := n) (a := 2000) (b := 200) ⟨by omega, by omega⟩ ⟨by omega, by omega⟩ (by decide)
    have m2 := mulW (x := nI (i + 1)) (y := q) (a := 201) (b := 2000) ⟨by rw [nI_toInt (by omega)]; omega, by rw [nI_toInt (by omega)]; omega⟩ ⟨by omega, by omega⟩ (by decide)
    have m3 := mulW (x := nI i) (y := q) (a := 201) (b := 2000) ⟨by rw [nI_toInt (by omega)]; omega, by rw [nI_toInt (by omega)]; omega⟩ ⟨by omega, by omega⟩ (by decide)
    have e1 : (oBeh q n S i).toInt = ((nI (i + 1)).toInt64 * q.toInt64).toInt - ((S.getD i 0).toInt64 * n.toInt64).toInt := fb_subL (by omega) (by omega)
    have e2 : (oAhe q n S i).toInt = ((S.getD i 0).toInt64 * n.toInt64).toInt - ((nI i).toInt64 * q.toInt64).toInt := fb_subL (by omega) (by omega)
    exact mx_bd ih (mx_le (by rw [e1]; omega) (by rw [e2]; omega))
theorem ofF_N {x : Int64} (h : 0 ≤ x.toInt ∧ x.toInt ≤ 402000) : x = lN x.toInt.toNat ∧ x.toInt.toNat ≤ 402000 := by
  refine ⟨?_, by omega⟩
  rw [fa_eq64, pk_lT (by omega)]
  omega
theorem nq_N {n q : Int32} (hn : 1 ≤ n ∧ n ≤ 200) (hq : okQ q) : n.toInt64 * q.toInt64 = lN (n.toNatClampNeg * q.toNatClampNeg) ∧ 0 < n.toNatClampNeg * q.toNatClampNeg ∧ n.toNatClampNeg * q.toNatClampNeg ≤ 400000 := by
  have h1 := n200 hn
  have h2 := okQ_N hq
  rw [wideN (n_k hn).1, wideN (okQ_0 hq), lN_mul]
  refine ⟨rfl, Nat.mul_pos (by omega) (by omega), ?_⟩
  have := Nat.mul_le_mul h1.2.1 h2.2
  omega
theorem ms_bd {q : Int32} (hq : okQ q) {v : Nat → Int32} {w : Int32} {n : Nat} : ∀ j, j < (ms (plK q v w) n).length → 0 ≤ (ms (plK q v w) n).getD j 0 ∧ (ms (plK q v w) n).getD j 0 < q := by
  intro j hj
  obtain ⟨k, _, e⟩ := (ms_mem _ _ _).mp (getD_mem hj)
  rw [← e]
  exact plK_bd hq v w k
