/-! ===== remove, undo, image, count ===== -/
theorem ix4 {w k : Nat} (h : 4 * w + k < 20) : nI w * 4 + nI k = nI (4 * w + k) := by
  have e : nI w * 4 = nI (w * 4) := pk_mul w 4
  rw [e, nI_add, Nat.mul_comm]
theorem rg_valN {v : Nat → Int32} {w k : Nat} (h : 4 * w + k < 20) : rg_val v (nI w) (nI k) = v (4 * w + k) := by
  unfold rg_val
  rw [ix4 h, if_pos ⟨nI_pos' (by omega), nI_lt (b := 20) h (by omega)⟩, nI_clamp (by omega)]
theorem rg_setN {v : Nat → Int32} {w k : Nat} {x : Int32} (h : 4 * w + k < 20) : rg_set v (nI w) (nI k) x = upd v (4 * w + k) x := by
  unfold rg_set
  rw [ix4 h, if_pos ⟨nI_pos' (by omega), nI_lt (b := 20) h (by omega)⟩, nI_clamp (by omega)]
def rf_z (z : Int32) : Int32 := if z = 0 then -3 else 0
def undv (v cf : Nat → Int32) (z : Int32) : Nat → Int32 := rg_set v (ch_at cf ((z - 1) * 3)) (ch_at cf ((z - 1) * 3 + 1)) (ch_at cf ((z - 1) * 3 + 2))
def cntA (q nw tz cz : Int32) (F : Nat → Int32) (n : Int32) : Int32 := if n = 0 then nw else if n = 1 then q else if n = 2 then tz else if n = 3 then cz else if 0 ≤ n - 11 ∧ n - 11 < 6 then F (n - 11).toNatClampNeg else -9
theorem rg_cp_end (v : Nat → Int32) {K : Nat} (h : 0 < K) : ∀ j, j < 20 → rg_cp v (K - 1) K j = v j := by
  intro j _
  unfold rg_cp
  rw [if_neg (by omega)]
