/-! ===== small facts, and what the leaf methods answer ===== -/
theorem lt_clamp {i : Nat} {x : Int32} (hi : i < 2147483648) : nI i < x ↔ i < x.toNatClampNeg := by
  rw [fa_lt, nI_toInt (by omega)]
  show (i : Int) < x.toInt ↔ i < x.toInt.toNat
  omega
theorem clamp_lt (x : Int32) : x.toNatClampNeg < 2147483648 := by
  have h := fb_rng x
  show x.toInt.toNat < 2147483648
  omega
theorem le_clamp {i : Nat} {x : Int32} (hi : i < 2147483648) : x ≤ nI i ↔ x.toNatClampNeg ≤ i := by
  rw [fa_le, nI_toInt (by omega)]
  show x.toInt ≤ (i : Int) ↔ x.toInt.toNat ≤ i
  omega
theorem vp_lit {i : Int32} {n : Nat} (hn : n < 2147483648) (h : 0 ≤ i ∧ i < Int32.ofNat n) : vp_in i n := by
  obtain ⟨h1, h2⟩ := h
  rw [fa_le] at h1
  rw [fa_lt] at h2
  have e : (Int32.ofNat n).toInt = n := nI_toInt (n := n) (by omega)
  rw [e] at h2
  exact vp_in_iff.mpr ⟨h1, h2⟩
theorem P_cg {D : va_G} {cl : List vw_C} {ws : va_W} {H : Heap} (hP : va_P D cl ws H) (k : Nat) {a n : Nat} {cA : ClassId} {f : Nat → Int32} (g : Nat → Int32) (hk : ws[k]? = some (a, .inl (cA, n, .inl f))) (h : ∀ j, j < n → f j = g j) : va_P D cl (ws.set k (a, .inl (cA, n, .inl g))) H := by
  intro j q hq
  by_cases e : j = k
  · subst e
    have hlt : j < ws.length := (List.getElem?_eq_some_iff.mp hk).1
    rw [List.getElem?_set_self hlt] at hq
    obtain rfl := Option.some.inj hq
    have h0 := hP j _ hk
    have e2 : vp_cell cA (n, .inl f) = vp_cell cA (n, .inl g) := by
      rw [vp_cell_i, vp_cell_i]
      unfold arrV
      congr 1
      congr 1
      funext j
      show Value.int (f j.val) = Value.int (g j.val)
      rw [h j.val j.isLt]
    show H[a]? = some (vp_cell cA (n, .inl g))
    rw [← e2]
    exact h0
  · rw [List.getElem?_set_ne (Ne.symm e)] at hq
    exact hP j q hq
theorem D_cg {A : Nat → Prop} {ws : va_W} (hD : va_D A ws) (k : Nat) {a : Nat} {x : va_E} (y : va_E) (hk : ws[k]? = some (a, x)) : va_D A (ws.set k (a, y)) := hD.set hk
/-- quotient and rest as the class has them -/
def lq (a b : Int64) : Int64 := if b = 0 then 0 else a / b
def lr (a b : Int64) : Int64 := if b = 0 then 0 else a - a / b * b
def rg_val (v : Nat → Int32) (w k : Int32) : Int32 := if 0 ≤ w * 4 + k ∧ w * 4 + k < 20 then v (w * 4 + k).toNatClampNeg else 0
def rg_set (v : Nat → Int32) (w k x : Int32) : Nat → Int32 := if 0 ≤ w * 4 + k ∧ w * 4 + k < 20 then upd v (w * 4 + k).toNatClampNeg x else v
def rg_gr (q k : Int32) : Int32 := if k = 0 then 5 else if k = 3 then 9 else q - 1
def rg_ar (q : Int32) (n : Int64) : Int32 := if 0 ≤ (lr n q.toInt64).toInt32 then (lr n q.toInt64).toInt32 else (lr n q.toInt64).toInt32 + q
abbrev rg_room (q nw a b c d : Int32) : Prop := nw < 5 ∧ a ≤ rg_gr q 0 ∧ b ≤ rg_gr q 1 ∧ c ≤ rg_gr q 2 ∧ d ≤ rg_gr q 3
def rg_pb (q : Int32) (v : Nat → Int32) (kd w : Int32) (k : Int64) : Int32 :=
  if kd = 1 then rg_ar q ((rg_val v w 2).toInt64 + k * k * (rg_val v w 1).toInt64)
  else if kd = 2 then rg_ar q ((rg_val v w 2).toInt64 - k * (rg_val v w 1).toInt64)
  else if kd = 3 then rg_ar q ((rg_val v w 2).toInt64 + (k + lq k ((rg_val v w 3).toInt64 + 1)) * (rg_val v w 1).toInt64)
  else if kd = 4 then (if k - k / 2 * 2 = 0 then rg_ar q ((rg_val v w 2).toInt64 - k / 2 * (rg_val v w 1).toInt64) else rg_ar q ((rg_val v w 2).toInt64 + (k + 1) / 2 * (rg_val v w 1).toInt64))
  else if kd = 5 then rg_ar q ((rg_val v w 2).toInt64 + k * k * (rg_val v w 1).toInt64 + (rg_val v w 3).toInt64 * k)
  else rg_ar q ((rg_val v w 2).toInt64 + k * (rg_val v w 1).toInt64)
def rg_cp (v : Nat → Int32) (w nw : Nat) : Nat → Int32 := fun j => if 4 * w ≤ j ∧ j + 4 < 4 * nw then v (j + 4) else v j
def so_get (z : Int32) (f : Nat → Int32) (i : Int32) : Int32 := if 0 ≤ i ∧ i < z ∧ i < 200 then f i.toNatClampNeg else 0
def ch_at (k : Nat → Int32) (i : Int32) : Int32 := if 0 ≤ i ∧ i < 48 then k i.toNatClampNeg else 0
def ch_set (k : Nat → Int32) (i x : Int32) : Nat → Int32 := if 0 ≤ i ∧ i < 48 then upd k i.toNatClampNeg x else k
def ch_z (z : Int32) : Int32 := if z < 16 then z else 15
def ch_sh (z : Int32) (k : Nat → Int32) : Nat → Int32 := if z < 16 then k else va_cpy k k 3 0 45
def ch_keep (z : Int32) (k : Nat → Int32) (x0 x1 x2 : Int32) : Nat → Int32 := ch_set (ch_set (ch_set (ch_sh z k) (ch_z z * 3) x0) (ch_z z * 3 + 1) x1) (ch_z z * 3 + 2) x2
def ch_less (z : Int32) : Int32 := if z ≤ 0 then z else z - 1
abbrev rw_has (z i : Int32) : Prop := i < z ∧ 0 ≤ i ∧ i < 40
def rw_get (z : Int32) (f : Nat → Int32) (i : Int32) : Int32 := if rw_has z i then f i.toNatClampNeg else 0
def rw_set (z : Int32) (f : Nat → Int32) (i x : Int32) : Nat → Int32 := if rw_has z i then upd f i.toNatClampNeg x else f
def tx_get (z : Int32) (f : Nat → Int32) (i : Int32) : Int32 := if i < z ∧ 0 ≤ i ∧ i < 72 then f i.toNatClampNeg else -1
def tx_dg (x : Int32) : Int32 := if x = 99 then 4 else if x = 115 then 5 else if x = 119 then 10 else if x = 120 then 1 else -1
