/-! ===== the greatest common divisor ===== -/
theorem gcd_half {g l e : Nat} (h1 : l ≤ g) (h0 : 0 < l) (h : g * l < 2 ^ e) : l * (g % l) < 2 ^ (e - 1) ∧ 1 ≤ e := by
  have hm : g % l < l := Nat.mod_lt _ h0
  have hd : l * (g / l) + g % l = g := Nat.div_add_mod g l
  have hq : 1 ≤ g / l := by
    have := Nat.div_le_div_right (c := l) h1
    rw [Nat.div_self h0] at this
    exact this
  have h2 : l + g % l ≤ g := by
    have : l * 1 ≤ l * (g / l) := Nat.mul_le_mul_left l hq
    omega
  have h3 : l * (g % l) * 2 ≤ l * g := by
    have : l * (g % l * 2) ≤ l * g := Nat.mul_le_mul_left l (by omega)
    rw [Nat.mul_assoc]
    exact this
  have he : 1 ≤ e := by
    rcases Nat.eq_zero_or_pos e with z | z
    · subst z
      have : 0 < g * l := Nat.mul_pos (by omega) h0
      simp at h
      omega
    · exact z
  obtain ⟨f, rfl⟩ : ∃ f, e = f + 1 := ⟨e - 1, by omega⟩
  refine ⟨?_, he⟩
  rw [Nat.mul_comm g l, Nat.pow_succ] at h
  show l * (g % l) < 2 ^ f
  omega
theorem gcd_step {g l : Nat} : Nat.gcd l (g % l) = Nat.gcd g l := by
  rw [Nat.gcd_comm g l, Nat.gcd_rec l g, Nat.gcd_comm]
def gIn (g l e i : Nat) : Prop := (l ≤ g ∧ e + i ≤ 91) ∨ (i = 0 ∧ e ≤ 90)
theorem gIn_next {g l e i : Nat} (h0 : 0 < l) (he : g * l < 2 ^ e) (h : gIn g l e i) : ∃ e2, l * (g % l) < 2 ^ e2 ∧ gIn l (g % l) e2 (i + 1) := by
  have hm : g % l < l := Nat.mod_lt _ h0
  by_cases h1 : l ≤ g
  · have h2 := gcd_half h1 h0 he
    refine ⟨e - 1, h2.1, Or.inl ⟨by omega, ?_⟩⟩
    rcases h with h | h
    · omega
    · omega
  · rcases h with h | h
    · exact absurd h.1 h1
    · refine ⟨e, ?_, Or.inl ⟨by omega, by omega⟩⟩
      rw [Nat.mod_eq_of_lt (by omega), Nat.mul_comm]
      exact he
theorem lN_ne0 {n : Nat} (h0 : 0 < n) (h : n < 2 ^ 63) : ¬ lN n = 0 := by
  intro z
  have := (fb_lN_inj (a := n) (b := 0) h (by omega)).mp z
  omega
theorem lN_0i {n : Nat} (h : n < 2 ^ 63) (e : lN n = 0) : n = 0 := (fb_lN_inj (a := n) (b := 0) h (by omega)).mp e
theorem lN_nn {n : Nat} (h : n < 2 ^ 63) : 0 ≤ lN n := by
  rw [fa_le64, pk_lT h]
  have c0 : (0 : Int64).toInt = 0 := rfl
  omega
theorem okQ_N {q : Int32} (hq : okQ q) : 2 ≤ q.toNatClampNeg ∧ q.toNatClampNeg ≤ 2000 := by
  obtain ⟨h1, h2⟩ := hq
  rw [fa_le] at h1 h2
  have c2 : (2 : Int32).toInt = 2 := rfl
  have c3 : (2000 : Int32).toInt = 2000 := rfl
  have e : q.toNatClampNeg = q.toInt.toNat := rfl
  omega
