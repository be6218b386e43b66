/-! ===== terms ===== -/
def eS (a b : Nat) : Nat → Nat × Nat
  | 0 => (a, b)
  | i + 1 => ((eS a b i).2, (eS a b i).1 % (eS a b i).2)
/-- L is how many terms there are -/
def eL (a b L : Nat) : Prop := (∀ t, t < L → 0 < (eS a b t).2) ∧ (eS a b L).2 = 0
theorem eS_bd {a b M : Nat} (ha : a < M) (hb : b < M) : ∀ i, (∀ t, t < i → 0 < (eS a b t).2) → (eS a b i).1 < M ∧ (eS a b i).2 < M
  | 0, _ => ⟨ha, hb⟩
  | i + 1, h => by
    have ih := eS_bd ha hb i (fun t ht => h t (by omega))
    have h0 := h i (by omega)
    refine ⟨ih.2, ?_⟩
    show (eS a b i).1 % (eS a b i).2 < M
    exact Nat.lt_trans (Nat.mod_lt _ h0) ih.2
theorem eS_in {a b : Nat} (ha : a < 1099511627776) (hb : b < 1099511627776) : ∀ i, (∀ t, t < i → 0 < (eS a b t).2) → ∃ e, (eS a b i).1 * (eS a b i).2 < 2 ^ e ∧ gIn (eS a b i).1 (eS a b i).2 e i
  | 0, _ => ⟨80, Nat.lt_of_lt_of_le (Nat.mul_lt_mul_of_lt_of_lt ha hb) (by decide), Or.inr ⟨rfl, by decide⟩⟩
  | i + 1, h => by
    obtain ⟨e, h1, h2⟩ := eS_in ha hb i (fun t ht => h t (by omega))
    obtain ⟨e2, h3, h4⟩ := gIn_next (h i (by omega)) h1 h2
    exact ⟨e2, h3, h4⟩
theorem eL_ex {a b : Nat} (ha : a < 1099511627776) (hb : b < 1099511627776) : ∃ L, L ≤ 92 ∧ eL a b L := by
  have hz : ∃ i, i < 93 ∧ (eS a b i).2 = 0 := by
    apply Classical.byContradiction
    intro hn
    have hall : ∀ t, t < 93 → 0 < (eS a b t).2 := fun t ht => by
      rcases Nat.eq_zero_or_pos (eS a b t).2 with z | z
      · exact absurd ⟨t, ht, z⟩ hn
      · exact z
    obtain ⟨e, _, h⟩ := eS_in ha hb 92 (fun t ht => hall t (by omega))
    rcases h with h | h <;> omega
  obtain ⟨L, h1, h2, h3⟩ := fb_first hz
  exact ⟨L, by omega, fun t ht => by
    rcases Nat.eq_zero_or_pos (eS a b t).2 with z | z
    · exact absurd z (h3 t ht)
    · exact z, h2⟩
def eT (a b i : Nat) : Nat := (eS a b i).1 / (eS a b i).2
theorem eT_ne9 {a b L i : Nat} (ha : a < 1000000) (hb : b < 1000000) (hL : eL a b L) (h : L ≤ 92) (hi : i < L) : ¬ nI (eT a b i) = -9 := by
  have h1 := eS_bd ha hb i (fun t ht => hL.1 t (by omega))
  have h2 : eT a b i ≤ (eS a b i).1 := Nat.div_le_self _ _
  intro e
  have e2 := congrArg Int32.toInt e
  rw [nI_toInt (by omega)] at e2
  have e3 : (-9 : Int32).toInt = -9 := by decide
  omega
