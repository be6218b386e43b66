/-! ===== the model's draw ===== -/
theorem draw_y (x : Int32) : ∃ a : Nat, a < 8388608 ∧ (x &&& 2147483647) / 256 = nI a := by
  obtain ⟨j, h1, h2⟩ := pk_andE x (m := 2147483647) 31 (by decide)
  refine ⟨j / 256, by omega, ?_⟩
  rw [h2]
  exact pk_div (d := 256) (by omega) (by omega) (by omega)
theorem draw_is {x b : Int32} {B : Nat} (hb : b = nI B) (h0 : 0 < B) (h9 : B < 2147483648) : (x &&& 2147483647) / 256 - (x &&& 2147483647) / 256 / b * b = fdraw x b ∧ ∃ c : Nat, c < B ∧ fdraw x b = nI c := by
  obtain ⟨a, h1, h2⟩ := draw_y x
  have e1 : nI a - nI a / nI B * nI B = nI (a % B) := pk_rem (by omega) h0 (by omega)
  have e2 : fdraw x b = nI (a % B) := by
    unfold fdraw lr
    rw [h2, hb, nI_l (by omega), nI_l (by omega), if_neg (lN_ne0 h0 (by omega)), pk_lRem (by omega) h0 (by omega), lN_i]
  refine ⟨?_, a % B, Nat.mod_lt _ h0, e2⟩
  rw [e2, h2, hb, e1]
