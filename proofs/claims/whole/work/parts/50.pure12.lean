/-! ===== crowded ===== -/
theorem rf_cro_ok {nw w n mo k : Int32} (h : rf_cro nw w n mo k = 0) : (0 ≤ w ∧ w < nw) ∧ (1 ≤ n ∧ n ≤ 200) ∧ (1 ≤ mo ∧ mo ≤ 9) ∧ (0 ≤ k ∧ k < 2) := by
  unfold rf_cro at h
  by_cases h1 : 0 ≤ w ∧ w < nw
  · rw [if_neg (fun z => z h1)] at h
    by_cases h2 : n < 1
    · rw [if_pos h2] at h; exact absurd h (by decide)
    · rw [if_neg h2] at h
      by_cases h3 : mo < 1
      · rw [if_pos h3] at h; exact absurd h (by decide)
      · rw [if_neg h3] at h
        by_cases h4 : 200 < n
        · rw [if_pos h4] at h; exact absurd h (by decide)
        · rw [if_neg h4] at h
          by_cases h5 : 9 < mo
          · rw [if_pos h5] at h; exact absurd h (by decide)
          · rw [if_neg h5] at h
            by_cases h6 : 0 ≤ k ∧ k < 2
            · exact ⟨h1, ⟨fa_of_nlt h2, fa_of_nlt h4⟩, ⟨fa_of_nlt h3, fa_of_nlt h5⟩, h6⟩
            · rw [if_neg h6] at h; exact absurd h (by decide)
  · rw [if_pos h1] at h; exact absurd h (by decide)
theorem mo9 {mo : Int32} (h : 1 ≤ mo ∧ mo ≤ 9) : ∃ b : Nat, 1 ≤ b ∧ b ≤ 9 ∧ mo = nI b ∧ mo.toNatClampNeg = b := by
  have c1 : (1 : Int32).toInt = 1 := rfl
  have c9 : (9 : Int32).toInt = 9 := rfl
  have h1 := h.1
  have h2 := h.2
  rw [fa_le] at h1 h2
  have e : mo.toNatClampNeg = mo.toInt.toNat := rfl
  refine ⟨mo.toNatClampNeg, by omega, by omega, ?_, rfl⟩
  rw [fa_eq, nI_toInt (by omega)]
  omega
theorem cr_ix {x mo : Int32} (hx : 0 ≤ x) (h : 1 ≤ mo ∧ mo ≤ 9) : (lr x.toInt64 mo.toInt64).toInt32 = nI (crI x mo) ∧ crI x mo < mo.toNatClampNeg ∧ mo.toNatClampNeg ≤ 9 ∧ x - x / mo * mo = nI (crI x mo) ∧ ¬ mo = 0 := by
  obtain ⟨b, h1, h2, rfl, e⟩ := mo9 h
  obtain ⟨a, ha, rfl⟩ : ∃ a : Nat, a < 2147483648 ∧ x = nI a := nI_of (Int32.not_lt.mpr hx)
  have hm : a % b < b := Nat.mod_lt _ (by omega)
  have e1 : nI a - nI a / nI b * nI b = nI (a % b) := pk_rem (by omega) (by omega) (by omega)
  have e2 : crI (nI a) (nI b) = a % b := by
    unfold crI
    rw [e1, nI_clamp (by omega)]
  refine ⟨?_, by rw [e2, e]; exact hm, by omega, by rw [e2]; exact e1, nI_ne0 (by omega) (by omega)⟩
  unfold lr
  rw [nI_l (by omega), nI_l (by omega), if_neg, pk_lRem (by omega) (by omega) (by omega), lN_i, e2]
  intro z
  have := (lN_eq (a := b) (b := 0) (by omega) (by omega)).mp z
  omega
