/-! ===== the model's public calls ===== -/
theorem rng_0 {n lo up : Int32} (h : rng n lo up = 0) : lo ≤ n ∧ n ≤ up := by
  unfold rng at h
  by_cases h1 : n < lo
  · rw [if_pos h1] at h; exact absurd h (by decide)
  · rw [if_neg h1] at h
    by_cases h2 : up < n
    · rw [if_pos h2] at h; exact absurd h (by decide)
    · exact ⟨fa_of_nlt h1, fa_of_nlt h2⟩
theorem rng_le (n lo up : Int32) : rng n lo up ≤ 0 := by
  unfold rng
  split
  · decide
  · split
    · decide
    · decide
theorem rf_num_le (nw w n a b : Int32) : rf_num nw w n a b ≤ 0 := by
  unfold rf_num
  repeat' split
  all_goals decide
theorem rf_nth_le (nw w n j a : Int32) : rf_nth nw w n j a ≤ 0 := by
  unfold rf_nth
  repeat' split
  all_goals decide
theorem rf_num_r {nw w n a b : Int32} (h : 0 ≤ w ∧ w < nw) : rf_num nw w n a b = rng n a b := by
  unfold rf_num rng
  rw [if_neg (fun z => z h)]
theorem md_wi (k : Int32) : ((0 : Int64) ≤ k.toInt64 ∧ k.toInt64 ≤ 4) ↔ (0 ≤ k ∧ k < 5) := by
  rw [wide0, fa_le64, fa_le, fa_lt, Int32.toInt_toInt64]
  have c0 : (0 : Int32).toInt = 0 := rfl
  have c2 : (4 : Int64).toInt = 4 := rfl
  have c3 : (5 : Int32).toInt = 5 := rfl
  omega
theorem md_w3 (k : Int32) : ((0 : Int64) ≤ k.toInt64 ∧ k.toInt64 ≤ 3) ↔ (0 ≤ k ∧ k < 4) := by
  rw [wide0, fa_le64, fa_le, fa_lt, Int32.toInt_toInt64]
  have c0 : (0 : Int32).toInt = 0 := rfl
  have c2 : (3 : Int64).toInt = 3 := rfl
  have c3 : (4 : Int32).toInt = 4 := rfl
  omega
theorem md_w1 (k : Int32) : ((0 : Int64) ≤ k.toInt64 ∧ k.toInt64 ≤ 1) ↔ (0 ≤ k ∧ k < 2) := by
  rw [wide0, fa_le64, fa_le, fa_lt, Int32.toInt_toInt64]
  have c0 : (0 : Int32).toInt = 0 := rfl
  have c2 : (1 : Int64).toInt = 1 := rfl
  have c3 : (2 : Int32).toInt = 2 := rfl
  omega
theorem md_w5 (k : Int32) : ((0 : Int64) ≤ k.toInt64 ∧ k.toInt64 ≤ 5) ↔ (0 ≤ k ∧ k < 6) := by
  rw [wide0, fa_le64, fa_le, fa_lt, Int32.toInt_toInt64]
  have c0 : (0 : Int32).toInt = 0 := rfl
  have c2 : (5 : Int64).toInt = 5 := rfl
  have c3 : (6 : Int32).toInt = 6 := rfl
  omega
theorem w5 {w mn : Int32} (h : mn ≤ 5) (hw : 0 ≤ w ∧ w < mn) : 0 ≤ w ∧ w < 5 := ⟨hw.1, fa_trans hw.2 h⟩
theorem n_k {n : Int32} (h : 1 ≤ n ∧ n ≤ 200) : 0 ≤ n ∧ n ≤ 4000 := by
  obtain ⟨h1, h2⟩ := h
  rw [fa_le] at h1 h2
  rw [fa_le, fa_le]
  have c0 : (0 : Int32).toInt = 0 := rfl
  have c1 : (1 : Int32).toInt = 1 := rfl
  have c2 : (200 : Int32).toInt = 200 := rfl
  have c4 : (4000 : Int32).toInt = 4000 := rfl
  omega
theorem rf_beh_m {nw w n k ks : Int32} (h : rf_num nw w n 1 200 = 0) (hk : 0 ≤ k ∧ k < ks) : rf_beh nw w n k ks = 0 := by
  unfold rf_beh
  rw [if_pos h, if_pos hk]
theorem rf_beh_2 {nw w n k ks : Int32} (h : rf_num nw w n 1 200 = 0) (hk : ¬ (0 ≤ k ∧ k < ks)) : rf_beh nw w n k ks = -2 := by
  unfold rf_beh
  rw [if_pos h, if_neg hk]
theorem rf_beh_n {nw w n k ks : Int32} (h : ¬ rf_num nw w n 1 200 = 0) : rf_beh nw w n k ks = rf_num nw w n 1 200 := by
  unfold rf_beh
  rw [if_neg h]
theorem k_4 {k : Int32} (h : 0 ≤ k ∧ k < 5) (h4 : 4 ≤ k) : k = 4 := by
  rw [fa_le] at h4
  have h2 := h.2
  rw [fa_lt] at h2
  rw [fa_eq]
  have c2 : (4 : Int32).toInt = 4 := rfl
  have c3 : (5 : Int32).toInt = 5 := rfl
  omega
