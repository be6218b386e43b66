/-! ===== the model's letter, circle, farOf ===== -/
theorem let_r {z x : Int32} (h : ¬ rng x 0 255 = 0) : rf_let z x = rng x 0 255 := by
  unfold rng at h ⊢
  unfold rf_let
  by_cases h1 : x < 0
  · rw [if_pos h1, if_pos h1]
  · rw [if_neg h1] at h ⊢
    rw [if_neg h1]
    by_cases h2 : 255 < x
    · rw [if_pos h2, if_pos h2]
    · rw [if_neg h2] at h
      exact absurd rfl h
theorem let_6 {z x : Int32} (h : rng x 0 255 = 0) (hz : 72 ≤ z) : rf_let z x = -6 := by
  have h2 := rng_0 h
  unfold rf_let
  rw [if_neg (Int32.not_lt.mpr h2.1), if_neg (Int32.not_lt.mpr h2.2), if_pos hz]
theorem let_0 {z x : Int32} (h : rng x 0 255 = 0) (hz : ¬ 72 ≤ z) : rf_let z x = 0 := by
  have h2 := rng_0 h
  unfold rf_let
  rw [if_neg (Int32.not_lt.mpr h2.1), if_neg (Int32.not_lt.mpr h2.2), if_neg hz]
theorem me_lt {z : Int32} (h : 0 ≤ z ∧ z ≤ 72) (h2 : ¬ z = 72) : z < 72 := fa_le_ne h.2 h2
theorem cir_r {v : Nat → Int32} {nw n : Int32} (h : ¬ rng n 2 2000 = 0) : rf_cir v nw n = rng n 2 2000 := by
  unfold rng at h ⊢
  unfold rf_cir
  by_cases h1 : n < 2
  · rw [if_pos h1, if_pos h1]
  · rw [if_neg h1] at h ⊢
    rw [if_neg h1]
    by_cases h2 : 2000 < n
    · rw [if_pos h2, if_pos h2]
    · rw [if_neg h2] at h
      exact absurd rfl h
theorem cir_3 {v : Nat → Int32} {nw n : Int32} (h : rng n 2 2000 = 0) (ha : ¬ allB v nw n) : rf_cir v nw n = -3 := by
  have h2 := rng_0 h
  unfold rf_cir
  rw [if_neg (Int32.not_lt.mpr h2.1), if_neg (Int32.not_lt.mpr h2.2), if_neg ha]
theorem cir_0 {v : Nat → Int32} {nw n : Int32} (h : rng n 2 2000 = 0) (ha : allB v nw n) : rf_cir v nw n = 0 := by
  have h2 := rng_0 h
  unfold rf_cir
  rw [if_neg (Int32.not_lt.mpr h2.1), if_neg (Int32.not_lt.mpr h2.2), if_pos ha]
theorem iw5 {mn : Int32} {i : Nat} (h5 : mn ≤ 5) (hi : i < mn.toNatClampNeg) : 0 ≤ nI i ∧ nI i < 5 := by
  rw [fa_le] at h5
  have c5 : (5 : Int32).toInt = 5 := rfl
  have e : mn.toNatClampNeg = mn.toInt.toNat := rfl
  exact ⟨nI_pos' (by omega), nI_lt (b := 5) (by omega) (by omega)⟩
theorem far_ar {q a b : Int32} (hq : okQ q) (ha : 0 ≤ a ∧ a < q) (hb : 0 ≤ b ∧ b < q) : rg_ar q (a - b).toInt64 = if 0 ≤ a - b then a - b else a - b + q := by
  have hne := q_ne hq
  obtain ⟨h1, h2⟩ := hq
  obtain ⟨a1, a2⟩ := ha
  obtain ⟨b1, b2⟩ := hb
  rw [fa_le] at h1 h2 a1 b1
  rw [fa_lt] at a2 b2
  have c0 : (0 : Int32).toInt = 0 := rfl
  have c2 : (2 : Int32).toInt = 2 := rfl
  have c3 : (2000 : Int32).toInt = 2000 := rfl
  have ed : (a - b).toInt = a.toInt - b.toInt := fb_subI (by omega) (by omega)
  have hd : 0 < q.toInt64.toInt := by rw [Int32.toInt_toInt64]; omega
  have e := l_rem (a - b).toInt64 q.toInt64 hd
  rw [Int32.toInt_toInt64, Int32.toInt_toInt64, ed] at e
  have et : (a.toInt - b.toInt).tmod q.toInt = a.toInt - b.toInt := by
    rcases (show a.toInt - b.toInt < 0 ∨ 0 ≤ a.toInt - b.toInt by omega) with z | z
    · have e1 := Int.tmod_eq_of_lt (a := b.toInt - a.toInt) (b := q.toInt) (by omega) (by omega)
      have e2 := Int.neg_tmod (b.toInt - a.toInt) q.toInt
      rw [e1] at e2
      rw [show a.toInt - b.toInt = -(b.toInt - a.toInt) by omega, e2]
    · exact Int.tmod_eq_of_lt z (by omega)
  rw [et] at e
  have e3 : ((a - b).toInt64 - (a - b).toInt64 / q.toInt64 * q.toInt64).toInt32 = a - b := by
    rw [fa_eq, l_toI _ (by rw [e]; omega), e, ed]
  unfold rg_ar lr
  rw [if_neg hne, e3]
theorem min_1 {x y : Int32} (h : y ≤ x) : y = if y < x then y else x := by
  by_cases h2 : y < x
  · rw [if_pos h2]
  · rw [if_neg h2]
    rw [fa_lt] at h2
    rw [fa_le] at h
    rw [fa_eq]
    omega
theorem min_2 {x y : Int32} (h : ¬ y ≤ x) : x = if y < x then y else x := by
  rw [if_neg (fun z => h (fa_of_lt z).1)]
/-- the model's way to a split -/
def spm (x : Int32) (M : List Int32) : Nat → Int32
  | 0 => M.getD (M.length - 1) 0
  | i + 1 => if M.getD i 0 < x then M.getD i 0 else spm x M i
theorem spm_is {x : Int32} {M : List Int32} (ho : so_ord M) : ∀ i, i ≤ M.length → spm x M i = M.getD (if min i (so_cnt x M) = 0 then M.length - 1 else min i (so_cnt x M) - 1) 0
  | 0, _ => by simp [spm]
  | i + 1, h => by
    have ih := spm_is (x := x) ho i (by omega)
    have hc := so_cnt_get x M i ho (by omega)
    unfold spm
    by_cases h1 : M.getD i 0 < x
    · have h2 := hc.mp h1
      rw [if_pos h1, show min (i + 1) (so_cnt x M) = i + 1 by omega, if_neg (by omega)]
      rfl
    · have h2 : so_cnt x M ≤ i := Nat.not_lt.mp (fun z => h1 (hc.mpr z))
      rw [if_neg h1, ih, show min (i + 1) (so_cnt x M) = so_cnt x M by omega, show min i (so_cnt x M) = so_cnt x M by omega]
