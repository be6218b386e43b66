/-! ===== lengths and many of the model; shared, crowded ===== -/
theorem gap_pos {q : Int32} (hq : okQ q) {v : Nat → Int32} {w : Int32} {n i : Nat} (hi : i < (mk (plK q v w) n).length) : 0 < gpL q (mk (plK q v w) n) i := by
  have bi := mk_bd hq (getD_mem hi)
  have hq2 := hq.2
  rw [fa_le] at hq2
  have c0 : (0 : Int32).toInt = 0 := rfl
  have c3 : (2000 : Int32).toInt = 2000 := rfl
  unfold gpL
  by_cases h : i + 1 < (mk (plK q v w) n).length
  · rw [if_pos h]
    have b1 := mk_bd hq (getD_mem h)
    have s := str_get (i := i) (j := i + 1) (mk_str (plK q v w) n) (by omega) h
    rw [fa_lt, sub_dd hq b1 bi]
    rw [fa_lt] at s
    omega
  · rw [if_neg h]
    have b0 := mk_bd hq (getD_mem (L := mk (plK q v w) n) (j := 0) (by omega))
    rw [fa_lt, fa_le] at b0 bi
    have e1 : ((mk (plK q v w) n).getD 0 0 + q).toInt = ((mk (plK q v w) n).getD 0 0).toInt + q.toInt := fb_addI (by omega) (by omega)
    have e2 : ((mk (plK q v w) n).getD 0 0 + q - (mk (plK q v w) n).getD i 0).toInt = ((mk (plK q v w) n).getD 0 0).toInt + q.toInt - ((mk (plK q v w) n).getD i 0).toInt := by
      rw [fb_subI (by rw [e1]; omega) (by rw [e1]; omega), e1]
    rw [fa_lt, e2]
    omega
theorem gaps_cnt (q : Int32) (M : List Int32) : nI (fa_cnt (fun j => decide (isF q M j)) M.length) = nI (gaps q M).length := congrArg nI (isF_cnt q M M.length).symm
theorem jN {j : Int32} (h : 0 ≤ j) : j = nI j.toNatClampNeg ∧ j.toNatClampNeg < 2147483648 := by
  obtain ⟨i, hi, rfl⟩ : ∃ i : Nat, i < 2147483648 ∧ j = nI i := nI_of (Int32.not_lt.mpr h)
  rw [nI_clamp (by omega)]
  exact ⟨rfl, hi⟩
theorem lenA_in {q : Int32} {M : List Int32} {j : Int32} (h0 : 0 ≤ j) (hl : (gaps q M).length ≤ 200) : (if j.toNatClampNeg < (gaps q M).length then (gaps q M).getD j.toNatClampNeg 0 else -9) = (if j < nI (gaps q M).length then (gaps q M).getD j.toNatClampNeg 0 else -9) := by
  have e := jN h0
  have hc : j < nI (gaps q M).length ↔ j.toNatClampNeg < (gaps q M).length := by
    have h1 := nI_ltI (a := j.toNatClampNeg) (b := (gaps q M).length) (by omega) (by omega)
    rw [← e.1] at h1
    exact h1
  by_cases h : j.toNatClampNeg < (gaps q M).length
  · rw [if_pos h, if_pos (hc.mpr h)]
  · rw [if_neg h, if_neg (fun z => h (hc.mp z))]
theorem len_ge {q : Int32} {M : List Int32} {j : Int32} (h : nI M.length ≤ j) (hM : M.length ≤ 200) : ¬ j < nI (gaps q M).length := by
  have hg : (gaps q M).length ≤ M.length := mk_len _ _
  have h2 := nI_le hg (by omega)
  intro z
  rw [fa_lt] at z
  rw [fa_le] at h h2
  omega
theorem gaps_ne9 {q : Int32} {M : List Int32} (hp : ∀ i, i < M.length → 0 < gpL q M i) {k : Nat} (hk : k < (gaps q M).length) : ¬ (gaps q M).getD k 0 = -9 := by
  obtain ⟨t, h1, h2⟩ := gaps_mem.mp (getD_mem hk)
  have h3 := hp t h1
  intro e
  rw [h2, e] at h3
  exact absurd h3 (by decide)
theorem dec2 {t : Nat} (h : 0 < t) : nI t - 1 + (-1) = nI (t - 1) - 1 := by
  have e : nI t - 1 = nI (t - 1) := pk_sub (b := 1) h
  rw [e, Int32.sub_eq_add_neg]
theorem sh_lt {t : Nat} (ht : t ≤ 200) (h : nI t - 1 < 0) : t = 0 := by
  rcases Nat.eq_zero_or_pos t with e | e
  · exact e
  · have e2 : nI t - 1 = nI (t - 1) := pk_sub (b := 1) e
    rw [e2] at h
    exact absurd h (nI_pos (by omega))
theorem sh_ge {t : Nat} (h : ¬ nI t - 1 < 0) : 0 < t := by
  rcases Nat.eq_zero_or_pos t with e | e
  · subst e
    exact absurd (by decide) h
  · exact e
theorem sha_beh {nw o oo n k : Int32} (h : two nw o oo) : rf_sha nw o oo n k = rf_beh nw o n k 2 := by
  unfold rf_sha
  rw [if_pos h]
theorem ff2_dn {p : Nat → Prop} [DecidablePred p] {f : Nat → Int32} {t N : Nat} (h0 : 0 < t) (hN : t ≤ N) : ff2 p f (t - 1) (N - (t - 1)) = if p (t - 1) then f (t - 1) else ff2 p f t (N - t) := by
  have e : N - (t - 1) = N - t + 1 := by omega
  rw [e, ff2, show t - 1 + 1 = t by omega]
theorem jn_lt {q : Int32} {M : List Int32} {j : Int32} (h0 : 0 ≤ j) (hl : (gaps q M).length ≤ 200) : j < nI (gaps q M).length ↔ j.toNatClampNeg < (gaps q M).length := by
  have e := jN h0
  have h1 := nI_ltI (a := j.toNatClampNeg) (b := (gaps q M).length) (by omega) (by omega)
  rw [← e.1] at h1
  exact h1
