/-! ===== places, as numbers; the model's way to them ===== -/
def pb (q kd st sa fg : Int32) (k : Int64) : Int32 :=
  if kd = 1 then rg_ar q (sa.toInt64 + k * k * st.toInt64)
  else if kd = 2 then rg_ar q (sa.toInt64 - k * st.toInt64)
  else if kd = 3 then rg_ar q (sa.toInt64 + (k + lq k (fg.toInt64 + 1)) * st.toInt64)
  else if kd = 4 then (if k - k / 2 * 2 = 0 then rg_ar q (sa.toInt64 - k / 2 * st.toInt64) else rg_ar q (sa.toInt64 + (k + 1) / 2 * st.toInt64))
  else if kd = 5 then rg_ar q (sa.toInt64 + k * k * st.toInt64 + fg.toInt64 * k)
  else rg_ar q (sa.toInt64 + k * st.toInt64)
theorem rg_pb_pb (q : Int32) (v : Nat → Int32) (kd w : Int32) (k : Int64) : rg_pb q v kd w k = pb q kd (rg_val v w 1) (rg_val v w 2) (rg_val v w 3) k := rfl
def rng (v lo up : Int32) : Int32 := if v < lo then -4 else if up < v then -6 else 0
theorem wide0 (w : Int32) : (0 : Int64) ≤ w.toInt64 ↔ 0 ≤ w := fa_wide_le 0 w
theorem isw {w n : Int32} (hn : 0 ≤ n) : ((0 : Int64) ≤ w.toInt64 ∧ w.toInt64 ≤ (n - 1).toInt64) ↔ (0 ≤ w ∧ w < n) := by
  rw [wide0, fa_wide_le, fa_le, fa_le, fa_lt]
  rw [fa_le] at hn
  have h0 : (0 : Int32).toInt = 0 := rfl
  have h1 : (1 : Int32).toInt = 1 := rfl
  have e : (n - 1).toInt = n.toInt - 1 := by
    have r := fb_rng n
    rw [fb_subI (by rw [h1]; omega) (by rw [h1]; omega), h1]
  rw [e]
  rw [h0] at hn ⊢
  omega
theorem at_ok {w k : Int32} (hw : 0 ≤ w ∧ w < 5) (hk : 0 ≤ k ∧ k < 4) : 0 ≤ w * 4 + k ∧ w * 4 + k < 20 := by
  obtain ⟨a1, a2⟩ := hw
  obtain ⟨b1, b2⟩ := hk
  rw [fa_le] at a1 b1
  rw [fa_lt] at a2 b2
  have h0 : (0 : Int32).toInt = 0 := rfl
  have h4 : (4 : Int32).toInt = 4 := rfl
  have h5 : (5 : Int32).toInt = 5 := rfl
  have h20 : (20 : Int32).toInt = 20 := rfl
  rw [h0] at a1 b1
  rw [h5] at a2
  rw [h4] at b2
  have e1 : (w * 4).toInt = w.toInt * 4 := by rw [fb_mulI (by rw [h4]; omega) (by rw [h4]; omega), h4]
  have e2 : (w * 4 + k).toInt = w.toInt * 4 + k.toInt := by rw [fb_addI (by rw [e1]; omega) (by rw [e1]; omega), e1]
  rw [fa_le, fa_lt, e2, h0, h20]
  omega
theorem at_val (v : Nat → Int32) {w k : Int32} (hw : 0 ≤ w ∧ w < 5) (hk : 0 ≤ k ∧ k < 4) : v (4 * w + k).toNatClampNeg = rg_val v w k := by
  unfold rg_val
  rw [if_pos (at_ok hw hk), Int32.mul_comm 4 w]
theorem at_vp {w k : Int32} (hw : 0 ≤ w ∧ w < 5) (hk : 0 ≤ k ∧ k < 4) : vp_in (4 * w + k) 20 := by
  rw [Int32.mul_comm 4 w]
  exact vp_lit (n := 20) (by decide) (at_ok hw hk)
/-- a walker as it should be -/
def okW (q : Int32) (v : Nat → Int32) (w : Int32) : Prop := (0 ≤ rg_val v w 0 ∧ rg_val v w 0 < 6) ∧ (0 ≤ rg_val v w 1 ∧ rg_val v w 1 < q) ∧ (0 ≤ rg_val v w 2 ∧ rg_val v w 2 < q) ∧ (0 ≤ rg_val v w 3 ∧ rg_val v w 3 < 10)
def okQ (q : Int32) : Prop := 2 ≤ q ∧ q ≤ 2000
/-- the model's last step: the rest, from 0 on -/
def md_ar (q : Int32) (n : Int64) : Int32 := if 0 ≤ n - n / q.toInt64 * q.toInt64 then (n - n / q.toInt64 * q.toInt64).toInt32 else (n - n / q.toInt64 * q.toInt64 + q.toInt64).toInt32
theorem q_ne {q : Int32} (hq : okQ q) : ¬ q.toInt64 = 0 := by
  intro h
  have h1 := hq.1
  rw [fa_le] at h1
  have h2 : q.toInt64.toInt = 0 := by rw [h]; rfl
  rw [Int32.toInt_toInt64] at h2
  have h3 : (2 : Int32).toInt = 2 := rfl
  omega
theorem l_toI (x : Int64) (h : -2147483648 ≤ x.toInt ∧ x.toInt < 2147483648) : x.toInt32.toInt = x.toInt := by
  rw [Int64.toInt_toInt32]
  exact fb_bmod h.1 h.2
theorem l_rem (n d : Int64) (hd : 0 < d.toInt) : (n - n / d * d).toInt = n.toInt.tmod d.toInt := by
  have rn := fb_rngL n
  have rd := fb_rngL d
  have e1 : (n / d).toInt = n.toInt.tdiv d.toInt := by
    refine Int64.toInt_div_of_ne_right n d (fun h => ?_)
    rw [h] at hd
    exact absurd hd (by decide)
  have e0 := Int.tmod_add_mul_tdiv n.toInt d.toInt
  have b1 : (n.toInt.tmod d.toInt).natAbs < d.toInt.natAbs := by
    rw [Int.natAbs_tmod]
    exact Nat.mod_lt _ (by omega)
  have b2 : (n.toInt.tmod d.toInt).natAbs ≤ n.toInt.natAbs := by
    rw [Int.natAbs_tmod]
    exact Nat.mod_le _ _
  have hs : (0 ≤ n.toInt → 0 ≤ n.toInt.tmod d.toInt) ∧ (n.toInt ≤ 0 → n.toInt.tmod d.toInt ≤ 0) := by
    constructor
    · intro h
      exact Int.tmod_nonneg _ h
    · intro h
      have h2 := Int.tmod_nonneg d.toInt (show 0 ≤ -n.toInt by omega)
      rw [Int.neg_tmod] at h2
      omega
  have e2 : (n / d * d).toInt = n.toInt - n.toInt.tmod d.toInt := by
    have e3 : n.toInt.tdiv d.toInt * d.toInt = n.toInt - n.toInt.tmod d.toInt := by
      rw [Int.mul_comm]
      omega
    rw [fb_mulL (by rw [e1, e3]; omega) (by rw [e1, e3]; omega), e1, e3]
  rw [fb_subL (by rw [e2]; omega) (by rw [e2]; omega), e2]
  omega
theorem ar_md {q : Int32} (hq : okQ q) (n : Int64) : md_ar q n = rg_ar q n := by
  have hne := q_ne hq
  obtain ⟨h1, h2⟩ := hq
  rw [fa_le] at h1 h2
  have c2 : (2 : Int32).toInt = 2 := rfl
  have c3 : (2000 : Int32).toInt = 2000 := rfl
  rw [c2] at h1
  rw [c3] at h2
  have hd : 0 < q.toInt64.toInt := by rw [Int32.toInt_toInt64]; omega
  have e := l_rem n q.toInt64 hd
  have b1 : (n.toInt.tmod q.toInt64.toInt).natAbs < q.toInt64.toInt.natAbs := by
    rw [Int.natAbs_tmod]
    exact Nat.mod_lt _ (by omega)
  have e3 : (n - n / q.toInt64 * q.toInt64).toInt32.toInt = n.toInt.tmod q.toInt64.toInt := by
    rw [l_toI _ (by rw [e]; rw [Int32.toInt_toInt64] at *; omega), e]
  unfold md_ar rg_ar lr
  rw [if_neg hne]
  have hc : (0 : Int64) ≤ n - n / q.toInt64 * q.toInt64 ↔ (0 : Int32) ≤ (n - n / q.toInt64 * q.toInt64).toInt32 := by
    rw [fa_le64, fa_le, e3, e]
    exact Iff.rfl
  by_cases hh : (0 : Int64) ≤ n - n / q.toInt64 * q.toInt64
  · rw [if_pos hh, if_pos (hc.mp hh)]
  · rw [if_neg hh, if_neg (fun z => hh (hc.mpr z)), Int64.toInt32_add]
    congr 1
    rw [fa_eq, l_toI _ (by rw [Int32.toInt_toInt64]; have := fb_rng q; omega), Int32.toInt_toInt64]
theorem md_fin1 {q : Int32} {n : Int64} (hq : okQ q) (h : 0 ≤ n - n / q.toInt64 * q.toInt64) : (n - n / q.toInt64 * q.toInt64).toInt32 = rg_ar q n := by
  rw [← ar_md hq]
  unfold md_ar
  rw [if_pos h]
theorem md_fin2 {q : Int32} {n : Int64} (hq : okQ q) (h : ¬ 0 ≤ n - n / q.toInt64 * q.toInt64) : (n - n / q.toInt64 * q.toInt64 + q.toInt64).toInt32 = rg_ar q n := by
  rw [← ar_md hq]
  unfold md_ar
  rw [if_neg h]
theorem i_nat {x M : Int32} {n : Nat} (hM : M.toInt = n) (h : 0 ≤ x ∧ x ≤ M) : ∃ j : Nat, j ≤ n ∧ x = nI j := nI_of2 hM (Int32.not_lt.mpr h.1) h.2
theorem i_natlt {x M : Int32} {n : Nat} (hM : M.toInt = n) (h : 0 ≤ x ∧ x < M) : ∃ j : Nat, j < n ∧ x = nI j := by
  obtain ⟨j, h1, h2⟩ := nI_of2 hM (Int32.not_lt.mpr h.1) (fa_of_lt h.2).1
  refine ⟨j, ?_, h2⟩
  have h3 := h.2
  have hr := fb_rng M
  rw [fa_lt, hM, h2, nI_toInt (by omega)] at h3
  omega
theorem nI_negL {a : Nat} (h : a ≤ 4000) : (-nI a).toInt64 = -lN a := by
  rw [Int32.toInt64_neg_of_ne, nI_l (by omega)]
  intro e
  have e2 := congrArg Int32.toInt e
  rw [nI_toInt (by omega)] at e2
  have e3 : (-2147483648 : Int32).toInt = -2147483648 := by decide
  omega
theorem md_e2 {k : Int32} (hk : 0 ≤ k ∧ k ≤ 4000) (sa st : Int64) : sa + (-k).toInt64 * st = sa - k.toInt64 * st := by
  obtain ⟨a, h1, rfl⟩ := i_nat (n := 4000) (by decide) hk
  rw [nI_negL h1, nI_l (by omega), Int64.neg_mul, Int64.sub_eq_add_neg]
theorem md_e3 {k fg : Int32} (hk : 0 ≤ k ∧ k ≤ 4000) (hf : 0 ≤ fg ∧ fg < 10) : (k + k / (fg + 1)).toInt64 = k.toInt64 + lq k.toInt64 (fg.toInt64 + 1) := by
  obtain ⟨a, h1, rfl⟩ := i_nat (n := 4000) (by decide) hk
  obtain ⟨b, h2, rfl⟩ := i_natlt (n := 10) (by decide) hf
  have hd : a / (b + 1) ≤ a := Nat.div_le_self _ _
  rw [nI_1, pk_div (by omega) (by omega) (by omega), nI_add, nI_l (by omega), nI_l (by omega), nI_l (by omega), lN_1]
  unfold lq
  rw [if_neg, pk_lDiv (by omega) (by omega) (by omega), lN_add]
  intro e
  have e2 := (lN_eq (a := b + 1) (b := 0) (by omega) (by omega)).mp e
  omega
theorem md_f1 {fg : Int32} (hf : 0 ≤ fg ∧ fg < 10) : ¬ fg + 1 = 0 := by
  obtain ⟨b, h2, rfl⟩ := i_natlt (n := 10) (by decide) hf
  rw [nI_1]
  exact nI_ne0 (by omega) (by omega)
theorem md_c4 {k : Int32} (hk : 0 ≤ k ∧ k ≤ 4000) : k - k / 2 * 2 = 0 ↔ k.toInt64 - k.toInt64 / 2 * 2 = 0 := by
  obtain ⟨a, h1, rfl⟩ := i_nat (n := 4000) (by decide) hk
  have e1 : nI a - nI a / 2 * 2 = nI (a % 2) := pk_rem (d := 2) (by omega) (by omega) (by omega)
  have e2 : lN a - lN a / 2 * 2 = lN (a % 2) := pk_lRem (b := 2) (by omega) (by omega) (by omega)
  rw [nI_l (by omega), e1, e2]
  have hm : a % 2 < 2 := Nat.mod_lt _ (by omega)
  have q1 : nI (a % 2) = 0 ↔ a % 2 = 0 := nI_eq (b := 0) (by omega) (by omega)
  have q2 : lN (a % 2) = 0 ↔ a % 2 = 0 := lN_eq (b := 0) (by omega) (by omega)
  rw [q1, q2]
theorem md_e4 {k : Int32} (hk : 0 ≤ k ∧ k ≤ 4000) (sa st : Int64) : sa + (-(k / 2)).toInt64 * st = sa - k.toInt64 / 2 * st := by
  obtain ⟨a, h1, rfl⟩ := i_nat (n := 4000) (by decide) hk
  have e1 : nI a / 2 = nI (a / 2) := pk_div (d := 2) (by omega) (by omega) (by omega)
  have e2 : lN a / 2 = lN (a / 2) := pk_lDiv (b := 2) (by omega) (by omega) (by omega)
  rw [e1, nI_negL (by omega), nI_l (by omega), e2, Int64.neg_mul, Int64.sub_eq_add_neg]
theorem md_e4b {k : Int32} (hk : 0 ≤ k ∧ k ≤ 4000) : ((k + 1) / 2).toInt64 = (k.toInt64 + 1) / 2 := by
  obtain ⟨a, h1, rfl⟩ := i_nat (n := 4000) (by decide) hk
  have e1 : nI (a + 1) / 2 = nI ((a + 1) / 2) := pk_div (d := 2) (by omega) (by omega) (by omega)
  have e2 : lN (a + 1) / 2 = lN ((a + 1) / 2) := pk_lDiv (b := 2) (by omega) (by omega) (by omega)
  rw [nI_1, e1, nI_l (by omega), nI_l (by omega), lN_1, e2]
theorem kd5 {kd : Int32} (h : 0 ≤ kd ∧ kd < 6) (h0 : ¬ kd = 0) (h1 : ¬ kd = 1) (h2 : ¬ kd = 2) (h3 : ¬ kd = 3) (h4 : ¬ kd = 4) : kd = 5 := by
  obtain ⟨b, hb, rfl⟩ := i_natlt (n := 6) (by decide) h
  have hc : b = 0 ∨ b = 1 ∨ b = 2 ∨ b = 3 ∨ b = 4 ∨ b = 5 := by omega
  rcases hc with rfl | rfl | rfl | rfl | rfl | rfl
  · exact absurd rfl h0
  · exact absurd rfl h1
  · exact absurd rfl h2
  · exact absurd rfl h3
  · exact absurd rfl h4
  · rfl
def md_bump (G : Nat → Int32) (n : Int32) : Nat → Int32 := if n < -6 then G else upd G (-n).toNatClampNeg (G (-n).toNatClampNeg + 1)
theorem md_no {n : Int32} (h : n ≤ 0) (h6 : -6 ≤ n) : vp_in (-n) 7 := by
  rw [fa_le] at h h6
  have c0 : (0 : Int32).toInt = 0 := rfl
  have c6 : (-6 : Int32).toInt = -6 := by decide
  have e : (-n).toInt = -n.toInt := fb_negI (by omega)
  rw [vp_in_iff, e]
  omega
theorem md_li (n : Int32) : ((0 : Int64) ≤ n.toInt64 ∧ n.toInt64 ≤ 2) ↔ (0 ≤ n ∧ n < 3) := by
  rw [wide0, fa_le64, fa_le, fa_lt, Int32.toInt_toInt64]
  have c0 : (0 : Int32).toInt = 0 := rfl
  have c2 : (2 : Int64).toInt = 2 := rfl
  have c3 : (3 : Int32).toInt = 3 := rfl
  omega
