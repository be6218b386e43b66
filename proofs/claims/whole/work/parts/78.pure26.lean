/-! ===== walks read from letters ===== -/
def gtx (n : Nat) (f : Nat → Int32) (i : Nat) : Int32 := if i < n then f i else -1
theorem tx_gt {z : Int32} {n i : Nat} {f : Nat → Int32} (hz : z = nI n) (hn : n ≤ 72) (hi : i < 2147483648) : tx_get z f (nI i) = gtx n f i := by
  unfold tx_get gtx
  rw [hz]
  by_cases h : i < n
  · rw [if_pos h, if_pos ⟨nI_lt h (by omega), nI_pos' (by omega), nI_lt (b := 72) (by omega) (by omega)⟩, nI_clamp (by omega)]
  · rw [if_neg h, if_neg]
    rintro ⟨h1, _, _⟩
    exact h ((nI_ltI (by omega) (by omega)).mp h1)
theorem gt_in {n i : Nat} {f : Nat → Int32} (h : i < n) : gtx n f i = f i := if_pos h
theorem gt_out {n i : Nat} {f : Nat → Int32} (h : ¬ i < n) : gtx n f i = -1 := if_neg h
/-- a number told in digits -/
def nmb (f : Nat → Int32) (a : Nat) : Nat → Int32
  | 0 => 0
  | d + 1 => nmb f a d * 10 + f (a + d) - 48
abbrev isD (x : Int32) : Prop := 48 ≤ x ∧ x ≤ 57
def sfE (n : Nat) (f : Nat → Int32) (e : Nat) : Int32 := if gtx n f e = 59 then -9 else nI e
def sfL (n : Nat) (f : Nat → Int32) : Nat → Nat → Int32
  | 0, i => sfE n f i
  | c + 1, i => if isD (gtx n f i) then sfL n f c (i + 1) else nI i
def dgN (n : Nat) (f : Nat → Int32) (a : Nat) : Nat := (tx_dg (gtx n f a)).toNatClampNeg
def sfA (n : Nat) (f : Nat → Int32) (a : Nat) : Int32 := if tx_dg (gtx n f a) < 0 then nI a else sfL n f (dgN n f a) (a + 1)
def wF (n : Nat) (f : Nat → Int32) : Nat → Nat → Int32
  | 0, _ => -9
  | k + 1, a => if sfA n f a = -9 then (if a + (dgN n f a + 2) < n then wF n f k (a + (dgN n f a + 2)) else -9) else sfA n f a
theorem dg_c (x : Int32) : (x = 99 ∧ tx_dg x = 4) ∨ (x = 115 ∧ tx_dg x = 5) ∨ (x = 119 ∧ tx_dg x = 10) ∨ (x = 120 ∧ tx_dg x = 1) ∨ (¬ x = 99 ∧ ¬ x = 115 ∧ ¬ x = 119 ∧ ¬ x = 120 ∧ tx_dg x = -1) := by
  by_cases h1 : x = 99
  · exact Or.inl ⟨h1, by rw [h1]; rfl⟩
  · by_cases h2 : x = 115
    · exact Or.inr (Or.inl ⟨h2, by rw [h2]; rfl⟩)
    · by_cases h3 : x = 119
      · exact Or.inr (Or.inr (Or.inl ⟨h3, by rw [h3]; rfl⟩))
      · by_cases h4 : x = 120
        · exact Or.inr (Or.inr (Or.inr (Or.inl ⟨h4, by rw [h4]; rfl⟩)))
        · refine Or.inr (Or.inr (Or.inr (Or.inr ⟨h1, h2, h3, h4, ?_⟩)))
          unfold tx_dg
          rw [if_neg h1, if_neg h2, if_neg h3, if_neg h4]
theorem dg_n {n a : Nat} {f : Nat → Int32} (h : 0 ≤ tx_dg (gtx n f a)) : tx_dg (gtx n f a) = nI (dgN n f a) ∧ 1 ≤ dgN n f a ∧ dgN n f a ≤ 10 ∧ a < n := by
  have ha : a < n := by
    rcases Nat.lt_or_ge a n with q | q
    · exact q
    · rw [gt_out (by omega)] at h
      exact absurd h (by decide)
  refine ⟨asN h, ?_⟩
  unfold dgN
  rcases dg_c (gtx n f a) with ⟨_, e⟩ | ⟨_, e⟩ | ⟨_, e⟩ | ⟨_, e⟩ | ⟨_, _, _, _, e⟩
  · rw [e]; exact ⟨by decide, by decide, ha⟩
  · rw [e]; exact ⟨by decide, by decide, ha⟩
  · rw [e]; exact ⟨by decide, by decide, ha⟩
  · rw [e]; exact ⟨by decide, by decide, ha⟩
  · rw [e] at h; exact absurd h (by decide)
theorem nI_n9 {i : Nat} (h : i < 2147483648) : ¬ nI i = -9 := by
  intro e
  have e2 := congrArg Int32.toInt e
  rw [nI_toInt (by omega)] at e2
  have e3 : (-9 : Int32).toInt = -9 := by decide
  omega
theorem sfL_yes {n : Nat} {f : Nat → Int32} {c i : Nat} (h : isD (gtx n f i)) (hc : 0 < c) : sfL n f c i = sfL n f (c - 1) (i + 1) := by
  obtain ⟨m, rfl⟩ : ∃ m, c = m + 1 := ⟨c - 1, by omega⟩
  rw [sfL, if_pos h]
  rfl
theorem sfL_no {n : Nat} {f : Nat → Int32} {c i : Nat} (h : ¬ isD (gtx n f i)) (hc : 0 < c) : sfL n f c i = nI i := by
  obtain ⟨m, rfl⟩ : ∃ m, c = m + 1 := ⟨c - 1, by omega⟩
  rw [sfL, if_neg h]
theorem not_isD : ¬ isD (-1) := by decide
theorem sfL_ok {n : Nat} {f : Nat → Int32} (hn : n ≤ 72) : ∀ c i, i + c < 2147483000 → sfL n f c i = -9 → (∀ t, t < c → isD (f (i + t))) ∧ i + c < n ∧ f (i + c) = 59
  | 0, i, hb, h => by
    unfold sfL sfE at h
    by_cases h1 : gtx n f i = 59
    · have hi : i < n := by
        rcases Nat.lt_or_ge i n with q | q
        · exact q
        · rw [gt_out (by omega)] at h1
          exact absurd h1 (by decide)
      rw [gt_in hi] at h1
      exact ⟨fun t ht => absurd ht (Nat.not_lt_zero t), hi, h1⟩
    · rw [if_neg h1] at h
      exact absurd h (nI_n9 (by omega))
  | c + 1, i, hb, h => by
    rw [sfL] at h
    by_cases h1 : isD (gtx n f i)
    · rw [if_pos h1] at h
      have ih := sfL_ok hn c (i + 1) (by omega) h
      have hi : i < n := by omega
      rw [gt_in hi] at h1
      refine ⟨fun t ht => ?_, by omega, by rw [show i + (c + 1) = i + 1 + c by omega]; exact ih.2.2⟩
      rcases Nat.eq_zero_or_pos t with z | z
      · subst z; exact h1
      · have := ih.1 (t - 1) (by omega)
        rw [show i + 1 + (t - 1) = i + t by omega] at this
        exact this
    · rw [if_neg h1] at h
      exact absurd h (nI_n9 (by omega))
/-- a statement of good form -/
theorem sf_ok {n a : Nat} {f : Nat → Int32} (hn : n ≤ 72) (ha : a ≤ 72) (h : sfA n f a = -9) : 0 ≤ tx_dg (gtx n f a) ∧ a + (dgN n f a + 2) ≤ n ∧ (∀ t, t < dgN n f a → isD (f (a + 1 + t))) ∧ gtx n f a = f a := by
  unfold sfA at h
  by_cases h1 : tx_dg (gtx n f a) < 0
  · rw [if_pos h1] at h
    exact absurd h (nI_n9 (by omega))
  · rw [if_neg h1] at h
    have h0 := Int32.not_lt.mp h1
    have hd := dg_n h0
    have h2 := sfL_ok hn _ _ (by omega) h
    exact ⟨h0, by omega, h2.1, gt_in hd.2.2.2⟩
theorem sf_bad {n a : Nat} {f : Nat → Int32} (h : ¬ 0 ≤ tx_dg (gtx n f a)) : sfA n f a = nI a := if_pos (Int32.not_le.mp h)
theorem sf_go {n a : Nat} {f : Nat → Int32} (h : 0 ≤ tx_dg (gtx n f a)) : sfA n f a = sfL n f (dgN n f a) (a + 1) := if_neg (Int32.not_lt.mpr h)
theorem wF_bad {n k a : Nat} {f : Nat → Int32} (hk : 0 < k) (h : ¬ sfA n f a = -9) : wF n f k a = sfA n f a := by
  obtain ⟨m, rfl⟩ : ∃ m, k = m + 1 := ⟨k - 1, by omega⟩
  rw [wF, if_neg h]
theorem wF_go {n k a : Nat} {f : Nat → Int32} (hk : 0 < k) (h : sfA n f a = -9) (h2 : a + (dgN n f a + 2) < n) : wF n f k a = wF n f (k - 1) (a + (dgN n f a + 2)) := by
  obtain ⟨m, rfl⟩ : ∃ m, k = m + 1 := ⟨k - 1, by omega⟩
  rw [wF, if_pos h, if_pos h2]
  rfl
theorem wF_end {n k a : Nat} {f : Nat → Int32} (hk : 0 < k) (h : sfA n f a = -9) (h2 : ¬ a + (dgN n f a + 2) < n) : wF n f k a = -9 := by
  obtain ⟨m, rfl⟩ : ∃ m, k = m + 1 := ⟨k - 1, by omega⟩
  rw [wF, if_pos h, if_neg h2]
theorem wF_ok {n k a : Nat} {f : Nat → Int32} (hk : 0 < k) (h : wF n f k a = -9) : sfA n f a = -9 ∧ (a + (dgN n f a + 2) < n → wF n f (k - 1) (a + (dgN n f a + 2)) = -9) := by
  by_cases h1 : sfA n f a = -9
  · exact ⟨h1, fun h2 => (wF_go hk h1 h2).symm.trans h⟩
  · exact absurd ((wF_bad hk h1).symm.trans h) h1
/-- what a statement does -/
abbrev foC (v : Nat → Int32) (nw n : Int32) : Prop := 2 ≤ n ∧ n ≤ 2000 ∧ allB v nw n
abbrev foH (nw w : Int32) : Prop := 0 ≤ w ∧ w < nw
abbrev foR (f : Nat → Int32) (a : Nat) (q nw : Int32) : Prop := rg_room q nw (nmb f (a + 1) 1) (nmb f (a + 2) 4) (nmb f (a + 6) 4) (nmb f (a + 10) 1)
abbrev foS (f : Nat → Int32) (a : Nat) (q nw : Int32) : Prop := foH nw (nmb f (a + 1) 1) ∧ nmb f (a + 2) 4 ≤ rg_gr q 1
abbrev folP (f : Nat → Int32) (a : Nat) (q nw : Int32) (v : Nat → Int32) : Prop := if f a = 99 then foC v nw (nmb f (a + 1) 4) else if f a = 119 then foR f a q nw else if f a = 115 then foS f a q nw else foH nw (nmb f (a + 1) 1)
def folQ (f : Nat → Int32) (a : Nat) (q nw : Int32) (v : Nat → Int32) : Int32 := if f a = 99 then (if foC v nw (nmb f (a + 1) 4) then nmb f (a + 1) 4 else q) else q
def folN (f : Nat → Int32) (a : Nat) (q nw : Int32) : Int32 := if f a = 99 then nw else if f a = 119 then (if foR f a q nw then nw + 1 else nw) else if f a = 115 then nw else if foH nw (nmb f (a + 1) 1) then nw - 1 else nw
def folV (f : Nat → Int32) (a : Nat) (q nw : Int32) (v : Nat → Int32) : Nat → Int32 := if f a = 99 then v else if f a = 119 then (if foR f a q nw then wadd v nw (nmb f (a + 1) 1) (nmb f (a + 2) 4) (nmb f (a + 6) 4) (nmb f (a + 10) 1) else v) else if f a = 115 then (if foS f a q nw then rg_set v (nmb f (a + 1) 1) 1 (nmb f (a + 2) 4) else v) else if foH nw (nmb f (a + 1) 1) then rg_cp v (nmb f (a + 1) 1).toNatClampNeg nw.toNatClampNeg else v
abbrev wSt : Type := Int32 × Int32 × (Nat → Int32)
def wG (n : Nat) (f : Nat → Int32) : Nat → Nat → Nat → wSt → Int32 × Option wSt
  | 0, _, c, s => (nI c, some s)
  | k + 1, a, c, s => if a < n then (if folP f a s.1 s.2.1 s.2.2 then wG n f k (a + (dgN n f a + 2)) (c + 1) (folQ f a s.1 s.2.1 s.2.2, folN f a s.1 s.2.1, folV f a s.1 s.2.1 s.2.2) else (-2000 - nI a, none)) else (nI c, some s)
def wk (n : Nat) (f : Nat → Int32) (q nw : Int32) (v : Nat → Int32) : Int32 × Option wSt := if wF n f 72 0 = -9 then wG n f 72 0 0 (q, nw, v) else (-1000 - wF n f 72 0, none)
def wkS (n : Nat) (f : Nat → Int32) (q nw : Int32) (v : Nat → Int32) : wSt := (wk n f q nw v).2.getD (q, nw, v)
def wkC (n : Nat) (f : Nat → Int32) (q nw : Int32) (v : Nat → Int32) (cz : Int32) : Int32 := if (wk n f q nw v).2.isSome then 0 else cz
theorem wG_go {n k a c : Nat} {f : Nat → Int32} {q nw : Int32} {v : Nat → Int32} (hk : 0 < k) (ha : a < n) (h : folP f a q nw v) : wG n f k a c (q, nw, v) = wG n f (k - 1) (a + (dgN n f a + 2)) (c + 1) (folQ f a q nw v, folN f a q nw, folV f a q nw v) := by
  obtain ⟨m, rfl⟩ : ∃ m, k = m + 1 := ⟨k - 1, by omega⟩
  rw [wG, if_pos ha, if_pos h]
  rfl
theorem wG_no {n k a c : Nat} {f : Nat → Int32} {q nw : Int32} {v : Nat → Int32} (hk : 0 < k) (ha : a < n) (h : ¬ folP f a q nw v) : wG n f k a c (q, nw, v) = (-2000 - nI a, none) := by
  obtain ⟨m, rfl⟩ : ∃ m, k = m + 1 := ⟨k - 1, by omega⟩
  rw [wG, if_pos ha, if_neg h]
theorem wG_end {n k a c : Nat} {f : Nat → Int32} {s : wSt} (ha : ¬ a < n) : wG n f k a c s = (nI c, some s) := by
  cases k with
  | zero => rfl
  | succ k => rw [wG, if_neg ha]
/-! ===== walkers stay as they should be ===== -/
abbrev okS (q nw : Int32) (v : Nat → Int32) : Prop := okQ q ∧ 0 ≤ nw ∧ nw ≤ 5 ∧ ∀ w, 0 ≤ w ∧ w < nw → okW q v w
/-- the same, by numbers -/
def okN (q : Int32) (K : Nat) (v : Nat → Int32) : Prop := okQ q ∧ K ≤ 5 ∧ ∀ w, w < K → (0 ≤ v (4 * w) ∧ v (4 * w) < 6) ∧ (0 ≤ v (4 * w + 1) ∧ v (4 * w + 1) < q) ∧ (0 ≤ v (4 * w + 2) ∧ v (4 * w + 2) < q) ∧ (0 ≤ v (4 * w + 3) ∧ v (4 * w + 3) < 10)
theorem val0 (v : Nat → Int32) {w : Nat} (h : w < 5) : rg_val v (nI w) 0 = v (4 * w) := rg_valN (k := 0) (by omega)
theorem val1 (v : Nat → Int32) {w : Nat} (h : w < 5) : rg_val v (nI w) 1 = v (4 * w + 1) := rg_valN (k := 1) (by omega)
theorem val2 (v : Nat → Int32) {w : Nat} (h : w < 5) : rg_val v (nI w) 2 = v (4 * w + 2) := rg_valN (k := 2) (by omega)
theorem val3 (v : Nat → Int32) {w : Nat} (h : w < 5) : rg_val v (nI w) 3 = v (4 * w + 3) := rg_valN (k := 3) (by omega)
theorem okS_N {q nw : Int32} {v : Nat → Int32} (h : okS q nw v) : ∃ K : Nat, nw = nI K ∧ okN q K v := by
  obtain ⟨h1, h2, h3, h4⟩ := h
  obtain ⟨K, hK, rfl⟩ := i_nat (n := 5) (by decide) ⟨h2, h3⟩
  refine ⟨K, rfl, h1, hK, fun w hw => ?_⟩
  have h5 := h4 (nI w) ⟨nI_pos' (by omega), nI_lt hw (by omega)⟩
  unfold okW at h5
  rw [val0 v (by omega), val1 v (by omega), val2 v (by omega), val3 v (by omega)] at h5
  exact h5
theorem okN_S {q : Int32} {K : Nat} {v : Nat → Int32} (h : okN q K v) : okS q (nI K) v := by
  obtain ⟨h1, h2, h3⟩ := h
  refine ⟨h1, nI_pos' (by omega), nI_le (b := 5) h2 (by omega), fun w hw => ?_⟩
  obtain ⟨j, hj, rfl⟩ := i_natlt (n := K) (nI_toInt (by omega)) hw
  unfold okW
  rw [val0 v (by omega), val1 v (by omega), val2 v (by omega), val3 v (by omega)]
  exact h3 j hj
theorem okS_cir {q nw n : Int32} {v : Nat → Int32} (h : okS q nw v) (hn : 2 ≤ n ∧ n ≤ 2000) (ha : allB v nw n) : okS n nw v := by
  obtain ⟨K, rfl, h1, h2, h3⟩ := okS_N h
  refine okN_S ⟨hn, h2, fun w hw => ?_⟩
  have h4 := ha w (by rw [nI_clamp (by omega)]; exact hw)
  rw [val1 v (by omega), val2 v (by omega)] at h4
  have h5 := h3 w hw
  exact ⟨h5.1, ⟨h5.2.1.1, h4.1⟩, ⟨h5.2.2.1.1, h4.2⟩, h5.2.2.2⟩
theorem wadd_N {v : Nat → Int32} {K : Nat} {a b c d : Int32} (h : K < 5) : wadd v (nI K) a b c d = upd (upd (upd (upd v (4 * K) a) (4 * K + 1) b) (4 * K + 2) c) (4 * K + 3) d := by
  have e0 : ∀ (u : Nat → Int32) (x : Int32), rg_set u (nI K) 0 x = upd u (4 * K) x := fun u x => rg_setN (k := 0) (by omega)
  have e1 : ∀ (u : Nat → Int32) (x : Int32), rg_set u (nI K) 1 x = upd u (4 * K + 1) x := fun u x => rg_setN (k := 1) (by omega)
  have e2 : ∀ (u : Nat → Int32) (x : Int32), rg_set u (nI K) 2 x = upd u (4 * K + 2) x := fun u x => rg_setN (k := 2) (by omega)
  have e3 : ∀ (u : Nat → Int32) (x : Int32), rg_set u (nI K) 3 x = upd u (4 * K + 3) x := fun u x => rg_setN (k := 3) (by omega)
  unfold wadd
  rw [e0, e1, e2, e3]
theorem okS_add {q nw a b c d : Int32} {v : Nat → Int32} (h : okS q nw v) (hr : rg_room q nw a b c d) (ha : 0 ≤ a) (hb : 0 ≤ b) (hc : 0 ≤ c) (hd : 0 ≤ d) : okS q (nw + 1) (wadd v nw a b c d) := by
  obtain ⟨K, rfl, h1, h2, h3⟩ := okS_N h
  have hq := h.1
  obtain ⟨r1, r2, r3, r4, r5⟩ := hr
  have hK : K < 5 := (nI_ltI (b := 5) (by omega) (by omega)).mp r1
  have a6 : a < 6 := by
    change a ≤ 5 at r2
    rw [fa_le] at r2
    rw [fa_lt]
    have c5 : (5 : Int32).toInt = 5 := rfl
    have c6 : (6 : Int32).toInt = 6 := rfl
    omega
  have d10 : d < 10 := by
    change d ≤ 9 at r5
    rw [fa_le] at r5
    rw [fa_lt]
    have c5 : (9 : Int32).toInt = 9 := rfl
    have c6 : (10 : Int32).toInt = 10 := rfl
    omega
  have b1 : b < q := (sub1_lt hq hb).mp r3
  have c1 : c < q := (sub1_lt hq hc).mp r4
  rw [nI_1, wadd_N hK]
  refine okN_S ⟨hq, by omega, fun w hw => ?_⟩
  rcases Nat.lt_or_ge w K with z | z
  · have h5 := h3 w z
    rw [pk_un (by omega), pk_un (by omega), pk_un (by omega), pk_un (by omega)]
    rw [pk_un (by omega), pk_un (by omega), pk_un (by omega), pk_un (by omega)]
    rw [pk_un (by omega), pk_un (by omega), pk_un (by omega), pk_un (by omega)]
    rw [pk_un (by omega), pk_un (by omega), pk_un (by omega), pk_un (by omega)]
    exact h5
  · have e : w = K := by omega
    subst e
    have x0 : upd (upd (upd (upd v (4 * w) a) (4 * w + 1) b) (4 * w + 2) c) (4 * w + 3) d (4 * w) = a := by rw [pk_un (by omega), pk_un (by omega), pk_un (by omega), pk_us]
    have x1 : upd (upd (upd (upd v (4 * w) a) (4 * w + 1) b) (4 * w + 2) c) (4 * w + 3) d (4 * w + 1) = b := by rw [pk_un (by omega), pk_un (by omega), pk_us]
    have x2 : upd (upd (upd (upd v (4 * w) a) (4 * w + 1) b) (4 * w + 2) c) (4 * w + 3) d (4 * w + 2) = c := by rw [pk_un (by omega), pk_us]
    have x3 : upd (upd (upd (upd v (4 * w) a) (4 * w + 1) b) (4 * w + 2) c) (4 * w + 3) d (4 * w + 3) = d := by rw [pk_us]
    rw [x0, x1, x2, x3]
    exact ⟨⟨ha, a6⟩, ⟨hb, b1⟩, ⟨hc, c1⟩, ⟨hd, d10⟩⟩
/-- a value that one of a walker's may take -/
def okV (q k x : Int32) : Prop := 0 ≤ x ∧ x ≤ rg_gr q k
theorem okS_chg {q nw w k x : Int32} {v : Nat → Int32} (h : okS q nw v) (hw : 0 ≤ w ∧ w < nw) (hk : 0 ≤ k ∧ k < 4) (hx : okV q k x) : okS q nw (rg_set v w k x) := by
  obtain ⟨K, rfl, h1, h2, h3⟩ := okS_N h
  obtain ⟨j, hj, rfl⟩ := i_natlt (n := K) (nI_toInt (by omega)) hw
  obtain ⟨t, ht, rfl⟩ := i_natlt (n := 4) (by decide) hk
  rw [rg_setN (by omega)]
  refine okN_S ⟨h1, h2, fun i hi => ?_⟩
  have h5 := h3 i hi
  by_cases e : i = j
  · subst e
    have ht2 : t = 0 ∨ t = 1 ∨ t = 2 ∨ t = 3 := by omega
    obtain ⟨x0, x1⟩ := hx
    rcases ht2 with rfl | rfl | rfl | rfl
    · have x6 : x < 6 := by
        change x ≤ 5 at x1
        rw [fa_le] at x1
        rw [fa_lt]
        have c5 : (5 : Int32).toInt = 5 := rfl
        have c6 : (6 : Int32).toInt = 6 := rfl
        omega
      rw [Nat.add_zero, pk_us, pk_un (by omega), pk_un (by omega), pk_un (by omega)]
      exact ⟨⟨x0, x6⟩, h5.2⟩
    · rw [pk_us, pk_un (by omega), pk_un (by omega), pk_un (by omega)]
      exact ⟨h5.1, ⟨x0, (sub1_lt h1 x0).mp x1⟩, h5.2.2⟩
    · rw [pk_us, pk_un (by omega), pk_un (by omega), pk_un (by omega)]
      exact ⟨h5.1, h5.2.1, ⟨x0, (sub1_lt h1 x0).mp x1⟩, h5.2.2.2⟩
    · have x6 : x < 10 := by
        change x ≤ 9 at x1
        rw [fa_le] at x1
        rw [fa_lt]
        have c5 : (9 : Int32).toInt = 9 := rfl
        have c6 : (10 : Int32).toInt = 10 := rfl
        omega
      rw [pk_us, pk_un (by omega), pk_un (by omega), pk_un (by omega)]
      exact ⟨h5.1, h5.2.1, h5.2.2.1, ⟨x0, x6⟩⟩
  · rw [pk_un (by omega), pk_un (by omega), pk_un (by omega), pk_un (by omega)]
    exact h5
theorem okS_rem {q nw w : Int32} {v : Nat → Int32} (h : okS q nw v) (hw : 0 ≤ w ∧ w < nw) : okS q (nw - 1) (rg_cp v w.toNatClampNeg nw.toNatClampNeg) := by
  obtain ⟨K, rfl, h1, h2, h3⟩ := okS_N h
  obtain ⟨j, hj, rfl⟩ := i_natlt (n := K) (nI_toInt (by omega)) hw
  rw [nI_clamp (by omega), nI_clamp (by omega), show nI K - 1 = nI (K - 1) from pk_sub (b := 1) (by omega)]
  refine okN_S ⟨h1, by omega, fun i hi => ?_⟩
  have e : ∀ t, t < 4 → rg_cp v j K (4 * i + t) = if j ≤ i then v (4 * (i + 1) + t) else v (4 * i + t) := by
    intro t ht
    unfold rg_cp
    by_cases q : j ≤ i
    · rw [if_pos q, if_pos (by omega)]
      congr 1
      omega
    · rw [if_neg q, if_neg (by omega)]
  have e0 := e 0 (by omega)
  rw [Nat.add_zero, Nat.add_zero, Nat.add_zero] at e0
  rw [e0, e 1 (by omega), e 2 (by omega), e 3 (by omega)]
  by_cases q : j ≤ i
  · simp only [if_pos q]
    exact h3 (i + 1) (by omega)
  · simp only [if_neg q]
    exact h3 i (by omega)
theorem okS_drop {q nw : Int32} {v : Nat → Int32} (h : okS q nw v) (h0 : ¬ nw = 0) : okS q (nw - 1) v := by
  obtain ⟨K, rfl, h1, h2, h3⟩ := okS_N h
  have hK : 0 < K := by
    rcases Nat.eq_zero_or_pos K with z | z
    · exact absurd (by rw [z]; exact nI_0) h0
    · exact z
  rw [show nI K - 1 = nI (K - 1) from pk_sub (b := 1) hK]
  exact okN_S ⟨h1, by omega, fun i hi => h3 i (by omega)⟩
theorem dgd {x : Int32} (h : isD x) : ∃ j : Nat, j ≤ 9 ∧ x = nI (48 + j) := by
  obtain ⟨h1, h2⟩ := h
  rw [fa_le] at h1 h2
  have c0 : (48 : Int32).toInt = 48 := rfl
  have c1 : (57 : Int32).toInt = 57 := rfl
  refine ⟨(x.toInt - 48).toNat, by omega, ?_⟩
  rw [fa_eq, nI_toInt (by omega)]
  omega
theorem nm_bd {f : Nat → Int32} {a : Nat} : ∀ d, d ≤ 4 → (∀ t, t < d → isD (f (a + t))) → ∃ j : Nat, j < 10 ^ d ∧ nmb f a d = nI j
  | 0, _, _ => ⟨0, by decide, rfl⟩
  | d + 1, hd, h => by
    obtain ⟨j, hj, e⟩ := nm_bd d (by omega) (fun t ht => h t (by omega))
    obtain ⟨i, hi, e2⟩ := dgd (h d (by omega))
    refine ⟨j * 10 + i, ?_, ?_⟩
    · rw [Nat.pow_succ]
      omega
    · unfold nmb
      rw [e, e2]
      have e3 : nI j * 10 = nI (j * 10) := pk_mul j 10
      rw [e3, nI_add]
      have e4 : nI (j * 10 + (48 + i)) - 48 = nI (j * 10 + (48 + i) - 48) := pk_sub (b := 48) (by omega)
      rw [e4]
      congr 1
      omega
theorem nm_0 {f : Nat → Int32} {a d : Nat} (hd : d ≤ 4) (h : ∀ t, t < d → isD (f (a + t))) : 0 ≤ nmb f a d := by
  obtain ⟨j, hj, e⟩ := nm_bd d hd h
  have : 10 ^ d ≤ 10 ^ 4 := Nat.pow_le_pow_right (by decide) hd
  rw [e]
  exact nI_pos' (by omega)
theorem nm_9 {f : Nat → Int32} {a : Nat} (h : isD (f a)) : nmb f a 1 ≤ 9 := by
  obtain ⟨j, hj, e⟩ := nm_bd (f := f) (a := a) 1 (by decide) (fun t ht => by rw [show t = 0 by omega]; exact h)
  rw [e]
  exact nI_le (b := 9) (by omega) (by omega)
/-- the letter of a statement and how many digits there are -/
theorem sf_dg {n a : Nat} {f : Nat → Int32} (h0 : 0 ≤ tx_dg (gtx n f a)) (hg : gtx n f a = f a) : (f a = 99 ∧ dgN n f a = 4) ∨ (f a = 115 ∧ dgN n f a = 5) ∨ (f a = 119 ∧ dgN n f a = 10) ∨ (f a = 120 ∧ dgN n f a = 1) := by
  unfold dgN
  rcases dg_c (gtx n f a) with ⟨e1, e⟩ | ⟨e1, e⟩ | ⟨e1, e⟩ | ⟨e1, e⟩ | ⟨_, _, _, _, e⟩
  · rw [e]; exact Or.inl ⟨hg ▸ e1, rfl⟩
  · rw [e]; exact Or.inr (Or.inl ⟨hg ▸ e1, rfl⟩)
  · rw [e]; exact Or.inr (Or.inr (Or.inl ⟨hg ▸ e1, rfl⟩))
  · rw [e]; exact Or.inr (Or.inr (Or.inr ⟨hg ▸ e1, rfl⟩))
  · rw [e] at h0; exact absurd h0 (by decide)
/-- all that is known of a good statement -/
theorem sf_all {n a : Nat} {f : Nat → Int32} (hn : n ≤ 72) (ha : a ≤ 72) (h : sfA n f a = -9) : a + (dgN n f a + 2) ≤ n ∧ 1 ≤ dgN n f a ∧ (∀ t, t < dgN n f a → isD (f (a + 1 + t))) ∧ ((f a = 99 ∧ dgN n f a = 4) ∨ (f a = 115 ∧ dgN n f a = 5) ∨ (f a = 119 ∧ dgN n f a = 10) ∨ (f a = 120 ∧ dgN n f a = 1)) := by
  obtain ⟨h1, h2, h3, h4⟩ := sf_ok hn ha h
  exact ⟨h2, (dg_n h1).2.1, h3, sf_dg h1 h4⟩
theorem fol_ok {n a : Nat} {f : Nat → Int32} {q nw : Int32} {v : Nat → Int32} (hn : n ≤ 72) (ha : a ≤ 72) (hs : sfA n f a = -9) (h : okS q nw v) (hp : folP f a q nw v) : okS (folQ f a q nw v) (folN f a q nw) (folV f a q nw v) := by
  obtain ⟨h1, h2, h3, h4⟩ := sf_all hn ha hs
  have hd : ∀ b d, a + 1 ≤ b → b + d ≤ a + 1 + dgN n f a → ∀ t, t < d → isD (f (b + t)) := by
    intro b d hb hd t ht
    have := h3 (b + t - (a + 1)) (by omega)
    rw [show a + 1 + (b + t - (a + 1)) = b + t by omega] at this
    exact this
  unfold folQ folN folV
  unfold folP at hp
  rcases h4 with ⟨e, ed⟩ | ⟨e, ed⟩ | ⟨e, ed⟩ | ⟨e, ed⟩
  · simp only [if_pos e] at hp ⊢
    rw [if_pos hp]
    exact okS_cir h ⟨hp.1, hp.2.1⟩ hp.2.2
  · have e1 : ¬ f a = 99 := by rw [e]; decide
    have e2 : ¬ f a = 119 := by rw [e]; decide
    simp only [if_neg e1, if_neg e2, if_pos e] at hp ⊢
    rw [if_pos hp]
    exact okS_chg h hp.1 (by decide) ⟨nm_0 (by omega) (hd (a + 2) 4 (by omega) (by omega)), hp.2⟩
  · have e1 : ¬ f a = 99 := by rw [e]; decide
    simp only [if_neg e1, if_pos e] at hp ⊢
    rw [if_pos hp, if_pos hp]
    exact okS_add h hp (nm_0 (by omega) (hd (a + 1) 1 (by omega) (by omega))) (nm_0 (by omega) (hd (a + 2) 4 (by omega) (by omega))) (nm_0 (by omega) (hd (a + 6) 4 (by omega) (by omega))) (nm_0 (by omega) (hd (a + 10) 1 (by omega) (by omega)))
  · have e1 : ¬ f a = 99 := by rw [e]; decide
    have e2 : ¬ f a = 119 := by rw [e]; decide
    have e3 : ¬ f a = 115 := by rw [e]; decide
    simp only [if_neg e1, if_neg e2, if_neg e3] at hp ⊢
    rw [if_pos hp, if_pos hp]
    exact okS_rem h hp
theorem wG_okS {n : Nat} {f : Nat → Int32} (hn : n ≤ 72) : ∀ k a c s, okS s.1 s.2.1 s.2.2 → (a < n → a ≤ 72 ∧ ∃ j, 216 ≤ 3 * j + a ∧ wF n f j a = -9) → ∀ s2, (wG n f k a c s).2 = some s2 → okS s2.1 s2.2.1 s2.2.2
  | 0, a, c, s, h, _, s2, e => by
    have e2 : some s = some s2 := e
    cases e2
    exact h
  | k + 1, a, c, s, h, hw, s2, e => by
    rw [wG] at e
    by_cases ha : a < n
    · rw [if_pos ha] at e
      by_cases hp : folP f a s.1 s.2.1 s.2.2
      · rw [if_pos hp] at e
        obtain ⟨ha72, j, hj, hf⟩ := hw ha
        have hok := wF_ok (by omega) hf
        have hsa := sf_all hn ha72 hok.1
        refine wG_okS hn k _ _ (folQ f a s.1 s.2.1 s.2.2, folN f a s.1 s.2.1, folV f a s.1 s.2.1 s.2.2) (fol_ok hn ha72 hok.1 h hp) (fun h2 => ⟨by omega, j - 1, by omega, hok.2 h2⟩) s2 e
      · rw [if_neg hp] at e
        cases e
    · rw [if_neg ha] at e
      have e2 : some s = some s2 := e
      cases e2
      exact h
theorem wk_okS {n : Nat} {f : Nat → Int32} {q nw : Int32} {v : Nat → Int32} (hn : n ≤ 72) (h : okS q nw v) : okS (wkS n f q nw v).1 (wkS n f q nw v).2.1 (wkS n f q nw v).2.2 := by
  unfold wkS wk
  by_cases hf : wF n f 72 0 = -9
  · rw [if_pos hf]
    cases e : (wG n f 72 0 0 (q, nw, v)).2 with
    | none => exact h
    | some s2 => exact wG_okS hn 72 0 0 (q, nw, v) h (fun _ => ⟨by omega, 72, by omega, hf⟩) s2 e
  · rw [if_neg hf]
    exact h
theorem in48 (x : Int32) : ((48 : Int64) ≤ x.toInt64 ∧ x.toInt64 ≤ 57) ↔ isD x := by
  rw [fa_le64, fa_le64, Int32.toInt_toInt64]
  unfold isD
  rw [fa_le, fa_le]
  exact Iff.rfl
theorem in2000 (x : Int32) : ((2 : Int64) ≤ x.toInt64 ∧ x.toInt64 ≤ 2000) ↔ (2 ≤ x ∧ x ≤ 2000) := by
  rw [fa_le64, fa_le64, Int32.toInt_toInt64, fa_le, fa_le]
  exact Iff.rfl
theorem has_N {nw w : Int32} (h : 0 ≤ w ∧ w < nw) : w.toNatClampNeg < nw.toNatClampNeg := by
  obtain ⟨h1, h2⟩ := h
  rw [fa_le] at h1
  rw [fa_lt] at h2
  have c0 : (0 : Int32).toInt = 0 := rfl
  have e1 : w.toNatClampNeg = w.toInt.toNat := rfl
  have e2 : nw.toNatClampNeg = nw.toInt.toNat := rfl
  omega
theorem n5 {nw : Int32} (h : nw ≤ 5) : nw.toNatClampNeg ≤ 5 := by
  rw [fa_le] at h
  have c2 : (5 : Int32).toInt = 5 := rfl
  have e : nw.toNatClampNeg = nw.toInt.toNat := rfl
  omega
theorem kd_6 {k : Int32} (h0 : 0 ≤ k) (h : ¬ 6 ≤ k) : 0 ≤ k ∧ k < 6 := ⟨h0, Int32.not_le.mp h⟩
theorem kd_5 {k : Int32} (h : 6 ≤ k) : ¬ k ≤ 5 := by
  intro z
  rw [fa_le] at h z
  have c5 : (5 : Int32).toInt = 5 := rfl
  have c6 : (6 : Int32).toInt = 6 := rfl
  omega
theorem sf_d {n a : Nat} {f : Nat → Int32} (h3 : ∀ t, t < dgN n f a → isD (f (a + 1 + t))) (b d : Nat) (hb : a + 1 ≤ b) (hd : b + d ≤ a + 1 + dgN n f a) : ∀ t, t < d → isD (f (b + t)) := by
  intro t ht
  have := h3 (b + t - (a + 1)) (by omega)
  rw [show a + 1 + (b + t - (a + 1)) = b + t by omega] at this
  exact this
