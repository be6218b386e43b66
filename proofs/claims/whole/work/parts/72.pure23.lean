/-! ===== the model's lists ===== -/
abbrev lsY (S T : Nat → Int32) (li : Nat) (z : Int32) (f : Nat → Int32) : Prop := (0 ≤ z ∧ z ≤ 40) ∧ S li = z ∧ ∀ k, k < 40 → T (40 * li + k) = f k
def lsR (B S T : Nat → Int32) (li : Nat) (z : Int32) (f : Nat → Int32) : Prop := (z = -1 ∧ B li = 0) ∨ (¬ B li = 0 ∧ lsY S T li z f)
def lsK (B S T B2 S2 T2 : Nat → Int32) (li : Nat) : Prop := ∀ j, j < 3 → ¬ j = li → ∀ z f, lsR B S T j z f → lsR B2 S2 T2 j z f
theorem lsK_rf (B S T : Nat → Int32) (li : Nat) : lsK B S T B S T li := fun _ _ _ _ _ h => h
theorem lsK_of {B S T B2 S2 T2 : Nat → Int32} {li : Nat} (hB : ∀ j, ¬ j = li → B2 j = B j) (hS : ∀ j, ¬ j = li → S2 j = S j) (hT : ∀ j, (j < 40 * li ∨ 40 * li + 40 ≤ j) → T2 j = T j) : lsK B S T B2 S2 T2 li := by
  intro j hj hne z f h
  rcases h with h | h
  · exact Or.inl ⟨h.1, by rw [hB j hne]; exact h.2⟩
  · refine Or.inr ⟨by rw [hB j hne]; exact h.1, h.2.1, by rw [hS j hne]; exact h.2.2.1, fun k hk => ?_⟩
    rw [hT (40 * j + k) (by omega)]
    exact h.2.2.2 k hk
theorem ls_no {B S T : Nat → Int32} {li : Nat} {z : Int32} {f : Nat → Int32} (h : lsR B S T li z f) (h0 : B li = 0) : z = -1 := by
  rcases h with h | h
  · exact h.1
  · exact absurd h0 h.1
theorem ls_yes {B S T : Nat → Int32} {li : Nat} {z : Int32} {f : Nat → Int32} (h : lsR B S T li z f) (h0 : ¬ B li = 0) : lsY S T li z f := by
  rcases h with h | h
  · exact absurd h.2 h0
  · exact h.2
theorem ls_40 {B S T : Nat → Int32} {li : Nat} {z : Int32} {f : Nat → Int32} (h : lsR B S T li z f) : z ≤ 40 := by
  rcases h with h | h
  · rw [h.1]; decide
  · exact h.2.1.2
theorem z_m1 {z : Int32} (h : 0 ≤ z) : ¬ z = -1 := by
  intro e
  rw [e] at h
  exact absurd h (by decide)
theorem rw_is {z i : Int32} (hz : z ≤ 40) : (0 ≤ i ∧ i < z) ↔ rw_has z i := ⟨fun h => ⟨h.2, h.1, fa_trans h.2 hz⟩, fun h => ⟨h.2.1, h.1⟩⟩
theorem ixN (li k : Nat) : 40 * nI li + nI k = nI (40 * li + k) := by
  have e : (40 : Int32) * nI li = nI (40 * li) := pk_mul 40 li
  rw [e, nI_add]
theorem ixI (li : Nat) {i : Int32} (h : i = nI i.toNatClampNeg) : 40 * nI li + i = nI (40 * li + i.toNatClampNeg) := (congrArg (fun t => 40 * nI li + t) h).trans (ixN li _)
theorem ls_put {B S T : Nat → Int32} {li : Nat} {z i x : Int32} {f : Nat → Int32} (hB : ¬ B li = 0) (h : lsY S T li z f) (hi : rw_has z i) : lsR B S (upd T (40 * li + i.toNatClampNeg) x) li z (rw_set z f i x) := by
  refine Or.inr ⟨hB, h.1, h.2.1, fun k hk => ?_⟩
  unfold rw_set
  rw [if_pos hi]
  by_cases e : k = i.toNatClampNeg
  · rw [e, pk_us, pk_us]
  · rw [pk_un (by omega), pk_un e]
    exact h.2.2 k hk
theorem ls_lay {B S T pl : Nat → Int32} {li a n : Nat} {z : Int32} {f : Nat → Int32} (hB : ¬ B li = 0) (h : lsY S T li z f) : lsR B S (fb_put T pl (40 * li + a) n) li z (fb_put f pl a n) := by
  refine Or.inr ⟨hB, h.1, h.2.1, fun k hk => ?_⟩
  by_cases e : a ≤ k ∧ k < a + n
  · rw [fb_put_in (by omega) (by omega), fb_put_in e.1 e.2]
    congr 1
    omega
  · rw [fb_put_out (by omega), fb_put_out (by omega)]
    exact h.2.2 k hk
theorem lsK_T {B S T T2 : Nat → Int32} {li : Nat} (hT : ∀ j, (j < 40 * li ∨ 40 * li + 40 ≤ j) → T2 j = T j) : lsK B S T B S T2 li := lsK_of (fun _ _ => rfl) (fun _ _ => rfl) hT
/-- places as plain numbers -/
theorem rg_arN {q : Int32} {n : Nat} (hq : okQ q) (hn : n < 2147483648) : rg_ar q (lN n) = nI (n % q.toNatClampNeg) := by
  have hQ := okQ_N hq
  have e0 := wideN (okQ_0 hq)
  have hm : n % q.toNatClampNeg < q.toNatClampNeg := Nat.mod_lt _ (by omega)
  unfold rg_ar lr
  rw [if_neg (q_ne hq), e0, pk_lRem (by omega) (by omega) (by omega), lN_i, if_pos (nI_pos' (by omega))]
theorem st_nat {Q Z s : Nat} {F : Nat → Nat} (hQ : 0 < Q) (hs : s < Q) (hF : ∀ k, k < Z → F k < Q) (hZ : 2 ≤ Z) : (∀ k, k < Z → F k = (F 0 + k * s) % Q) ↔ (s = (F 1 + Q - F 0) % Q ∧ ∀ k, k < Z → 2 ≤ k → F k = (F (k - 1) + s) % Q) := by
  have h0 := hF 0 (by omega)
  have h1 := hF 1 (by omega)
  constructor
  · intro h
    have e1 := h 1 (by omega)
    rw [Nat.one_mul] at e1
    refine ⟨?_, fun k hk h2 => ?_⟩
    · rcases Nat.lt_or_ge (F 0 + s) Q with q | q
      · rw [Nat.mod_eq_of_lt q] at e1
        rw [show F 1 + Q - F 0 = s + Q by omega, Nat.add_mod_right, Nat.mod_eq_of_lt hs]
      · rw [Nat.mod_eq_sub_mod q, Nat.mod_eq_of_lt (by omega)] at e1
        rw [show F 1 + Q - F 0 = s by omega, Nat.mod_eq_of_lt hs]
    · rw [h k hk, h (k - 1) (by omega), Nat.mod_add_mod]
      obtain ⟨m, rfl⟩ : ∃ m, k = m + 1 := ⟨k - 1, by omega⟩
      rw [Nat.add_sub_cancel, Nat.succ_mul, Nat.add_assoc]
  · rintro ⟨e, h⟩
    have e1 : F 1 = (F 0 + s) % Q := by
      rcases Nat.lt_or_ge (F 1) (F 0) with q | q
      · rw [Nat.mod_eq_of_lt (by omega)] at e
        rw [show F 0 + s = F 1 + Q by omega, Nat.add_mod_right, Nat.mod_eq_of_lt h1]
      · rw [Nat.mod_eq_sub_mod (by omega), Nat.mod_eq_of_lt (by omega)] at e
        rw [show F 0 + s = F 1 by omega, Nat.mod_eq_of_lt h1]
    intro k
    induction k with
    | zero => intro _; rw [Nat.zero_mul, Nat.add_zero, Nat.mod_eq_of_lt h0]
    | succ k ih =>
      intro hk
      rcases Nat.eq_zero_or_pos k with z | z
      · subst z
        rw [Nat.zero_add, Nat.one_mul]
        exact e1
      · rw [h (k + 1) hk (by omega), Nat.add_sub_cancel, ih (by omega), Nat.mod_add_mod, Nat.succ_mul, Nat.add_assoc]
/-- the steps with which all of a list comes -/
abbrev stH (q z : Int32) (f : Nat → Int32) (s : Nat) : Prop := ∀ k, k < z.toNatClampNeg → f k = pb q 0 (nI s) (f 0) 0 (nI k).toInt64
theorem f_N {q x : Int32} (hq : okQ q) (h : 0 ≤ x ∧ x < q) : x = nI x.toNatClampNeg ∧ x.toNatClampNeg < q.toNatClampNeg := by
  have h1 := jN h.1
  refine ⟨h1.1, ?_⟩
  have h2 := h.2
  have h0 := h.1
  rw [fa_lt] at h2
  rw [fa_le] at h0
  have e1 : x.toNatClampNeg = x.toInt.toNat := rfl
  have e2 : q.toNatClampNeg = q.toInt.toNat := rfl
  have c0 : (0 : Int32).toInt = 0 := rfl
  omega
theorem stO_N {q z : Int32} {f : Nat → Int32} (hq : okQ q) (ht : tells q z f) : stO q f = nI (((f 1).toNatClampNeg + q.toNatClampNeg - (f 0).toNatClampNeg) % q.toNatClampNeg) := by
  have hz := z2N ht.2
  have hQ := okQ_N hq
  have h0 := ht.1 0 (by omega)
  have h1 := ht.1 1 (by omega)
  have n0 := f_N hq h0
  have n1 := f_N hq h1
  have e := far_ar hq h1 h0
  unfold stO
  rw [e]
  by_cases hc : 0 ≤ f 1 - f 0
  · rw [if_pos hc]
    rw [n1.1, n0.1] at hc ⊢
    rw [nI_clamp (by omega), nI_clamp (by omega)]
    have hle : (f 0).toNatClampNeg ≤ (f 1).toNatClampNeg := by
      rcases Nat.lt_or_ge (f 1).toNatClampNeg (f 0).toNatClampNeg with q9 | q9
      · exact absurd (pk_sneg (by omega) q9) (Int32.not_lt.mpr hc)
      · exact q9
    rw [pk_sub hle]
    congr 1
    rw [Nat.mod_eq_sub_mod (by omega), Nat.mod_eq_of_lt (by omega)]
    omega
  · rw [if_neg hc]
    rw [n1.1, n0.1] at hc ⊢
    rw [nI_clamp (by omega), nI_clamp (by omega)]
    have hlt : (f 1).toNatClampNeg < (f 0).toNatClampNeg := by
      rcases Nat.lt_or_ge (f 1).toNatClampNeg (f 0).toNatClampNeg with q9 | q9
      · exact q9
      · exact absurd (by rw [pk_sub q9]; exact nI_pos' (by omega)) hc
    rw [Nat.mod_eq_of_lt (by omega)]
    have e5 := asN (okQ_0 hq)
    rw [fa_eq, nI_toInt (by omega)]
    have e6 := pk_sub_toInt (a := (f 1).toNatClampNeg) (b := (f 0).toNatClampNeg) (by omega) (by omega)
    have e7 : q.toInt = (q.toNatClampNeg : Int) := by
      have := congrArg Int32.toInt e5
      rw [nI_toInt (by omega)] at this
      exact this
    rw [fb_addI (by rw [e6, e7]; omega) (by rw [e6, e7]; omega), e6, e7]
    omega
theorem stH_iff {q z : Int32} {f : Nat → Int32} {s : Nat} (hq : okQ q) (hz : z ≤ 40) (ht : tells q z f) (hs : s < q.toNatClampNeg) : stH q z f s ↔ (stA q z f ∧ nI s = stO q f) := by
  have hz4 := z40 hz
  have hz2 := z2N ht.2
  have hQ := okQ_N hq
  have hN : ∀ k, k < z.toNatClampNeg → f k = nI (f k).toNatClampNeg ∧ (f k).toNatClampNeg < q.toNatClampNeg := fun k hk => f_N hq (ht.1 k hk)
  have hst := st_nat (Q := q.toNatClampNeg) (Z := z.toNatClampNeg) (s := s) (F := fun k => (f k).toNatClampNeg) (by omega) hs (fun k hk => (hN k hk).2) hz2
  have hO := stO_N hq ht
  have hOl : ((f 1).toNatClampNeg + q.toNatClampNeg - (f 0).toNatClampNeg) % q.toNatClampNeg < q.toNatClampNeg := Nat.mod_lt _ (by omega)
  have h0 := hN 0 (by omega)
  have hmul : ∀ k, k < z.toNatClampNeg → k * s ≤ 40 * 2000 := fun k hk => Nat.mul_le_mul (by omega) (by omega)
  have e1 : ∀ k, k < z.toNatClampNeg → (f k = pb q 0 (nI s) (f 0) 0 (nI k).toInt64 ↔ (f k).toNatClampNeg = ((f 0).toNatClampNeg + k * s) % q.toNatClampNeg) := by
    intro k hk
    have hm := hmul k hk
    have hl : ((f 0).toNatClampNeg + k * s) % q.toNatClampNeg < q.toNatClampNeg := Nat.mod_lt _ (by omega)
    have ep : pb q 0 (nI s) (f 0) 0 (nI k).toInt64 = nI (((f 0).toNatClampNeg + k * s) % q.toNatClampNeg) := by
      show rg_ar q ((f 0).toInt64 + (nI k).toInt64 * (nI s).toInt64) = _
      rw [wideN (ht.1 0 (by omega)).1, nI_l (by omega), nI_l (by omega), lN_mul, lN_add, rg_arN hq (by omega)]
    rw [ep]
    have hk2 := hN k hk
    constructor
    · intro h
      rw [h, nI_clamp (by omega)]
    · intro h
      rw [← h]
      exact hk2.1
  have e2 : ∀ k, k < z.toNatClampNeg → 2 ≤ k → nI s = stO q f → (f k = rg_ar q (f (k - 1) + stO q f).toInt64 ↔ (f k).toNatClampNeg = ((f (k - 1)).toNatClampNeg + s) % q.toNatClampNeg) := by
    intro k hk h2 hso
    have hk1 := hN (k - 1) (by omega)
    have hl : ((f (k - 1)).toNatClampNeg + s) % q.toNatClampNeg < q.toNatClampNeg := Nat.mod_lt _ (by omega)
    have ep : rg_ar q (f (k - 1) + stO q f).toInt64 = nI (((f (k - 1)).toNatClampNeg + s) % q.toNatClampNeg) := by
      rw [← hso]
      have e3 : f (k - 1) + nI s = nI ((f (k - 1)).toNatClampNeg + s) := (congrArg (fun t => t + nI s) hk1.1).trans (nI_add _ _)
      rw [e3, nI_l (by omega), rg_arN hq (by omega)]
    rw [ep]
    have hk2 := hN k hk
    constructor
    · intro h
      rw [h, nI_clamp (by omega)]
    · intro h
      rw [← h]
      exact hk2.1
  have e3 : nI s = stO q f ↔ s = ((f 1).toNatClampNeg + q.toNatClampNeg - (f 0).toNatClampNeg) % q.toNatClampNeg := by
    rw [hO]
    exact nI_eq (by omega) (by omega)
  constructor
  · intro h
    have h2 := hst.mp (fun k hk => (e1 k hk).mp (h k hk))
    have h3 := e3.mpr h2.1
    exact ⟨fun k hk hk2 => (e2 k hk hk2 h3).mpr (h2.2 k hk hk2), h3⟩
  · rintro ⟨h, h3⟩
    have h2 := hst.mpr ⟨e3.mp h3, fun k hk hk2 => (e2 k hk hk2 h3).mp (h k hk hk2)⟩
    exact fun k hk => (e1 k hk).mpr (h2 k hk)
/-- how far the search for steps is -/
abbrev stG (q z : Int32) (f : Nat → Int32) (i : Nat) : Prop := stA q z f ∧ (stO q f).toNatClampNeg < i
theorem stO_bd {q z : Int32} {f : Nat → Int32} (hq : okQ q) (ht : tells q z f) : stO q f = nI (stO q f).toNatClampNeg ∧ (stO q f).toNatClampNeg < q.toNatClampNeg := by
  have h := rg_ar_bd hq (f 1 - f 0).toInt64
  exact f_N hq h
theorem stG_no {q z : Int32} {f : Nat → Int32} {i : Nat} (hq : okQ q) (hz : z ≤ 40) (ht : tells q z f) (hi : i < q.toNatClampNeg) (h : ¬ stH q z f i) : stG q z f (i + 1) ↔ stG q z f i := by
  have hb := stO_bd hq ht
  constructor
  · rintro ⟨h1, h2⟩
    refine ⟨h1, ?_⟩
    rcases Nat.lt_or_ge (stO q f).toNatClampNeg i with q9 | q9
    · exact q9
    · exact absurd ((stH_iff hq hz ht hi).mpr ⟨h1, by rw [hb.1]; congr 1; omega⟩) h
  · rintro ⟨h1, h2⟩
    exact ⟨h1, by omega⟩
theorem stG_yes {q z : Int32} {f : Nat → Int32} {i : Nat} (hq : okQ q) (hz : z ≤ 40) (ht : tells q z f) (hi : i < q.toNatClampNeg) (h : stH q z f i) : stG q z f (i + 1) ∧ ¬ stG q z f i ∧ nI i = stO q f := by
  have h1 := (stH_iff hq hz ht hi).mp h
  have hQ := okQ_N hq
  have e : (stO q f).toNatClampNeg = i := by rw [← h1.2, nI_clamp (by omega)]
  exact ⟨⟨h1.1, by omega⟩, fun z9 => by have := z9.2; omega, h1.2⟩
theorem ste_end {q z : Int32} {f : Nat → Int32} {i : Nat} {k : Int32} (hq : okQ q) (ht : tells q z f) (hi : q.toNatClampNeg ≤ i) : steA q z f k = if k = 0 then (if stG q z f i then 1 else 0) else (if stG q z f i then stO q f else -9) := by
  have hb := stO_bd hq ht
  have hQ := okQ_N hq
  have hne : ¬ stO q f = -9 := by
    intro e
    have h := (rg_ar_bd hq (f 1 - f 0).toInt64).1
    change 0 ≤ stO q f at h
    rw [e] at h
    exact absurd h (by decide)
  unfold steA stpB
  by_cases hA : stA q z f
  · have hg : stG q z f i := ⟨hA, by omega⟩
    simp only [if_pos hA, if_pos hg, if_neg hne]
  · have hg : ¬ stG q z f i := fun z9 => hA z9.1
    simp only [if_neg hA, if_neg hg, if_true]
theorem kin_iff {q : Int32} {v : Nat → Int32} {kd w z : Int32} {f : Nat → Int32} (hz : z ≤ 40) : ffk (foP q v kd w f) 0 z.toNatClampNeg = -9 ↔ ∀ k, k < z.toNatClampNeg → f k = pb q kd (rg_val v w 1) (rg_val v w 2) (rg_val v w 3) (nI k).toInt64 := by
  have hz4 := z40 hz
  rw [ffk_9 _ _ (by omega)]
  constructor
  · intro h k hk
    exact Classical.not_not.mp (h k (by omega) (by omega))
  · intro h k _ hk z9
    exact z9 (h k (by omega))
