/-! ===== convergents ===== -/
/-- both parts of the fraction that c terms from the k-th on tell -/
def cB (t : Nat → Nat) : Nat → Nat → Nat × Nat
  | _, 0 => (1, 0)
  | k, c + 1 => (t k * (cB t (k + 1) c).1 + (cB t (k + 1) c).2, (cB t (k + 1) c).1)
/-- the way forward, from two forerunners on -/
def cG (t : Nat → Nat) : Nat → Nat → Nat → Nat → Nat
  | _, 0, _, n => n
  | k, c + 1, o, n => cG t (k + 1) c n (t k * n + o)
theorem cG_step {t : Nat → Nat} {k c o n : Nat} (h : 0 < c) : cG t k c o n = cG t (k + 1) (c - 1) n (t k * n + o) := by
  obtain ⟨m, rfl⟩ : ∃ m, c = m + 1 := ⟨c - 1, by omega⟩
  rfl
theorem cB_step (t : Nat → Nat) {d c : Nat} (h : 0 < d) : cB t (d - 1) (c + 1) = (t (d - 1) * (cB t d c).1 + (cB t d c).2, (cB t d c).1) := by
  obtain ⟨m, rfl⟩ : ∃ m, d = m + 1 := ⟨d - 1, by omega⟩
  rfl
theorem cG_cB (t : Nat → Nat) : ∀ c k o n, cG t k c o n = n * (cB t k c).1 + o * (cB t k c).2
  | 0, k, o, n => by show n = n * 1 + o * 0; rw [Nat.mul_one, Nat.mul_zero, Nat.add_zero]
  | c + 1, k, o, n => by
    show cG t (k + 1) c n (t k * n + o) = n * (t k * (cB t (k + 1) c).1 + (cB t (k + 1) c).2) + o * (cB t (k + 1) c).1
    rw [cG_cB t c (k + 1)]
    generalize (cB t (k + 1) c).1 = x
    generalize (cB t (k + 1) c).2 = y
    rw [Nat.add_mul, Nat.mul_add]
    have e : t k * n * x = n * (t k * x) := by ac_rfl
    rw [e]
    omega
theorem cB_gcd (t : Nat → Nat) : ∀ c k, Nat.gcd (cB t k c).1 (cB t k c).2 = 1
  | 0, k => by show Nat.gcd 1 0 = 1; decide
  | c + 1, k => by
    have ih := cB_gcd t c (k + 1)
    show Nat.gcd (t k * (cB t (k + 1) c).1 + (cB t (k + 1) c).2) (cB t (k + 1) c).1 = 1
    generalize (cB t (k + 1) c).1 = x at ih ⊢
    generalize (cB t (k + 1) c).2 = y at ih ⊢
    rw [Nat.gcd_comm, Nat.gcd_rec, Nat.mul_comm, Nat.mul_add_mod, ← Nat.gcd_rec]
    exact ih
theorem cB_bd {a b : Nat} : ∀ c k, 1 ≤ (eS a b (k + c)).1 → (cB (eT a b) k c).1 ≤ (eS a b k).1 ∧ (cB (eT a b) k c).2 ≤ (eS a b k).2
  | 0, k, h => ⟨h, Nat.zero_le _⟩
  | c + 1, k, h => by
    have ih := cB_bd c (k + 1) (by rw [show k + 1 + c = k + (c + 1) by omega]; exact h)
    have e1 : (eS a b (k + 1)).1 = (eS a b k).2 := rfl
    have e2 : (eS a b (k + 1)).2 = (eS a b k).1 % (eS a b k).2 := rfl
    rw [e1, e2] at ih
    refine ⟨?_, ih.1⟩
    show eT a b k * (cB (eT a b) (k + 1) c).1 + (cB (eT a b) (k + 1) c).2 ≤ (eS a b k).1
    have h1 := Nat.mul_le_mul_left (eT a b k) ih.1
    have h2 : (eS a b k).2 * eT a b k + (eS a b k).1 % (eS a b k).2 = (eS a b k).1 := Nat.div_add_mod _ _
    rw [Nat.mul_comm] at h2
    have h3 := ih.2
    omega
theorem cB_pos {a b L : Nat} (hL : eL a b L) : ∀ c k, 1 ≤ k → k + c ≤ L → 1 ≤ (cB (eT a b) k c).1
  | 0, k, _, _ => Nat.le_refl 1
  | c + 1, k, h1, h2 => by
    have ih := cB_pos hL c (k + 1) (by omega) (by omega)
    obtain ⟨m, rfl⟩ : ∃ m, k = m + 1 := ⟨k - 1, by omega⟩
    have hp := hL.1 m (by omega)
    have hq := hL.1 (m + 1) (by omega)
    have e1 : (eS a b (m + 1)).1 = (eS a b m).2 := rfl
    have e2 : (eS a b (m + 1)).2 = (eS a b m).1 % (eS a b m).2 := rfl
    have hlt : (eS a b (m + 1)).2 < (eS a b (m + 1)).1 := by rw [e1, e2]; exact Nat.mod_lt _ hp
    have ht : 1 ≤ eT a b (m + 1) := Nat.div_pos (Nat.le_of_lt hlt) hq
    show 1 ≤ eT a b (m + 1) * (cB (eT a b) (m + 1 + 1) c).1 + (cB (eT a b) (m + 1 + 1) c).2
    have h5 := Nat.mul_le_mul ht ih
    omega
theorem cB_ok {a b L i : Nat} (ha : a < 2001) (hb : b < 2001) (hL : eL a b L) (hi : i < L) : (cB (eT a b) 0 (i + 1)).1 ≤ 2000 ∧ (cB (eT a b) 0 (i + 1)).2 ≤ 2000 ∧ 0 < (cB (eT a b) 0 (i + 1)).2 := by
  have h := cB_bd (a := a) (b := b) (i + 1) 0 (by rw [Nat.zero_add]; show 1 ≤ (eS a b i).2; exact hL.1 i hi)
  have e1 : (eS a b 0).1 = a := rfl
  have e2 : (eS a b 0).2 = b := rfl
  rw [e1, e2] at h
  refine ⟨by omega, by omega, ?_⟩
  show 1 ≤ (cB (eT a b) 1 i).1
  exact cB_pos hL i 1 (by omega) (by omega)
theorem eT_bd {a b L i : Nat} (ha : a < 2001) (hb : b < 2001) (hL : eL a b L) (hi : i < L) : eT a b i < 2001 := by
  have h1 := eS_bd ha hb i (fun t ht => hL.1 t (by omega))
  have h2 : eT a b i ≤ (eS a b i).1 := Nat.div_le_self _ _
  omega
def rf_con (nw w j : Int32) (L : Nat) (k : Int32) : Int32 := if ¬ (0 ≤ w ∧ w < nw) then -1 else if j < 0 then -4 else if nI L ≤ j then -6 else if 0 ≤ k ∧ k < 2 then 0 else -2
abbrev cvA (a b j : Nat) (k : Int32) : Int64 := lN (if k = 0 then (cB (eT a b) 0 (j + 1)).1 else (cB (eT a b) 0 (j + 1)).2)
theorem cv_0 (t : Nat → Nat) (c : Nat) : cG t 0 c 0 1 = (cB t 0 c).1 := by rw [cG_cB]; omega
theorem cv_1 (t : Nat → Nat) (c : Nat) : cG t 0 c 1 0 = (cB t 0 c).2 := by rw [cG_cB]; omega
theorem con_ok {nw w j : Int32} {L : Nat} {k : Int32} (h1 : 0 ≤ w ∧ w < nw) (h2 : 0 ≤ j) (h3 : j < nI L) (h4 : 0 ≤ k ∧ k < 2) : rf_con nw w j L k = 0 := by
  unfold rf_con
  rw [if_neg (fun z => z h1), if_neg (Int32.not_lt.mpr h2), if_neg (Int32.not_le.mpr h3), if_pos h4]
theorem j_L {j : Int32} {L : Nat} (h2 : 0 ≤ j) (h3 : j < nI L) (hL : L ≤ 92) : j.toNatClampNeg < L := by
  have h := jN h2
  rw [h.1] at h3
  exact (nI_ltI (by omega) (by omega)).mp h3
theorem nI_d1 {d : Nat} (h : 0 < d) : nI d - 1 + (-1) = nI (d - 1) - 1 := by
  rw [show nI d - 1 = nI (d - 1) from pk_sub (b := 1) h, Int32.sub_eq_add_neg]
/-! ===== the nearest fraction ===== -/
def nD (Q S h k : Nat) : Nat := if k * S ≤ h * Q then h * Q - k * S else k * S - h * Q
def nU (Q S : Nat) (b : Nat × Nat) (h k : Nat) : Nat × Nat := if nD Q S h k * b.2 < nD Q S b.1 b.2 * k then (h, k) else b
def nF (Q S : Nat) (b : Nat × Nat) (k c : Nat) : Nat → Nat × Nat
  | 0 => b
  | d + 1 => nU Q S (nF Q S b k c d) (c + d) k
def nB (Q S : Nat) : Nat → Nat × Nat
  | 0 => (0, 1)
  | t + 1 => nF Q S (nB Q S t) (t + 1) ((t + 1) * S / Q) 2
theorem nU_dom {Q S : Nat} {b : Nat × Nat} {k' x : Nat} (h k : Nat) (hb : 0 < b.2) (h1 : nD Q S b.1 b.2 * k' ≤ x * b.2) : nD Q S (nU Q S b h k).1 (nU Q S b h k).2 * k' ≤ x * (nU Q S b h k).2 := by
  by_cases hc : nD Q S h k * b.2 < nD Q S b.1 b.2 * k
  · have e : nU Q S b h k = (h, k) := if_pos hc
    rw [e]
    show nD Q S h k * k' ≤ x * k
    refine Nat.le_of_mul_le_mul_left ?_ hb
    have s1 : nD Q S h k * b.2 * k' ≤ nD Q S b.1 b.2 * k * k' := Nat.mul_le_mul_right k' (Nat.le_of_lt hc)
    have s2 : nD Q S b.1 b.2 * k' * k ≤ x * b.2 * k := Nat.mul_le_mul_right k h1
    have e1 : b.2 * (nD Q S h k * k') = nD Q S h k * b.2 * k' := by ac_rfl
    have e2 : nD Q S b.1 b.2 * k * k' = nD Q S b.1 b.2 * k' * k := by ac_rfl
    have e3 : b.2 * (x * k) = x * b.2 * k := by ac_rfl
    rw [e1, e3]
    rw [e2] at s1
    exact Nat.le_trans s1 s2
  · have e : nU Q S b h k = b := if_neg hc
    rw [e]
    exact h1
theorem nU_self (Q S : Nat) (b : Nat × Nat) (h k : Nat) : nD Q S (nU Q S b h k).1 (nU Q S b h k).2 * k ≤ nD Q S h k * (nU Q S b h k).2 := by
  by_cases hc : nD Q S h k * b.2 < nD Q S b.1 b.2 * k
  · have e : nU Q S b h k = (h, k) := if_pos hc
    rw [e]
    exact Nat.le_refl _
  · have e : nU Q S b h k = b := if_neg hc
    rw [e]
    exact Nat.not_lt.mp hc
theorem nU_pos {Q S : Nat} {b : Nat × Nat} (h : Nat) {k : Nat} (hb : 0 < b.2) (hk : 0 < k) : 0 < (nU Q S b h k).2 := by
  unfold nU
  split
  · exact hk
  · exact hb
theorem nU_no {Q S : Nat} {b : Nat × Nat} {h k : Nat} (h1 : nD Q S b.1 b.2 * k ≤ nD Q S h k * b.2) : nU Q S b h k = b := if_neg (Nat.not_lt.mpr h1)
theorem nU_nU {Q S : Nat} {b : Nat × Nat} {h h' k : Nat} (hb : 0 < b.2) (hk : 0 < k) (h1 : nD Q S h' k < nD Q S h k) : nU Q S (nU Q S b h k) h' k = nU Q S b h' k := by
  by_cases hc : nD Q S h k * b.2 < nD Q S b.1 b.2 * k
  · have e : nU Q S b h k = (h, k) := if_pos hc
    have e2 : nU Q S (h, k) h' k = (h', k) := if_pos (show nD Q S h' k * k < nD Q S h k * k from Nat.mul_lt_mul_of_pos_right h1 hk)
    have e3 : nU Q S b h' k = (h', k) := if_pos (Nat.lt_trans (Nat.mul_lt_mul_of_pos_right h1 hb) hc)
    rw [e, e2, e3]
  · rw [show nU Q S b h k = b from if_neg hc]
theorem nD_lo {Q S c h k : Nat} (hc : c * Q ≤ k * S) (hh : h ≤ c) : nD Q S h k = k * S - h * Q := by
  have h1 := Nat.mul_le_mul_right Q hh
  unfold nD
  split <;> omega
theorem nD_hi {Q S c h k : Nat} (hc : k * S < (c + 1) * Q) (hh : c + 1 ≤ h) : nD Q S h k = h * Q - k * S := by
  have h1 := Nat.mul_le_mul_right Q hh
  unfold nD
  rw [if_pos (by omega)]
theorem nF_lo {Q S c k : Nat} {b : Nat × Nat} (hQ : 0 < Q) (hb : 0 < b.2) (hk : 0 < k) (hc : c * Q ≤ k * S) : ∀ d, d ≤ c → nF Q S b k 0 (d + 1) = nU Q S b d k
  | 0, _ => rfl
  | d + 1, h => by
    have ih := nF_lo (b := b) hQ hb hk hc d (by omega)
    have e : nF Q S b k 0 (d + 1 + 1) = nU Q S (nF Q S b k 0 (d + 1)) (0 + (d + 1)) k := rfl
    rw [e, ih, Nat.zero_add]
    refine nU_nU hb hk ?_
    rw [nD_lo hc h, nD_lo hc (show d ≤ c by omega)]
    have h1 := Nat.mul_le_mul_right Q h
    have h2 : (d + 1) * Q = d * Q + Q := Nat.succ_mul d Q
    omega
theorem nF_hi {Q S c k : Nat} {b : Nat × Nat} (hc : k * S < (c + 1) * Q) (hd : nD Q S b.1 b.2 * k ≤ nD Q S (c + 1) k * b.2) : ∀ d, nF Q S b k (c + 2) d = b
  | 0 => rfl
  | d + 1 => by
    have ih := nF_hi hc hd d
    have e : nF Q S b k (c + 2) (d + 1) = nU Q S (nF Q S b k (c + 2) d) (c + 2 + d) k := rfl
    rw [e, ih]
    refine nU_no (Nat.le_trans hd ?_)
    refine Nat.mul_le_mul_right _ ?_
    rw [nD_hi hc (Nat.le_refl (c + 1)), nD_hi hc (show c + 1 ≤ c + 2 + d by omega)]
    have h1 := Nat.mul_le_mul_right Q (show c + 1 ≤ c + 2 + d by omega)
    omega
theorem nF_split (Q S : Nat) (b : Nat × Nat) (k c a : Nat) : ∀ d, nF Q S b k c (a + d) = nF Q S (nF Q S b k c a) k (c + a) d
  | 0 => rfl
  | d + 1 => by
    have ih := nF_split Q S b k c a d
    have e : nF Q S b k c (a + d + 1) = nU Q S (nF Q S b k c (a + d)) (c + (a + d)) k := rfl
    have e2 : nF Q S (nF Q S b k c a) k (c + a) (d + 1) = nU Q S (nF Q S (nF Q S b k c a) k (c + a) d) (c + a + d) k := rfl
    rw [← Nat.add_assoc, e, e2, ih, Nat.add_assoc]
theorem cut_in {Q S k : Nat} (hQ : 0 < Q) : k * S / Q * Q ≤ k * S ∧ k * S < (k * S / Q + 1) * Q := by
  have h1 := Nat.div_add_mod (k * S) Q
  have h2 := Nat.mod_lt (k * S) hQ
  rw [Nat.mul_comm] at h1
  have h3 : (k * S / Q + 1) * Q = k * S / Q * Q + Q := Nat.succ_mul _ Q
  omega
theorem cut_lt {Q S k : Nat} (hS : S < Q) (hk : 0 < k) : k * S / Q < k := by
  rw [Nat.div_lt_iff_lt_mul (by omega)]
  exact Nat.mul_lt_mul_of_pos_left hS hk
theorem nF_row {Q S k : Nat} {b : Nat × Nat} (hS : S < Q) (hb : 0 < b.2) (hk : 0 < k) : nF Q S b k 0 (k + 1) = nF Q S b k (k * S / Q) 2 := by
  have hQ : 0 < Q := by omega
  have hc := cut_in (S := S) (k := k) hQ
  have hl := cut_lt hS hk
  generalize k * S / Q = c at hc hl ⊢
  have e1 : nF Q S b k 0 (c + 2) = nF Q S b k c 2 := by
    have e2 : nF Q S b k 0 (c + 1 + 1) = nU Q S (nF Q S b k 0 (c + 1)) (0 + (c + 1)) k := rfl
    rw [e2, nF_lo hQ hb hk hc.1 c (Nat.le_refl c), Nat.zero_add]
    rfl
  have e3 : nF Q S b k c 2 = nU Q S (nU Q S b c k) (c + 1) k := rfl
  obtain ⟨d, hd⟩ : ∃ d, k + 1 = c + 2 + d := ⟨k + 1 - (c + 2), by omega⟩
  rw [hd, nF_split, e1, Nat.zero_add]
  refine nF_hi hc.2 ?_ d
  rw [e3]
  exact nU_self _ _ _ _ _
/-- at least as near as all fractions with k up to K -/
def nDom (Q S : Nat) (b : Nat × Nat) (K : Nat) : Prop := ∀ k h, k ≤ K → nD Q S b.1 b.2 * k ≤ nD Q S h k * b.2
theorem nDom_U {Q S K : Nat} {b : Nat × Nat} (h k : Nat) (hb : 0 < b.2) (hD : nDom Q S b K) : nDom Q S (nU Q S b h k) K := fun k' h' hk => nU_dom h k hb (hD k' h' hk)
theorem nB_dom {Q S : Nat} (hS : S < Q) : ∀ t, nDom Q S (nB Q S t) t ∧ 0 < (nB Q S t).2
  | 0 => by
    refine ⟨fun k h hk => ?_, Nat.one_pos⟩
    rw [show k = 0 by omega, Nat.mul_zero]
    exact Nat.zero_le _
  | t + 1 => by
    have ih := nB_dom hS t
    have hQ : 0 < Q := by omega
    have hc := cut_in (S := S) (k := t + 1) hQ
    have e : nB Q S (t + 1) = nU Q S (nU Q S (nB Q S t) ((t + 1) * S / Q) (t + 1)) ((t + 1) * S / Q + 1) (t + 1) := rfl
    rw [e]
    generalize (t + 1) * S / Q = c at hc ⊢
    generalize nB Q S t = b at ih ⊢
    have hp1 := nU_pos (Q := Q) (S := S) (b := b) c (k := t + 1) ih.2 (by omega)
    refine ⟨fun k h hk => ?_, nU_pos _ hp1 (by omega)⟩
    rcases Nat.lt_or_ge t k with q | q
    · have ek : k = t + 1 := by omega
      subst ek
      rcases Nat.lt_or_ge c h with q2 | q2
      · refine Nat.le_trans (nU_self _ _ _ _ _) (Nat.mul_le_mul_right _ ?_)
        rw [nD_hi hc.2 (Nat.le_refl (c + 1)), nD_hi hc.2 (show c + 1 ≤ h by omega)]
        have h1 := Nat.mul_le_mul_right Q (show c + 1 ≤ h by omega)
        omega
      · refine Nat.le_trans (nU_dom (c + 1) (t + 1) hp1 (nU_self Q S b c (t + 1))) (Nat.mul_le_mul_right _ ?_)
        rw [nD_lo hc.1 (Nat.le_refl c), nD_lo hc.1 q2]
        have h1 := Nat.mul_le_mul_right Q q2
        omega
    · exact nDom_U _ _ hp1 (nDom_U _ _ ih.2 ih.1) k h (by omega)
theorem nF_dom {Q S K k c : Nat} {b : Nat × Nat} (hk : 0 < k) (hb : 0 < b.2) (hD : nDom Q S b K) : ∀ d, nDom Q S (nF Q S b k c d) K ∧ 0 < (nF Q S b k c d).2
  | 0 => ⟨hD, hb⟩
  | d + 1 => by
    have ih := nF_dom (c := c) hk hb hD d
    exact ⟨nDom_U _ _ ih.2 ih.1, nU_pos _ ih.2 hk⟩
theorem nD_mul (Q S g h k : Nat) : nD Q S (g * h) (g * k) = g * nD Q S h k := by
  unfold nD
  rw [Nat.mul_assoc, Nat.mul_assoc]
  rcases Nat.eq_zero_or_pos g with z | z
  · subst z; simp
  · by_cases hc : k * S ≤ h * Q
    · rw [if_pos hc, if_pos (Nat.mul_le_mul_left g hc), Nat.mul_sub]
    · rw [if_neg hc, if_neg (fun z2 => hc (Nat.le_of_mul_le_mul_left z2 z)), Nat.mul_sub]
theorem nU_non {Q S t h : Nat} {b : Nat × Nat} (hD : nDom Q S b t) (hg : ¬ Nat.gcd h (t + 1) = 1) : nU Q S b h (t + 1) = b := by
  have h0 : 0 < Nat.gcd h (t + 1) := Nat.gcd_pos_of_pos_right h (by omega)
  obtain ⟨h', eh⟩ := Nat.gcd_dvd_left h (t + 1)
  obtain ⟨k', ek⟩ := Nat.gcd_dvd_right h (t + 1)
  generalize Nat.gcd h (t + 1) = g at hg h0 eh ek
  have hk : k' ≤ t := by
    rcases Nat.lt_or_ge t k' with q | q
    · have := Nat.mul_le_mul (show 2 ≤ g by omega) q
      omega
    · exact q
  refine nU_no ?_
  rw [ek, eh, nD_mul]
  have h1 := Nat.mul_le_mul_left g (hD k' h' hk)
  have e1 : nD Q S b.1 b.2 * (g * k') = g * (nD Q S b.1 b.2 * k') := by ac_rfl
  rw [e1, Nat.mul_assoc]
  exact h1
theorem nU_bd {Q S M h k : Nat} {b : Nat × Nat} (hb : b.1 ≤ M ∧ b.2 ≤ M) (hh : h ≤ M) (hk : k ≤ M) : (nU Q S b h k).1 ≤ M ∧ (nU Q S b h k).2 ≤ M := by
  unfold nU
  split
  · exact ⟨hh, hk⟩
  · exact hb
theorem nF_bd {Q S M k c : Nat} {b : Nat × Nat} (hb : b.1 ≤ M ∧ b.2 ≤ M) (hk : k ≤ M) : ∀ d, c + d ≤ M + 1 → (nF Q S b k c d).1 ≤ M ∧ (nF Q S b k c d).2 ≤ M
  | 0, _ => hb
  | d + 1, h => nU_bd (nF_bd hb hk d (by omega)) (by omega) hk
theorem nB_bd {Q S : Nat} (hS : S < Q) : ∀ t, t ≤ 99 → (nB Q S t).1 ≤ 99 ∧ (nB Q S t).2 ≤ 99
  | 0, _ => ⟨show 0 ≤ 99 by decide, show 1 ≤ 99 by decide⟩
  | t + 1, h => by
    have hl := cut_lt (k := t + 1) hS (by omega)
    exact nF_bd (nB_bd hS t (by omega)) (by omega) 2 (by omega)
theorem nD_bd {Q S h k : Nat} (hQ : Q ≤ 2000) (hS : S ≤ 2000) (hh : h ≤ 99) (hk : k ≤ 99) : nD Q S h k ≤ 198000 := by
  have h1 := Nat.mul_le_mul hh hQ
  have h2 := Nat.mul_le_mul hk hS
  unfold nD
  split <;> omega
theorem lN_toInt_sub {a b : Nat} (ha : a < 2 ^ 31) (hb : b < 2 ^ 31) : (lN a - lN b).toInt = (a : Int) - b := by
  have e1 := pk_lT (n := a) (by omega)
  have e2 := pk_lT (n := b) (by omega)
  rw [fb_subL (by rw [e1, e2]; omega) (by rw [e1, e2]; omega), e1, e2]
/-- how the two sides reckon it -/
theorem ap_1 {Q S h k : Nat} (hQ : Q ≤ 2000) (hS : S ≤ 2000) (hh : h ≤ 99) (hk : k ≤ 99) : (if 0 < lN h * lN Q - lN k * lN S then lN h * lN Q - lN k * lN S else -(lN h * lN Q - lN k * lN S)) = lN (nD Q S h k) := by
  have h1 := Nat.mul_le_mul hh hQ
  have h2 := Nat.mul_le_mul hk hS
  rw [lN_mul, lN_mul]
  have c0 : (0 : Int64) = lN 0 := rfl
  unfold nD
  by_cases hc : k * S ≤ h * Q
  · rw [if_pos hc, lN_sub hc]
    by_cases h0 : 0 < h * Q - k * S
    · rw [if_pos (by rw [c0]; exact (lN_lt (by omega) (by omega)).mpr h0)]
    · have e0 : h * Q - k * S = 0 := by omega
      rw [e0]
      decide
  · rw [if_neg hc]
    have e : lN (h * Q) - lN (k * S) = -lN (k * S - h * Q) := by
      rw [← lN_sub (show h * Q ≤ k * S by omega), Int64.neg_sub]
    rw [e, Int64.neg_neg, if_neg]
    intro z
    rw [fa_lt64, ← e, lN_toInt_sub (by omega) (by omega)] at z
    have e0 : (0 : Int64).toInt = 0 := rfl
    omega
theorem lcm_0 {Q S h k : Nat} (hQ : Q ≤ 2000) (hS : S ≤ 2000) (hh : h ≤ 99) (hk : k ≤ 99) : ((0 : Int64) ≤ lN h * lN Q - lN k * lN S → lN h * lN Q - lN k * lN S = lN (nD Q S h k)) ∧ (¬ (0 : Int64) ≤ lN h * lN Q - lN k * lN S → -(lN h * lN Q - lN k * lN S) = lN (nD Q S h k)) := by
  have h1 := ap_1 hQ hS hh hk
  generalize lN h * lN Q - lN k * lN S = x at h1 ⊢
  constructor
  · intro h
    by_cases h0 : 0 < x
    · rw [if_pos h0] at h1
      exact h1
    · have e : x = 0 := by
        rw [fa_lt64] at h0
        rw [fa_le64] at h
        rw [fa_eq64]
        omega
      rw [e] at h1 ⊢
      rw [← h1]
      rfl
  · intro h
    rw [if_neg (fun z => h (by rw [fa_le64]; rw [fa_lt64] at z; omega))] at h1
    exact h1
def rf_nea (nw w b k : Int32) : Int32 := if rf_num nw w b 1 99 = 0 then (if 0 ≤ k ∧ k < 2 then 0 else -2) else rf_num nw w b 1 99
def neaA (Q S b : Nat) (k : Int32) : Int32 := if k = 0 then nI (nB Q S b).1 else nI (nB Q S b).2
theorem n99 {n : Int32} (h : 1 ≤ n ∧ n ≤ 99) : 1 ≤ n.toNatClampNeg ∧ n.toNatClampNeg ≤ 99 ∧ n = nI n.toNatClampNeg := by
  obtain ⟨h1, h2⟩ := h
  rw [fa_le] at h1 h2
  have c1 : (1 : Int32).toInt = 1 := rfl
  have c2 : (99 : Int32).toInt = 99 := rfl
  have e : n.toNatClampNeg = n.toInt.toNat := rfl
  refine ⟨by omega, by omega, ?_⟩
  rw [fa_eq, nI_toInt (by omega)]
  omega
