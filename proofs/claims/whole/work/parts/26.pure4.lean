/-! ===== what the calls refuse, and what they answer ===== -/
def rf_of (nw w k : Int32) : Int32 := if ¬ (0 ≤ w ∧ w < nw) then -1 else if 0 ≤ k ∧ k < 5 then 0 else -2
def rf_let (z x : Int32) : Int32 := if x < 0 then -4 else if 255 < x then -6 else if 72 ≤ z then -6 else 0
abbrev allB (v : Nat → Int32) (nw n : Int32) : Prop := ∀ i, i < nw.toNatClampNeg → rg_val v (nI i) 1 < n ∧ rg_val v (nI i) 2 < n
def rf_cir (v : Nat → Int32) (nw n : Int32) : Int32 := if n < 2 then -4 else if 2000 < n then -6 else if allB v nw n then 0 else -3
def rf_wal (q nw kd st sa fg : Int32) : Int32 := if ¬ (0 ≤ kd ∧ kd < 6) then -2 else if st < 0 then -4 else if sa < 0 then -4 else if fg < 0 then -4 else if rg_room q nw kd st sa fg then 0 else -6
def rf_chg (q nw w k x : Int32) : Int32 := if ¬ (0 ≤ w ∧ w < nw) then -1 else if ¬ (0 ≤ k ∧ k < 4) then -2 else if x < 0 then -4 else if rg_gr q k < x then -6 else 0
def wadd (v : Nat → Int32) (nw a b c d : Int32) : Nat → Int32 := rg_set (rg_set (rg_set (rg_set v nw 0 a) nw 1 b) nw 2 c) nw 3 d
theorem rf_num_ok {nw w n a b : Int32} (h : rf_num nw w n a b = 0) : (0 ≤ w ∧ w < nw) ∧ a ≤ n ∧ n ≤ b := by
  unfold rf_num at h
  by_cases h1 : 0 ≤ w ∧ w < nw
  · rw [if_neg (fun z => z h1)] at h
    by_cases h2 : n < a
    · rw [if_pos h2] at h; exact absurd h (by decide)
    · rw [if_neg h2] at h
      by_cases h3 : b < n
      · rw [if_pos h3] at h; exact absurd h (by decide)
      · exact ⟨h1, fa_of_nlt h2, fa_of_nlt h3⟩
  · rw [if_pos h1] at h; exact absurd h (by decide)
theorem rf_beh_ok {nw w n k ks : Int32} (h : rf_beh nw w n k ks = 0) : (0 ≤ w ∧ w < nw) ∧ (1 ≤ n ∧ n ≤ 200) ∧ (0 ≤ k ∧ k < ks) := by
  unfold rf_beh at h
  by_cases h1 : rf_num nw w n 1 200 = 0
  · rw [if_pos h1] at h
    have h2 := rf_num_ok h1
    by_cases h3 : 0 ≤ k ∧ k < ks
    · exact ⟨h2.1, h2.2, h3⟩
    · rw [if_neg h3] at h; exact absurd h (by decide)
  · rw [if_neg h1] at h; exact absurd h h1
theorem rf_nth_ok {nw w n j a : Int32} (h : rf_nth nw w n j a = 0) : (0 ≤ w ∧ w < nw) ∧ (1 ≤ n ∧ n ≤ 200) ∧ a ≤ j := by
  unfold rf_nth at h
  by_cases h1 : 0 ≤ w ∧ w < nw
  · rw [if_neg (fun z => z h1)] at h
    by_cases h2 : n < 1
    · rw [if_pos h2] at h; exact absurd h (by decide)
    · rw [if_neg h2] at h
      by_cases h3 : j < a
      · rw [if_pos h3] at h; exact absurd h (by decide)
      · rw [if_neg h3] at h
        by_cases h4 : 200 < n
        · rw [if_pos h4] at h; exact absurd h (by decide)
        · exact ⟨h1, ⟨fa_of_nlt h2, fa_of_nlt h4⟩, fa_of_nlt h3⟩
  · rw [if_pos h1] at h; exact absurd h (by decide)
theorem n200 {n : Int32} (h : 1 ≤ n ∧ n ≤ 200) : 1 ≤ n.toNatClampNeg ∧ n.toNatClampNeg ≤ 200 ∧ n = nI n.toNatClampNeg := by
  obtain ⟨h1, h2⟩ := h
  rw [fa_le] at h1 h2
  have c1 : (1 : Int32).toInt = 1 := rfl
  have c2 : (200 : Int32).toInt = 200 := rfl
  have e : n.toNatClampNeg = n.toInt.toNat := rfl
  refine ⟨by omega, by omega, ?_⟩
  rw [fa_eq, nI_toInt (by omega)]
  omega
theorem mk_ne {pl : Nat → Int32} {n : Nat} (h : 0 < n) : 0 < (mk pl n).length := by
  cases e : mk pl n with
  | nil =>
    have h1 := (mk_mem pl (pl 0) n).mpr ⟨0, h, rfl⟩
    rw [e] at h1
    exact absurd h1 List.not_mem_nil
  | cons a t => simp
/-- marks -/
def mkA (M : List Int32) (k : Int32) : Int32 := if k = 0 then nI M.length else if k = 1 then M.getD 0 0 else M.getD (M.length - 1) 0
/-- the lengths, the least first -/
def gaps (q : Int32) (M : List Int32) : List Int32 := mk (gpL q M) M.length
def lenA (q : Int32) (M : List Int32) (j : Int32) : Int32 := if j = -1 then nI (gaps q M).length else if j < nI (gaps q M).length then (gaps q M).getD j.toNatClampNeg 0 else -9
def manA (q : Int32) (M : List Int32) (j : Int32) : Int32 := if j < nI (gaps q M).length then nI (fa_cnt (fun i => decide (gpL q M i = (gaps q M).getD j.toNatClampNeg 0)) M.length) else -9
theorem gaps_rep {q z z3 : Int32} {f f3 : Nat → Int32} {M : List Int32} (h : so_rep M z f) (h3 : so_rep (mk (fun j => gp q z f (nI j)) M.length) z3 f3) : so_rep (gaps q M) z3 f3 := by
  unfold gaps
  rw [← mk_cg (pl := fun j => gp q z f (nI j)) (fun k hk => gp_gpL h hk)]
  exact h3
theorem so_get_j {L : List Int32} {z : Int32} {f : Nat → Int32} (h : so_rep L z f) {j : Int32} (h0 : 0 ≤ j) (hj : j < z) : so_get z f j = L.getD j.toNatClampNeg 0 := by
  obtain ⟨i, hi, rfl⟩ : ∃ i : Nat, i < 2147483648 ∧ j = nI i := nI_of (Int32.not_lt.mpr h0)
  have hl := h.2.1
  rw [h.1] at hj
  have hj2 := (nI_ltI (by omega) (by omega)).mp hj
  rw [so_get_rep h hj2, nI_clamp (by omega)]
/-- the first of the shortest gaps -/
def clo (q : Int32) (M : List Int32) : Nat → Nat
  | 0 => 0
  | i + 1 => if gpL q M i < gpL q M (clo q M i) then i else clo q M i
theorem clo_lt (q : Int32) (M : List Int32) : ∀ i, 0 < i → clo q M i < i
  | 0, h => absurd h (Nat.lt_irrefl 0)
  | i + 1, _ => by
    unfold clo
    split
    · exact Nat.lt_succ_self i
    · rcases Nat.eq_zero_or_pos i with e | e
      · subst e; exact Nat.lt_succ_self 0
      · exact Nat.lt_succ_of_lt (clo_lt q M i e)
theorem clo_1 (q : Int32) (M : List Int32) : clo q M 1 = 0 := by
  have := clo_lt q M 1 (by omega)
  omega
def cloA (q : Int32) (M : List Int32) (k : Int32) : Int32 := if k = 0 then gpL q M (clo q M M.length) else M.getD (clo q M M.length) 0
theorem j_0 {j : Int32} (h : -1 ≤ j) (h1 : ¬ j = -1) : 0 ≤ j := by
  rw [fa_le] at h ⊢
  rw [fa_eq] at h1
  have c1 : (-1 : Int32).toInt = -1 := by decide
  have c0 : (0 : Int32).toInt = 0 := rfl
  omega
