/-! ===== seen, split, nearer, meeting, shared, crowded ===== -/
/-- f at the first of i, i + 1 .. (n of them) with p; -9 -/
def ff2 (p : Nat → Prop) [DecidablePred p] (f : Nat → Int32) : Nat → Nat → Int32
  | _, 0 => -9
  | i, n + 1 => if p i then f i else ff2 p f (i + 1) n
theorem ff2_yes {p : Nat → Prop} [DecidablePred p] {f : Nat → Int32} {i n : Nat} (h : p i) (hn : 0 < n) : ff2 p f i n = f i := by
  obtain ⟨m, rfl⟩ : ∃ m, n = m + 1 := ⟨n - 1, by omega⟩
  rw [ff2, if_pos h]
theorem ff2_no {p : Nat → Prop} [DecidablePred p] {f : Nat → Int32} {i n : Nat} (h : ¬ p i) (hn : 0 < n) : ff2 p f i n = ff2 p f (i + 1) (n - 1) := by
  obtain ⟨m, rfl⟩ : ∃ m, n = m + 1 := ⟨n - 1, by omega⟩
  rw [ff2, if_neg h]
  rfl
theorem isF_mem {q : Int32} {M : List Int32} {i : Nat} : gpL q M i ∈ mk (gpL q M) i ↔ ¬ isF q M i := by
  rw [mk_mem]
  constructor
  · rintro ⟨j, h1, h2⟩ h
    exact h j h1 h2
  · intro h
    apply Classical.byContradiction
    intro h2
    exact h (fun j h3 h4 => h2 ⟨j, h3, h4⟩)
theorem isF_cnt (q : Int32) (M : List Int32) : ∀ i, (mk (gpL q M) i).length = fa_cnt (fun j => decide (isF q M j)) i
  | 0 => rfl
  | i + 1 => by
    have ih := isF_cnt q M i
    rw [mk, so_in1]
    by_cases h : gpL q M i ∈ mk (gpL q M) i
    · rw [if_pos h, fa_cnt_no (by simpa using isF_mem.mp h), ih]
    · rw [if_neg h, fa_cnt_yes (by
        have := mt isF_mem.mpr h
        simpa using Classical.not_not.mp this), so_ins_len, ih]
abbrev seeP (q : Int32) (M : List Int32) (j : Int32) (i : Nat) : Prop := isF q M i ∧ nI (fa_cnt (fun t => decide (isF q M t)) i) = j
def seeA (q : Int32) (M : List Int32) (j : Int32) : Int32 := ff2 (seeP q M j) (gpL q M) 0 M.length
def splA (q : Int32) (M : List Int32) (x k : Int32) : Int32 :=
  if x ∈ M then -9
  else if k = 0 then M.getD (if so_cnt x M = 0 then M.length - 1 else so_cnt x M - 1) 0
  else rg_ar q (x - M.getD (if so_cnt x M = 0 then M.length - 1 else so_cnt x M - 1) 0).toInt64
def far (q : Int32) (v : Nat → Int32) (w : Int32) (i : Nat) : Int32 := fars q v w (rg_ar q (plK q v w i - rg_val v w 2).toInt64)
def nrL (fr : Nat → Int32) (j : Int32) : Nat → Nat → Int32 → Int32 → Int32
  | 0, _, cnt, _ => if j = -1 then cnt else -9
  | n + 1, k, cnt, least => if fr k < least then (if cnt = j then nI k else nrL fr j n (k + 1) (cnt + 1) (fr k)) else nrL fr j n (k + 1) cnt least
theorem nrL_ge {fr : Nat → Int32} {j cnt least : Int32} {n k : Nat} (hn : 0 < n) (h : least ≤ fr k) : nrL fr j n k cnt least = nrL fr j (n - 1) (k + 1) cnt least := by
  obtain ⟨m, rfl⟩ : ∃ m, n = m + 1 := ⟨n - 1, by omega⟩
  rw [nrL, if_neg (Int32.not_lt.mpr h)]
  rfl
theorem nrL_hit {fr : Nat → Int32} {j cnt least : Int32} {n k : Nat} (hn : 0 < n) (h : fr k < least) (h2 : cnt = j) : nrL fr j n k cnt least = nI k := by
  obtain ⟨m, rfl⟩ : ∃ m, n = m + 1 := ⟨n - 1, by omega⟩
  rw [nrL, if_pos h, if_pos h2]
theorem nrL_go {fr : Nat → Int32} {j cnt least : Int32} {n k : Nat} (hn : 0 < n) (h : fr k < least) (h2 : ¬ cnt = j) : nrL fr j n k cnt least = nrL fr j (n - 1) (k + 1) (cnt + 1) (fr k) := by
  obtain ⟨m, rfl⟩ : ∃ m, n = m + 1 := ⟨n - 1, by omega⟩
  rw [nrL, if_pos h, if_neg h2]
  rfl
abbrev two (nw o u : Int32) : Prop := ¬ o = u ∧ (0 ≤ o ∧ o < nw) ∧ (0 ≤ u ∧ u < nw)
def rf_mee (nw o u k : Int32) : Int32 := if two nw o u then (if 0 ≤ k ∧ k < 2 then 0 else -2) else -1
def rf_sha (nw o u n k : Int32) : Int32 := if two nw o u then rf_beh nw o n k 2 else -1
def meeA (q : Int32) (v : Nat → Int32) (o u k : Int32) : Int32 := ff2 (fun i => plK q v o i = plK q v u i) (fun i => if k = 0 then nI i else plK q v o i) 0 2001
def shaA (M L : List Int32) (k : Int32) : Int32 := if k = 0 then nI (fa_cnt (fun i => decide (M.getD i 0 ∈ L)) M.length) else ff2 (fun i => M.getD i 0 ∈ L) (fun i => M.getD i 0) 0 M.length
/-- the classes, counted -/
def crI (x mo : Int32) : Nat := (x - x / mo * mo).toNatClampNeg
def cr (pl : Nat → Int32) (mo : Int32) : Nat → Nat → Int32
  | 0 => fun _ => 0
  | i + 1 => upd (cr pl mo i) (crI (pl i) mo) (cr pl mo i (crI (pl i) mo) + 1)
def bs (f : Nat → Int32) : Nat → Nat
  | 0 => 0
  | i + 1 => if f (bs f i) < f i then i else bs f i
theorem bs_lt (f : Nat → Int32) : ∀ i, 0 < i → bs f i < i
  | 0, h => absurd h (Nat.lt_irrefl 0)
  | i + 1, _ => by
    unfold bs
    split
    · exact Nat.lt_succ_self i
    · rcases Nat.eq_zero_or_pos i with e | e
      · subst e; exact Nat.lt_succ_self 0
      · exact Nat.lt_succ_of_lt (bs_lt f i e)
theorem bs_1 (f : Nat → Int32) : bs f 1 = 0 := by
  have := bs_lt f 1 (by omega)
  omega
def croA (f : Nat → Int32) (mo k : Int32) : Int32 := if k = 0 then nI (bs f mo.toNatClampNeg) else f (bs f mo.toNatClampNeg)
theorem rg_ar_bd {q : Int32} (hq : okQ q) (n : Int64) : 0 ≤ rg_ar q n ∧ rg_ar q n < q := by
  have hne := q_ne hq
  obtain ⟨h1, h2⟩ := hq
  rw [fa_le] at h1 h2
  have c2 : (2 : Int32).toInt = 2 := rfl
  have c3 : (2000 : Int32).toInt = 2000 := rfl
  rw [c2] at h1
  rw [c3] at h2
  have hd : 0 < q.toInt64.toInt := by rw [Int32.toInt_toInt64]; omega
  have e := l_rem n q.toInt64 hd
  have b1 : (n.toInt.tmod q.toInt64.toInt).natAbs < q.toInt64.toInt.natAbs := by
    rw [Int.natAbs_tmod]
    exact Nat.mod_lt _ (by omega)
  have e3 : (n - n / q.toInt64 * q.toInt64).toInt32.toInt = n.toInt.tmod q.toInt64.toInt := by
    rw [l_toI _ (by rw [e]; rw [Int32.toInt_toInt64] at *; omega), e]
  rw [Int32.toInt_toInt64] at b1 e3
  unfold rg_ar lr
  rw [if_neg hne]
  have c0 : (0 : Int32).toInt = 0 := rfl
  by_cases hh : (0 : Int32) ≤ (n - n / q.toInt64 * q.toInt64).toInt32
  · rw [if_pos hh, fa_lt, fa_le, e3]
    rw [fa_le, e3] at hh
    omega
  · rw [if_neg hh, fa_lt, fa_le]
    rw [fa_le, e3] at hh
    have e4 : ((n - n / q.toInt64 * q.toInt64).toInt32 + q).toInt = n.toInt.tmod q.toInt + q.toInt := by
      rw [fb_addI (by rw [e3]; omega) (by rw [e3]; omega), e3]
    rw [e4]
    omega
theorem plK_bd {q : Int32} (hq : okQ q) (v : Nat → Int32) (w : Int32) (k : Nat) : 0 ≤ plK q v w k ∧ plK q v w k < q := by
  unfold plK rg_pb
  repeat' split
  all_goals exact rg_ar_bd hq _
