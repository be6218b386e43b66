/-! ===== what the class's own helpers answer ===== -/
def rf_bump (F : Nat → Int32) (n : Int32) : Nat → Int32 := if 0 ≤ -n - 1 ∧ -n - 1 < 6 then upd F (-n - 1).toNatClampNeg (F (-n - 1).toNatClampNeg + 1) else F
def rf_num (nw w n a b : Int32) : Int32 := if ¬ (0 ≤ w ∧ w < nw) then -1 else if n < a then -4 else if b < n then -6 else 0
def rf_beh (nw w n k ks : Int32) : Int32 := if rf_num nw w n 1 200 = 0 then (if 0 ≤ k ∧ k < ks then 0 else -2) else rf_num nw w n 1 200
def rf_nth (nw w n j a : Int32) : Int32 := if ¬ (0 ≤ w ∧ w < nw) then -1 else if n < 1 then -4 else if j < a then -4 else if 200 < n then -6 else 0
def rf_cro (nw w n mo k : Int32) : Int32 := if ¬ (0 ≤ w ∧ w < nw) then -1 else if n < 1 then -4 else if mo < 1 then -4 else if 200 < n then -6 else if 9 < mo then -6 else if 0 ≤ k ∧ k < 2 then 0 else -2
/-- the k-th place of a walker, as the class reckons it -/
def plK (q : Int32) (v : Nat → Int32) (w : Int32) (k : Nat) : Int32 := rg_pb q v (rg_val v w 0) w (nI k).toInt64
def mk (pl : Nat → Int32) : Nat → List Int32
  | 0 => []
  | n + 1 => so_in1 (pl n) (mk pl n)
def ms (pl : Nat → Int32) : Nat → List Int32
  | 0 => []
  | n + 1 => so_ins (pl n) (ms pl n)
theorem mk_str (pl : Nat → Int32) : ∀ n, so_str (mk pl n)
  | 0 => List.Pairwise.nil
  | n + 1 => so_in1_str (pl n) (mk_str pl n)
theorem mk_len (pl : Nat → Int32) : ∀ n, (mk pl n).length ≤ n
  | 0 => Nat.le_refl _
  | n + 1 => Nat.le_trans (so_in1_len (pl n) (mk pl n)) (Nat.succ_le_succ (mk_len pl n))
theorem mk_mem (pl : Nat → Int32) (x : Int32) : ∀ n, x ∈ mk pl n ↔ ∃ k, k < n ∧ pl k = x
  | 0 => ⟨fun h => absurd h List.not_mem_nil, fun ⟨k, h, _⟩ => absurd h (Nat.not_lt_zero k)⟩
  | n + 1 => by
    unfold mk
    rw [so_in1_mem, mk_mem pl x n]
    constructor
    · rintro (h | ⟨k, h1, h2⟩)
      · exact ⟨n, Nat.lt_succ_self n, h.symm⟩
      · exact ⟨k, Nat.lt_succ_of_lt h1, h2⟩
    · rintro ⟨k, h1, h2⟩
      rcases Nat.lt_or_ge k n with h | h
      · exact Or.inr ⟨k, h, h2⟩
      · have e : k = n := by omega
        subst e
        exact Or.inl h2.symm
theorem ms_ord (pl : Nat → Int32) : ∀ n, so_ord (ms pl n)
  | 0 => List.Pairwise.nil
  | n + 1 => so_ins_ord (pl n) _ (ms_ord pl n)
theorem ms_len (pl : Nat → Int32) : ∀ n, (ms pl n).length = n
  | 0 => rfl
  | n + 1 => by
    unfold ms
    rw [so_ins_len, ms_len pl n]
theorem mk_cg {pl pl' : Nat → Int32} : ∀ {n : Nat}, (∀ k, k < n → pl k = pl' k) → mk pl n = mk pl' n
  | 0, _ => rfl
  | n + 1, h => by
    unfold mk
    rw [h n (Nat.lt_succ_self n), mk_cg (fun k hk => h k (Nat.lt_succ_of_lt hk))]
theorem ms_cg {pl pl' : Nat → Int32} : ∀ {n : Nat}, (∀ k, k < n → pl k = pl' k) → ms pl n = ms pl' n
  | 0, _ => rfl
  | n + 1, h => by
    unfold ms
    rw [h n (Nat.lt_succ_self n), ms_cg (fun k hk => h k (Nat.lt_succ_of_lt hk))]
/-- the length of the gap behind the i-th mark, as the class reckons it -/
def gp (q z : Int32) (f : Nat → Int32) (i : Int32) : Int32 := if i + 1 < z then so_get z f (i + 1) - so_get z f i else so_get z f 0 + q - so_get z f i
def fars (q : Int32) (v : Nat → Int32) (w : Int32) (o : Int32) : Int32 := if q - o < o then q - o else o
/-- the first of i, i + 1 .. (n of them) with p; -9 -/
def ffk (p : Nat → Prop) [DecidablePred p] : Nat → Nat → Int32
  | _, 0 => -9
  | i, n + 1 => if p i then nI i else ffk p (i + 1) n
def lsum (g : Nat → Int64) : Nat → Int64
  | 0 => 0
  | n + 1 => lsum g n + g n
def fseed (x : Int32) : Int32 := x * 1664525 + 1013904223
def fdraw (x b : Int32) : Int32 := (lr ((x &&& 2147483647) / 256).toInt64 b.toInt64).toInt32
theorem fa_cnt_succ (p : Nat → Bool) (n : Nat) : fa_cnt p (n + 1) = fa_cnt p n + if p n then 1 else 0 := rfl
