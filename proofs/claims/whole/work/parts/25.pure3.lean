/-! ===== the model's sorted rows ===== -/
theorem nI_dec {t : Nat} (h : 0 < t) : nI t + (-1) = nI (t - 1) := by
  obtain ⟨u, rfl⟩ : ∃ u, t = u + 1 := ⟨t - 1, by omega⟩
  exact pk_m1 u
theorem ord_get : ∀ {L : List Int32} {i j : Nat}, so_ord L → i ≤ j → j < L.length → L.getD i 0 ≤ L.getD j 0
  | [], i, j, _, _, h => absurd h (Nat.not_lt_zero j)
  | y :: t, 0, 0, _, _, _ => by rw [fa_le]; omega
  | y :: t, 0, j + 1, ho, _, h => by
    rw [List.getD_cons_zero, List.getD_cons_succ]
    exact (List.pairwise_cons.mp ho).1 _ (getD_mem (by simpa using h))
  | y :: t, i + 1, 0, _, h, _ => absurd h (by omega)
  | y :: t, i + 1, j + 1, ho, h1, h => by
    rw [List.getD_cons_succ, List.getD_cons_succ]
    exact ord_get (List.pairwise_cons.mp ho).2 (by omega) (by simpa using h)
theorem mem_get (x : Int32) : ∀ L : List Int32, x ∈ L ↔ ∃ j, j < L.length ∧ L.getD j 0 = x
  | [] => ⟨fun h => absurd h List.not_mem_nil, fun ⟨j, h, _⟩ => absurd h (Nat.not_lt_zero j)⟩
  | y :: t => by
    rw [List.mem_cons, mem_get x t]
    constructor
    · rintro (h | ⟨j, h1, h2⟩)
      · exact ⟨0, by simp, h.symm⟩
      · exact ⟨j + 1, by simpa using h1, by rw [List.getD_cons_succ]; exact h2⟩
    · rintro ⟨j, h1, h2⟩
      cases j with
      | zero => exact Or.inl h2.symm
      | succ j => exact Or.inr ⟨j, by simpa using h1, by rw [List.getD_cons_succ] at h2; exact h2⟩
theorem ms_mem (pl : Nat → Int32) (x : Int32) : ∀ n, x ∈ ms pl n ↔ ∃ k, k < n ∧ pl k = x
  | 0 => ⟨fun h => absurd h List.not_mem_nil, fun ⟨k, h, _⟩ => absurd h (Nat.not_lt_zero k)⟩
  | n + 1 => by
    unfold ms
    rw [so_ins_mem, ms_mem pl x n]
    constructor
    · rintro (h | ⟨k, h1, h2⟩)
      · exact ⟨n, Nat.lt_succ_self n, h.symm⟩
      · exact ⟨k, Nat.lt_succ_of_lt h1, h2⟩
    · rintro ⟨k, h1, h2⟩
      rcases Nat.lt_or_ge k n with h | h
      · exact Or.inr ⟨k, h, h2⟩
      · have e : k = n := by omega
        subst e
        exact Or.inl h2.symm
theorem so_ins_R {S : List Int32} (x : Int32) {t : Nat} (ho : so_ord S) (ht : t ≤ S.length) (h1 : t = 0 ∨ S.getD (t - 1) 0 ≤ x) (h2 : ∀ j, t ≤ j → j < S.length → x < S.getD j 0) (j : Nat) (hj : j < S.length + 1) : (so_ins x S).getD j 0 = if j < t then S.getD j 0 else if j = t then x else S.getD (j - 1) 0 := by
  rw [so_ins_get]
  have hcl := so_cnt_le x S
  have hct : so_cnt x S ≤ t := by
    rcases Nat.lt_or_ge t (so_cnt x S) with q | q
    · have q1 := (so_cnt_get x S t ho (by omega)).mpr q
      have q2 := h2 t (Nat.le_refl t) (by omega)
      rw [fa_lt] at q1 q2
      omega
    · exact q
  have mid : ∀ i, so_cnt x S ≤ i → i < t → S.getD i 0 = x := by
    intro i a1 a2
    have b1 : ¬ S.getD i 0 < x := fun z => absurd ((so_cnt_get x S i ho (by omega)).mp z) (by omega)
    rcases h1 with h1 | h1
    · omega
    · have b2 := ord_get ho (i := i) (j := t - 1) (by omega) (by omega)
      rw [fa_lt] at b1
      rw [fa_le] at b2 h1
      rw [fa_eq]
      omega
  by_cases a : j < so_cnt x S
  · rw [if_pos a, if_pos (by omega)]
  · rw [if_neg a]
    by_cases b : j = so_cnt x S
    · rw [if_pos b]
      by_cases d : j < t
      · rw [if_pos d, mid j (by omega) d]
      · rw [if_neg d, if_pos (by omega)]
    · rw [if_neg b]
      by_cases d : j < t
      · rw [if_pos d, mid j (by omega) d, mid (j - 1) (by omega) (by omega)]
      · rw [if_neg d]
        by_cases f : j = t
        · rw [if_pos f, mid (j - 1) (by omega) (by omega)]
        · rw [if_neg f]
theorem getD_app (x : Int32) : ∀ (M : List Int32) (j : Nat), (M ++ [x]).getD j 0 = if j < M.length then M.getD j 0 else if j = M.length then x else 0
  | [], 0 => rfl
  | [], j + 1 => by simp
  | y :: t, 0 => by simp
  | y :: t, j + 1 => by
    rw [List.cons_append, List.getD_cons_succ, getD_app x t j, List.getD_cons_succ]
    simp
theorem so_rep_app {M : List Int32} {z : Int32} {h : Nat → Int32} (x : Int32) (hr : so_rep M z h) (hl : M.length < 200) : so_rep (M ++ [x]) (z + 1) (upd h M.length x) := by
  obtain ⟨h1, h2, h3⟩ := hr
  refine ⟨by rw [h1, List.length_append]; exact nI_1 _, by rw [List.length_append]; simp; omega, fun j hj => ?_⟩
  rw [List.length_append] at hj
  have hj2 : j < M.length + 1 := by simpa using hj
  rw [getD_app]
  by_cases q : j < M.length
  · rw [if_pos q, pk_un (by omega), h3 j q]
  · have e : j = M.length := by omega
    rw [if_neg q, if_pos e, e, pk_us]
theorem so_str_app {M : List Int32} {x : Int32} (h : so_str M) (hx : ∀ y, y ∈ M → y < x) : so_str (M ++ [x]) := by
  unfold so_str
  rw [List.pairwise_append]
  exact ⟨h, List.pairwise_singleton _ _, fun a ha b hb => by rw [List.mem_singleton.mp hb]; exact hx a ha⟩
/-- the mark that comes behind the others -/
theorem mk_more {S M : List Int32} {i : Nat} (ho : so_ord S) (hi : i < S.length) (hm : ∀ x, x ∈ M ↔ ∃ j, j < i ∧ S.getD j 0 = x) (hne : i = 0 ∨ ¬ S.getD i 0 = S.getD (i - 1) 0) : ∀ y, y ∈ M → y < S.getD i 0 := by
  intro y hy
  obtain ⟨j, h1, h2⟩ := (hm y).mp hy
  rcases hne with hne | hne
  · omega
  · have b1 := ord_get ho (i := j) (j := i - 1) (by omega) (by omega)
    have b2 := ord_get ho (i := i - 1) (j := i) (by omega) hi
    rw [← h2]
    rw [fa_eq] at hne
    rw [fa_le] at b1 b2
    rw [fa_lt]
    omega
theorem mem_more {S M : List Int32} {i : Nat} (hm : ∀ x, x ∈ M ↔ ∃ j, j < i ∧ S.getD j 0 = x) (x : Int32) : x ∈ M ++ [S.getD i 0] ↔ ∃ j, j < i + 1 ∧ S.getD j 0 = x := by
  rw [List.mem_append, List.mem_singleton, hm]
  constructor
  · rintro (⟨j, h1, h2⟩ | h)
    · exact ⟨j, by omega, h2⟩
    · exact ⟨i, by omega, h.symm⟩
  · rintro ⟨j, h1, h2⟩
    rcases Nat.lt_or_ge j i with q | q
    · exact Or.inl ⟨j, q, h2⟩
    · have e : j = i := by omega
      subst e
      exact Or.inr h2.symm
theorem mem_same {S M : List Int32} {i : Nat} (hm : ∀ x, x ∈ M ↔ ∃ j, j < i ∧ S.getD j 0 = x) (h0 : 0 < i) (e : S.getD i 0 = S.getD (i - 1) 0) (x : Int32) : x ∈ M ↔ ∃ j, j < i + 1 ∧ S.getD j 0 = x := by
  rw [hm]
  constructor
  · rintro ⟨j, h1, h2⟩
    exact ⟨j, by omega, h2⟩
  · rintro ⟨j, h1, h2⟩
    rcases Nat.lt_or_ge j i with q | q
    · exact ⟨j, q, h2⟩
    · have e2 : j = i := by omega
      subst e2
      exact ⟨j - 1, by omega, by rw [← e]; exact h2⟩
theorem mk_end {pl : Nat → Int32} {M : List Int32} {n : Nat} (h : so_str M) (hm : ∀ x, x ∈ M ↔ ∃ j, j < n ∧ (ms pl n).getD j 0 = x) : M = mk pl n := by
  refine so_one M _ h (mk_str pl n) (fun x => ?_)
  have e := ms_mem pl x n
  rw [mem_get, ms_len] at e
  rw [hm, mk_mem, e]
/-- the length of the gap behind the i-th mark -/
def gpL (q : Int32) (M : List Int32) (i : Nat) : Int32 := if i + 1 < M.length then M.getD (i + 1) 0 - M.getD i 0 else M.getD 0 0 + q - M.getD i 0
theorem gp_gpL {q z : Int32} {f : Nat → Int32} {M : List Int32} (h : so_rep M z f) {i : Nat} (hi : i < M.length) : gp q z f (nI i) = gpL q M i := by
  have h2 := h.2.1
  unfold gp gpL
  rw [nI_1, h.1]
  have hc : nI (i + 1) < nI M.length ↔ i + 1 < M.length := nI_ltI (by omega) (by omega)
  rw [← h.1]
  by_cases q1 : i + 1 < M.length
  · rw [if_pos (by rw [h.1]; exact hc.mpr q1), if_pos q1, so_get_rep h q1, so_get_rep h hi]
  · have e9 : so_get z f 0 = M.getD 0 0 := so_get_rep (j := 0) h (by omega)
    rw [if_neg (by rw [h.1]; exact fun z => q1 (hc.mp z)), if_neg q1, e9, so_get_rep h hi]
theorem gp_same (a q : Int32) : a + q - a = q := by
  rw [Int32.add_comm, Int32.add_sub_cancel]
abbrev isF (q : Int32) (M : List Int32) (i : Nat) : Prop := ∀ j, j < i → ¬ gpL q M j = gpL q M i
