/-! ===== rows in order, as lists ===== -/
def so_rep (L : List Int32) (z : Int32) (f : Nat → Int32) : Prop := z = nI L.length ∧ L.length ≤ 200 ∧ ∀ j, j < L.length → f j = L.getD j 0
def so_cnt (x : Int32) : List Int32 → Nat
  | [] => 0
  | y :: t => if y < x then so_cnt x t + 1 else 0
def so_ins (x : Int32) : List Int32 → List Int32
  | [] => [x]
  | y :: t => if y < x then y :: so_ins x t else x :: y :: t
def so_in1 (x : Int32) (L : List Int32) : List Int32 := if x ∈ L then L else so_ins x L
def so_ord (L : List Int32) : Prop := L.Pairwise (fun a b => a ≤ b)
def so_str (L : List Int32) : Prop := L.Pairwise (fun a b => a < b)
theorem so_str_ord {L : List Int32} (h : so_str L) : so_ord L := List.Pairwise.imp (fun {a b} q => (fa_of_lt q).1) h
theorem getD_mem {L : List Int32} {j : Nat} (h : j < L.length) : L.getD j 0 ∈ L := by
  have e : L.getD j 0 = L[j] := by simp [List.getD, h]
  rw [e]
  exact List.getElem_mem h
theorem so_cnt_le (x : Int32) : ∀ L : List Int32, so_cnt x L ≤ L.length
  | [] => Nat.le_refl _
  | y :: t => by
    have ih := so_cnt_le x t
    unfold so_cnt
    split
    · simp only [List.length_cons]; omega
    · omega
theorem so_cnt_get (x : Int32) : ∀ (L : List Int32) (j : Nat), so_ord L → j < L.length → (L.getD j 0 < x ↔ j < so_cnt x L)
  | [], j, _, h => absurd h (Nat.not_lt_zero j)
  | y :: t, 0, ho, _ => by
    unfold so_cnt
    by_cases q : y < x
    · simp [q]
    · simp [q]
  | y :: t, j + 1, ho, h => by
    have h1 : j < t.length := by simpa using h
    have hc := List.pairwise_cons.mp ho
    have ih := so_cnt_get x t j hc.2 h1
    rw [List.getD_cons_succ]
    unfold so_cnt
    by_cases q : y < x
    · rw [if_pos q, ih]; omega
    · rw [if_neg q]
      refine ⟨fun q2 => ?_, fun q2 => absurd q2 (Nat.not_lt_zero _)⟩
      have h2 := hc.1 _ (getD_mem h1)
      rw [fa_lt] at q q2
      rw [fa_le] at h2
      omega
theorem so_mem (x : Int32) : ∀ L : List Int32, so_ord L → (x ∈ L ↔ so_cnt x L < L.length ∧ L.getD (so_cnt x L) 0 = x)
  | [], _ => by simp [so_cnt]
  | y :: t, ho => by
    have hc := List.pairwise_cons.mp ho
    have ih := so_mem x t hc.2
    unfold so_cnt
    by_cases q : y < x
    · rw [if_pos q, List.getD_cons_succ, List.mem_cons, ih]
      have hne : ¬ x = y := fun e => by subst e; rw [fa_lt] at q; omega
      simp [hne]
    · rw [if_neg q, List.getD_cons_zero, List.mem_cons]
      refine ⟨fun h => ⟨by simp, ?_⟩, fun h => Or.inl h.2.symm⟩
      rcases h with h | h
      · exact h.symm
      · have h2 := hc.1 x h
        rw [fa_lt] at q
        rw [fa_le] at h2
        rw [fa_eq]
        omega
theorem so_ins_len (x : Int32) : ∀ L : List Int32, (so_ins x L).length = L.length + 1
  | [] => rfl
  | y :: t => by
    unfold so_ins
    split
    · simp [so_ins_len x t]
    · rfl
theorem so_ins_mem (x z : Int32) : ∀ L : List Int32, z ∈ so_ins x L ↔ z = x ∨ z ∈ L
  | [] => by simp [so_ins]
  | y :: t => by
    unfold so_ins
    split
    · rw [List.mem_cons, so_ins_mem x z t, List.mem_cons]
      constructor
      · rintro (h | h | h)
        · exact Or.inr (Or.inl h)
        · exact Or.inl h
        · exact Or.inr (Or.inr h)
      · rintro (h | h | h)
        · exact Or.inr (Or.inl h)
        · exact Or.inl h
        · exact Or.inr (Or.inr h)
    · rw [List.mem_cons, List.mem_cons]
theorem so_ins_ord (x : Int32) : ∀ L : List Int32, so_ord L → so_ord (so_ins x L)
  | [], _ => List.pairwise_singleton _ _
  | y :: t, ho => by
    have hc := List.pairwise_cons.mp ho
    unfold so_ins
    by_cases q : y < x
    · rw [if_pos q]
      refine List.pairwise_cons.mpr ⟨fun z hz => ?_, so_ins_ord x t hc.2⟩
      rcases (so_ins_mem x z t).mp hz with h | h
      · subst h; exact (fa_of_lt q).1
      · exact hc.1 z h
    · rw [if_neg q]
      refine List.pairwise_cons.mpr ⟨fun z hz => ?_, ho⟩
      rcases List.mem_cons.mp hz with h | h
      · subst h; exact fa_of_nlt q
      · have h1 := hc.1 z h
        have h2 := fa_of_nlt q
        rw [fa_le] at *
        omega
theorem so_ins_str (x : Int32) : ∀ L : List Int32, so_str L → ¬ x ∈ L → so_str (so_ins x L)
  | [], _, _ => List.pairwise_singleton _ _
  | y :: t, ho, hn => by
    have hc := List.pairwise_cons.mp ho
    have hn1 : ¬ x = y := fun e => hn (by rw [e]; exact List.mem_cons_self)
    have hn2 : ¬ x ∈ t := fun e => hn (List.mem_cons_of_mem _ e)
    unfold so_ins
    by_cases q : y < x
    · rw [if_pos q]
      refine List.pairwise_cons.mpr ⟨fun z hz => ?_, so_ins_str x t hc.2 hn2⟩
      rcases (so_ins_mem x z t).mp hz with h | h
      · subst h; exact q
      · exact hc.1 z h
    · rw [if_neg q]
      have hxy : x < y := fa_le_ne (fa_of_nlt q) hn1
      refine List.pairwise_cons.mpr ⟨fun z hz => ?_, ho⟩
      rcases List.mem_cons.mp hz with h | h
      · subst h; exact hxy
      · have h1 := hc.1 z h
        rw [fa_lt] at *
        omega
theorem so_ins_get (x : Int32) : ∀ (L : List Int32) (j : Nat), (so_ins x L).getD j 0 = if j < so_cnt x L then L.getD j 0 else if j = so_cnt x L then x else L.getD (j - 1) 0
  | [], j => by
    cases j with
    | zero => simp [so_ins, so_cnt]
    | succ j => simp [so_ins, so_cnt]
  | y :: t, j => by
    unfold so_ins so_cnt
    by_cases q : y < x
    · rw [if_pos q, if_pos q]
      cases j with
      | zero => simp
      | succ j =>
        rw [List.getD_cons_succ, so_ins_get x t j]
        by_cases h1 : j < so_cnt x t
        · rw [if_pos h1, if_pos (by omega), List.getD_cons_succ]
        · rw [if_neg h1, if_neg (show ¬ j + 1 < so_cnt x t + 1 by omega)]
          by_cases h2 : j = so_cnt x t
          · rw [if_pos h2, if_pos (show j + 1 = so_cnt x t + 1 by omega)]
          · rw [if_neg h2, if_neg (show ¬ j + 1 = so_cnt x t + 1 by omega)]
            cases j with
            | zero => omega
            | succ j => simp
    · rw [if_neg q, if_neg q]
      cases j with
      | zero => simp
      | succ j => simp
theorem so_in1_mem (x z : Int32) (L : List Int32) : z ∈ so_in1 x L ↔ z = x ∨ z ∈ L := by
  unfold so_in1
  split
  · rename_i h
    exact ⟨Or.inr, fun q => q.elim (fun e => by rw [e]; exact h) id⟩
  · exact so_ins_mem x z L
theorem so_in1_str (x : Int32) {L : List Int32} (h : so_str L) : so_str (so_in1 x L) := by
  unfold so_in1
  split
  · exact h
  · rename_i q
    exact so_ins_str x L h q
theorem so_in1_len (x : Int32) (L : List Int32) : (so_in1 x L).length ≤ L.length + 1 := by
  unfold so_in1
  split
  · omega
  · rw [so_ins_len]
    exact Nat.le_refl _
theorem so_one : ∀ (L M : List Int32), so_str L → so_str M → (∀ x, x ∈ L ↔ x ∈ M) → L = M
  | [], [], _, _, _ => rfl
  | [], b :: t, _, _, h => absurd ((h b).mpr List.mem_cons_self) List.not_mem_nil
  | a :: t, [], _, _, h => absurd ((h a).mp List.mem_cons_self) List.not_mem_nil
  | a :: t, b :: u, hL, hM, h => by
    have h1 := List.pairwise_cons.mp hL
    have h2 := List.pairwise_cons.mp hM
    have e : a = b := by
      have p1 := List.mem_cons.mp ((h a).mp List.mem_cons_self)
      have p2 := List.mem_cons.mp ((h b).mpr List.mem_cons_self)
      rcases p1 with p1 | p1
      · exact p1
      · rcases p2 with p2 | p2
        · exact p2.symm
        · have q1 := h2.1 a p1
          have q2 := h1.1 b p2
          rw [fa_lt] at q1 q2
          omega
    subst e
    congr 1
    refine so_one t u h1.2 h2.2 (fun x => ?_)
    have hx := h x
    rw [List.mem_cons, List.mem_cons] at hx
    constructor
    · intro q
      rcases hx.mp (Or.inr q) with r | r
      · subst r
        have := h1.1 x q
        rw [fa_lt] at this
        omega
      · exact r
    · intro q
      rcases hx.mpr (Or.inr q) with r | r
      · subst r
        have := h2.1 x q
        rw [fa_lt] at this
        omega
      · exact r
/-- the row behind an add -/
theorem so_rep_ins {L : List Int32} {z : Int32} {f : Nat → Int32} (x : Int32) (h : so_rep L z f) (hl : L.length < 200) (n : Nat) (hn : n = so_cnt x L) (g : Nat → Int32) (hg : ∀ j, j < L.length + 1 → g j = if j < n then f j else if j = n then x else f (j - 1)) : so_rep (so_ins x L) (z + 1) g := by
  obtain ⟨h1, h2, h3⟩ := h
  subst hn
  refine ⟨by rw [h1, so_ins_len]; exact nI_1 _, by rw [so_ins_len]; omega, fun j hj => ?_⟩
  rw [so_ins_len] at hj
  rw [hg j hj, so_ins_get]
  have hc := so_cnt_le x L
  by_cases q : j < so_cnt x L
  · rw [if_pos q, if_pos q, h3 j (by omega)]
  · rw [if_neg q, if_neg q]
    by_cases q2 : j = so_cnt x L
    · rw [if_pos q2, if_pos q2]
    · rw [if_neg q2, if_neg q2, h3 (j - 1) (by omega)]
/-- reading by get -/
theorem so_get_rep {L : List Int32} {z : Int32} {f : Nat → Int32} (h : so_rep L z f) {j : Nat} (hj : j < L.length) : so_get z f (nI j) = L.getD j 0 := by
  obtain ⟨h1, h2, h3⟩ := h
  unfold so_get
  rw [if_pos ⟨nI_pos' (by omega), by rw [h1]; exact nI_lt hj (by omega), nI_lt (b := 200) (by omega) (by omega)⟩, nI_clamp (by omega), h3 j hj]
theorem so_shift (f : Nat → Int32) (x : Int32) {n c j : Nat} (hc : c ≤ n) (hj : j < n + 1) : upd (va_cpy f f c (c + 1) (n - c)) c x j = if j < c then f j else if j = c then x else f (j - 1) := by
  by_cases h1 : j < c
  · rw [if_pos h1, pk_un (by omega), pk_cpy_out (Or.inl (by omega))]
  · rw [if_neg h1]
    by_cases h2 : j = c
    · rw [if_pos h2, h2, pk_us]
    · rw [if_neg h2, pk_un h2, pk_cpy_in (by omega) (by omega)]
      congr 1
      omega
