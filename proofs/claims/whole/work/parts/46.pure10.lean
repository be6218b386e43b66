/-! ===== the model's change, undo; lengths ===== -/
theorem t3 (z : Nat) : 3 * nI z = nI (3 * z) := pk_mul 3 z
theorem z3 (z : Nat) : nI z * 3 = nI (3 * z) := by
  rw [Int32.mul_comm]
  exact t3 z
theorem ch_setN {cf : Nat → Int32} {i : Nat} {x : Int32} (h : i < 48) : ch_set cf (nI i) x = upd cf i x := by
  unfold ch_set
  rw [if_pos ⟨nI_pos' (by omega), nI_lt (b := 48) h (by omega)⟩, nI_clamp (by omega)]
theorem ch_atN {cf : Nat → Int32} {i : Nat} (h : i < 48) : ch_at cf (nI i) = cf i := by
  unfold ch_at
  rw [if_pos ⟨nI_pos' (by omega), nI_lt (b := 48) h (by omega)⟩, nI_clamp (by omega)]
theorem ch_keepN {cf : Nat → Int32} {Z : Nat} {x y w : Int32} (h : Z < 16) : ch_keep (nI Z) cf x y w = upd (upd (upd cf (3 * Z) x) (3 * Z + 1) y) (3 * Z + 2) w ∧ ch_z (nI Z) = nI Z := by
  have e : nI Z < 16 := nI_lt (b := 16) h (by omega)
  have e2 : ch_z (nI Z) = nI Z := by unfold ch_z; rw [if_pos e]
  refine ⟨?_, e2⟩
  unfold ch_keep ch_sh
  have e1 : nI (3 * Z) + 1 = nI (3 * Z + 1) := nI_1 _
  have e3 : nI (3 * Z) + 2 = nI (3 * Z + 2) := nI_add _ 2
  rw [e2, if_pos e, z3, e1, e3, ch_setN (by omega), ch_setN (by omega), ch_setN (by omega)]
theorem ch_keepF {cf : Nat → Int32} {x y w : Int32} : ch_keep 16 cf x y w = upd (upd (upd (va_cpy cf cf 3 0 45) 45 x) 46 y) 47 w ∧ ch_z 16 = 15 := by
  have e2 : ch_z 16 = 15 := by decide
  refine ⟨?_, e2⟩
  unfold ch_keep ch_sh
  rw [e2, if_neg (by decide)]
  have a1 : (15 : Int32) * 3 = nI 45 := by decide
  have a2 : nI 45 + 1 = nI 46 := nI_1 45
  have a3 : nI 45 + 2 = nI 47 := nI_add 45 2
  rw [a1, a2, a3, ch_setN (by omega), ch_setN (by omega), ch_setN (by omega)]
theorem chg_r {q nw w k x : Int32} (hw : 0 ≤ w ∧ w < nw) (hk : 0 ≤ k ∧ k < 4) : rf_chg q nw w k x = rng x 0 (rg_gr q k) := by
  unfold rf_chg rng
  rw [if_neg (fun z => z hw), if_neg (fun z => z hk)]
/-- the least of the first i lengths above last, or -9 -/
def nxt (q : Int32) (M : List Int32) (last : Int32) (i : Nat) (nx : Int32) : Prop :=
  (nx = -9 ∧ ∀ t, t < i → ¬ last < gpL q M t) ∨ (∃ t, t < i ∧ gpL q M t = nx ∧ last < nx ∧ ∀ u, u < i → last < gpL q M u → nx ≤ gpL q M u)
theorem nxt_skip {q : Int32} {M : List Int32} {last nx : Int32} {i : Nat} (h : nxt q M last i nx) (hs : gpL q M i ≤ last) : nxt q M last (i + 1) nx := by
  rcases h with ⟨h1, h2⟩ | ⟨t, h1, h2, h3, h4⟩
  · exact Or.inl ⟨h1, lt_s h2 (Int32.not_lt.mpr hs)⟩
  · exact Or.inr ⟨t, by omega, h2, h3, lt_s h4 (fun z => absurd z (Int32.not_lt.mpr hs))⟩
theorem nxt_first {q : Int32} {M : List Int32} {last nx : Int32} {i : Nat} (h0 : 0 ≤ last) (h : nxt q M last i nx) (e : nx = -9) (hs : last < gpL q M i) : nxt q M last (i + 1) (gpL q M i) := by
  rcases h with ⟨h1, h2⟩ | ⟨t, h1, h2, h3, h4⟩
  · exact Or.inr ⟨i, by omega, rfl, hs, lt_s (fun u hu z => absurd z (h2 u hu)) (fun _ => Int32.le_refl _)⟩
  · rw [e, fa_lt] at h3
    rw [fa_le] at h0
    have c9 : (-9 : Int32).toInt = -9 := by decide
    have c0 : (0 : Int32).toInt = 0 := rfl
    omega
theorem nxt_keep {q : Int32} {M : List Int32} {last nx : Int32} {i : Nat} (h : nxt q M last i nx) (e : ¬ nx = -9) (hs : nx ≤ gpL q M i) : nxt q M last (i + 1) nx := by
  rcases h with ⟨h1, h2⟩ | ⟨t, h1, h2, h3, h4⟩
  · exact absurd h1 e
  · exact Or.inr ⟨t, by omega, h2, h3, lt_s h4 (fun _ => hs)⟩
theorem nxt_less {q : Int32} {M : List Int32} {last nx : Int32} {i : Nat} (h : nxt q M last i nx) (e : ¬ nx = -9) (hl : last < gpL q M i) (hs : gpL q M i < nx) : nxt q M last (i + 1) (gpL q M i) := by
  rcases h with ⟨h1, h2⟩ | ⟨t, h1, h2, h3, h4⟩
  · exact absurd h1 e
  · refine Or.inr ⟨i, by omega, rfl, hl, lt_s (fun u hu z => ?_) (fun _ => Int32.le_refl _)⟩
    have h5 := h4 u hu z
    rw [fa_lt] at hs
    rw [fa_le] at h5 ⊢
    omega
theorem str_get : ∀ {L : List Int32} {i j : Nat}, so_str L → i < j → j < L.length → L.getD i 0 < L.getD j 0
  | [], i, j, _, _, h => absurd h (Nat.not_lt_zero j)
  | y :: t, i, 0, _, h, _ => absurd h (Nat.not_lt_zero i)
  | y :: t, 0, j + 1, ho, _, h => by
    rw [List.getD_cons_zero, List.getD_cons_succ]
    exact (List.pairwise_cons.mp ho).1 _ (getD_mem (by simpa using h))
  | y :: t, i + 1, j + 1, ho, h1, h => by
    rw [List.getD_cons_succ, List.getD_cons_succ]
    exact str_get (List.pairwise_cons.mp ho).2 (by omega) (by simpa using h)
theorem gaps_mem {q : Int32} {M : List Int32} {x : Int32} : x ∈ gaps q M ↔ ∃ t, t < M.length ∧ gpL q M t = x := mk_mem (gpL q M) x M.length
def lstK (G : List Int32) (k : Nat) : Int32 := if k = 0 then 0 else G.getD (k - 1) 0
theorem lstK_lt {q : Int32} {M : List Int32} (hp : ∀ i, i < M.length → 0 < gpL q M i) {k : Nat} (hk : k < (gaps q M).length) : lstK (gaps q M) k < (gaps q M).getD k 0 := by
  unfold lstK
  by_cases e : k = 0
  · rw [if_pos e]
    obtain ⟨t, h1, h2⟩ := gaps_mem.mp (getD_mem hk)
    rw [← h2]
    exact hp t h1
  · rw [if_neg e]
    exact str_get (mk_str _ _) (by omega) hk
theorem nxt_yes {q : Int32} {M : List Int32} (hp : ∀ i, i < M.length → 0 < gpL q M i) {k : Nat} {nx : Int32} (hk : k ≤ (gaps q M).length) (h : nxt q M (lstK (gaps q M) k) M.length nx) (e : ¬ nx = -9) : k < (gaps q M).length ∧ nx = (gaps q M).getD k 0 := by
  rcases h with ⟨h1, h2⟩ | ⟨t, h1, h2, h3, h4⟩
  · exact absurd h1 e
  · have hm : nx ∈ gaps q M := gaps_mem.mpr ⟨t, h1, h2⟩
    obtain ⟨m, hm1, hm2⟩ := (mem_get _ _).mp hm
    have hso := so_str_ord (mk_str (gpL q M) M.length)
    have hkm : k ≤ m := by
      rcases Nat.lt_or_ge m k with z | z
      · have b := ord_get (L := gaps q M) hso (i := m) (j := k - 1) (by omega) (by omega)
        unfold lstK at h3
        rw [if_neg (by omega), ← hm2, fa_lt] at h3
        rw [fa_le] at b
        omega
      · exact z
    have hkl : k < (gaps q M).length := by omega
    refine ⟨hkl, ?_⟩
    have a1 := lstK_lt hp hkl
    obtain ⟨u, u1, u2⟩ := gaps_mem.mp (getD_mem hkl)
    have a2 := h4 u u1 (by rw [u2]; exact a1)
    rw [u2] at a2
    have a3 := ord_get (L := gaps q M) hso (i := k) (j := m) hkm hm1
    rw [hm2] at a3
    rw [fa_le] at a2 a3
    rw [fa_eq]
    omega
theorem nxt_none {q : Int32} {M : List Int32} (hp : ∀ i, i < M.length → 0 < gpL q M i) {k : Nat} {nx : Int32} (h0 : 0 ≤ lstK (gaps q M) k) (hk : k ≤ (gaps q M).length) (h : nxt q M (lstK (gaps q M) k) M.length nx) (e : nx = -9) : k = (gaps q M).length := by
  rcases Nat.lt_or_ge k (gaps q M).length with z | z
  · have a1 := lstK_lt hp z
    obtain ⟨u, u1, u2⟩ := gaps_mem.mp (getD_mem z)
    rcases h with ⟨h1, h2⟩ | ⟨t, h1, h2, h3, h4⟩
    · exact absurd (by rw [u2]; exact a1) (h2 u u1)
    · rw [e, fa_lt] at h3
      rw [fa_le] at h0
      have c9 : (-9 : Int32).toInt = -9 := by decide
      have c0 : (0 : Int32).toInt = 0 := rfl
      omega
  · omega
theorem lstK_0 {q : Int32} {M : List Int32} (hp : ∀ i, i < M.length → 0 < gpL q M i) {k : Nat} (hk : k ≤ (gaps q M).length) : 0 ≤ lstK (gaps q M) k := by
  unfold lstK
  by_cases e : k = 0
  · rw [if_pos e]; exact Int32.le_refl _
  · rw [if_neg e]
    obtain ⟨t, h1, h2⟩ := gaps_mem.mp (getD_mem (L := gaps q M) (j := k - 1) (by omega))
    rw [← h2]
    exact (fa_of_lt (hp t h1)).1
