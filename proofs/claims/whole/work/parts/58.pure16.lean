/-! ===== shared of the model ===== -/
theorem take_mem {x : Int32} : ∀ {L : List Int32} {i : Nat}, i < L.length → (x ∈ L.take (i + 1) ↔ x ∈ L.take i ∨ L.getD i 0 = x)
  | [], i, h => absurd h (Nat.not_lt_zero i)
  | y :: t, 0, _ => by
    simp
    exact ⟨fun h => h.symm, fun h => h.symm⟩
  | y :: t, i + 1, h => by
    have ih := take_mem (x := x) (L := t) (i := i) (by simpa using h)
    rw [List.take_succ_cons, List.mem_cons, ih, List.take_succ_cons, List.mem_cons, List.getD_cons_succ, or_assoc]
theorem sha_num {nw o oo n : Int32} (h : two nw o oo) : rf_num nw o n 1 200 = rng n 1 200 := rf_num_r h.2.1
theorem sh_go {p : Nat → Prop} [DecidablePred p] {f : Nat → Int32} {A lst : Int32} {i N : Nat} (hi : i < N) (h : A = if lst = -9 then ff2 p f i (N - i) else lst) (hn : ¬ p i) : A = if lst = -9 then ff2 p f (i + 1) (N - (i + 1)) else lst := by
  rw [ff2_no hn (by omega)] at h
  exact h
theorem sh_hit {p : Nat → Prop} [DecidablePred p] {f : Nat → Int32} {A : Int32} {i N : Nat} (hi : i < N) (h : A = if (-9 : Int32) = -9 then ff2 p f i (N - i) else -9) (hp : p i) (h9 : ¬ f i = -9) : A = if f i = -9 then ff2 p f (i + 1) (N - (i + 1)) else f i := by
  rw [if_pos rfl, ff2_yes hp (by omega)] at h
  rw [if_neg h9]
  exact h
theorem sh_old {p : Nat → Prop} [DecidablePred p] {f : Nat → Int32} {A lst : Int32} {i N : Nat} (h : A = if lst = -9 then ff2 p f i (N - i) else lst) (hl : ¬ lst = -9) : A = if lst = -9 then ff2 p f (i + 1) (N - (i + 1)) else lst := by
  rw [if_neg hl] at h ⊢
  exact h
theorem mk_ne9 {q : Int32} (hq : okQ q) {v : Nat → Int32} {w : Int32} {n i : Nat} (hi : i < (mk (plK q v w) n).length) : ¬ (mk (plK q v w) n).getD i 0 = -9 := by
  have h := (mk_bd hq (getD_mem hi)).1
  intro e
  rw [e] at h
  exact absurd h (by decide)
