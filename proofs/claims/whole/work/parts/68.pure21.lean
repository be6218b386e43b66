/-! ===== lots of the model ===== -/
theorem lot_old {f : Nat → Int32} {i : Nat} {U : List Int32} (hU : U.length = (mk f i).length) (hm : ∀ x, x ∈ U ↔ x ∈ mk f i) (h : f i ∈ U) : U.length = (mk f (i + 1)).length ∧ ∀ x, x ∈ U ↔ x ∈ mk f (i + 1) := by
  have h2 := (hm _).mp h
  have e : mk f (i + 1) = mk f i := by
    rw [mk, so_in1, if_pos h2]
  rw [e]
  exact ⟨hU, hm⟩
theorem lot_new {f : Nat → Int32} {i : Nat} {U : List Int32} (hU : U.length = (mk f i).length) (hm : ∀ x, x ∈ U ↔ x ∈ mk f i) (h : ¬ f i ∈ U) : (U ++ [f i]).length = (mk f (i + 1)).length ∧ ∀ x, x ∈ U ++ [f i] ↔ x ∈ mk f (i + 1) := by
  have h2 : ¬ f i ∈ mk f i := fun z => h ((hm _).mpr z)
  have e : mk f (i + 1) = so_ins (f i) (mk f i) := by
    rw [mk, so_in1, if_neg h2]
  rw [e, so_ins_len, List.length_append, hU]
  refine ⟨rfl, fun x => ?_⟩
  rw [so_ins_mem, List.mem_append, List.mem_singleton, hm]
  exact Or.comm
theorem lot_app {U : List Int32} {g : Nat → Int32} {x : Int32} (hg : ∀ j, j < U.length → g j = U.getD j 0) : ∀ j, j < (U ++ [x]).length → upd g U.length x j = (U ++ [x]).getD j 0 := by
  intro j hj
  rw [List.length_append] at hj
  have hj2 : j < U.length + 1 := by simpa using hj
  rw [getD_app]
  by_cases q : j < U.length
  · rw [if_pos q, pk_un (by omega), hg j q]
  · have e : j = U.length := by omega
    rw [if_neg q, if_pos e, e, pk_us]
theorem lot_r {nw n k : Int32} (h : ¬ rng n 1 50 = 0) : rf_lot nw n k = rng n 1 50 := by
  unfold rng at h ⊢
  unfold rf_lot
  by_cases h1 : n < 1
  · rw [if_pos h1, if_pos h1]
  · rw [if_neg h1] at h ⊢
    rw [if_neg h1]
    by_cases h2 : 50 < n
    · rw [if_pos h2, if_pos h2]
    · rw [if_neg h2] at h
      exact absurd rfl h
