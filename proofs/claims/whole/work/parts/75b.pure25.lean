theorem nF_start (Q S : Nat) : nF Q S (nB Q S 0) (0 + 1) 0 (0 + 1) = (0, 1) := by
  show nU Q S (0, 1) (0 + 0) (0 + 1) = (0, 1)
  unfold nU
  split <;> rfl
