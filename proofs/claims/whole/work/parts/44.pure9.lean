/-! ===== the model's walker, split, image, undo, change ===== -/
theorem at_setW (v : Nat → Int32) {w k : Int32} (hw : 0 ≤ w ∧ w < 5) (hk : 0 ≤ k ∧ k < 4) (x : Int32) : upd v (4 * w + k).toNatClampNeg x = rg_set v w k x := by
  unfold rg_set
  rw [if_pos (at_ok hw hk), Int32.mul_comm 4 w]
theorem at_set0 (v : Nat → Int32) {w : Int32} (hw : 0 ≤ w ∧ w < 5) (x : Int32) : upd v (4 * w).toNatClampNeg x = rg_set v w 0 x := by
  have h := at_setW v hw (k := 0) (by decide) x
  rw [Int32.add_zero] at h
  exact h
theorem at_vp0 {w : Int32} (hw : 0 ≤ w ∧ w < 5) : vp_in (4 * w) 20 := by
  have h := at_vp hw (k := 0) (by decide)
  rw [Int32.add_zero] at h
  exact h
theorem sub1_lt {x q : Int32} (hq : okQ q) (h0 : 0 ≤ x) : x ≤ q - 1 ↔ x < q := by
  obtain ⟨h1, h2⟩ := hq
  rw [fa_le] at h1 h2 h0
  have c0 : (0 : Int32).toInt = 0 := rfl
  have c1 : (1 : Int32).toInt = 1 := rfl
  have c2 : (2 : Int32).toInt = 2 := rfl
  have c3 : (2000 : Int32).toInt = 2000 := rfl
  have e : (q - 1).toInt = q.toInt - 1 := by rw [fb_subI (by rw [c1]; omega) (by rw [c1]; omega), c1]
  rw [fa_le, fa_lt, e]
  omega
theorem room_iff {q nw a b c d : Int32} (hq : okQ q) (hn : 0 ≤ nw ∧ nw ≤ 5) (ha : 0 ≤ a ∧ a < 6) (hb : 0 ≤ b) (hc : 0 ≤ c) : rg_room q nw a b c d ↔ (b < q ∧ c < q ∧ d ≤ 9 ∧ ¬ nw = 5) := by
  have e0 : rg_gr q 0 = 5 := rfl
  have e1 : rg_gr q 1 = q - 1 := rfl
  have e2 : rg_gr q 2 = q - 1 := rfl
  have e3 : rg_gr q 3 = 9 := rfl
  have h5 : a ≤ 5 := by
    have h := ha.2
    rw [fa_lt] at h
    rw [fa_le]
    have c5 : (5 : Int32).toInt = 5 := rfl
    have c6 : (6 : Int32).toInt = 6 := rfl
    omega
  unfold rg_room
  rw [e0, e1, e2, e3, sub1_lt hq hb, sub1_lt hq hc]
  constructor
  · rintro ⟨h1, _, h3, h4, h6⟩
    exact ⟨h3, h4, h6, (fa_of_lt h1).2.2.2.1⟩
  · rintro ⟨h3, h4, h6, h7⟩
    exact ⟨fa_le_ne hn.2 h7, h5, h3, h4, h6⟩
def cntM (q nw tz cz : Int32) (G : Nat → Int32) (n : Int32) : Int32 := cntA q nw tz cz (fun j => G (j + 1)) n
theorem cnt_in {n : Int32} (a b : Int32) (h : n = 11 ∨ n = 12 ∨ n = 13 ∨ n = 14 ∨ n = 15 ∨ n = 16) : vp_in (n - 10) 7 ∧ (n - 10).toNatClampNeg = (n - 11).toNatClampNeg + 1 ∧ (0 ≤ n - 11 ∧ n - 11 < 6) ∧ ¬ n = 0 ∧ ¬ n = 1 ∧ ¬ n = 2 ∧ ¬ n = 3 := by
  rcases h with rfl | rfl | rfl | rfl | rfl | rfl <;> refine ⟨?_, ?_, ?_, ?_, ?_, ?_, ?_⟩ <;> first | decide | (rw [vp_in_iff]; decide)
theorem cnt_out {n : Int32} (h : ∀ k : Nat, k < 6 → ¬ n = nI (11 + k)) : ¬ (0 ≤ n - 11 ∧ n - 11 < 6) := by
  rintro ⟨h1, h2⟩
  obtain ⟨k, hk, e⟩ := i_natlt (n := 6) (by decide) ⟨h1, h2⟩
  refine h k hk ?_
  have e2 : n = n - 11 + 11 := (Int32.sub_add_cancel n 11).symm
  rw [e2, e, Int32.add_comm]
  exact nI_add 11 k
theorem rg_pb_bd {q : Int32} (hq : okQ q) (v : Nat → Int32) (kd w : Int32) (k : Int64) : 0 ≤ rg_pb q v kd w k ∧ rg_pb q v kd w k < q := by
  unfold rg_pb
  repeat' split
  all_goals exact rg_ar_bd hq _
theorem mk_bd {q : Int32} (hq : okQ q) {v : Nat → Int32} {w x : Int32} {n : Nat} (h : x ∈ mk (plK q v w) n) : 0 ≤ x ∧ x < q := by
  obtain ⟨k, _, e⟩ := (mk_mem _ _ _).mp h
  rw [← e]
  exact plK_bd hq v w k
theorem sub_dd {q a b : Int32} (hq : okQ q) (ha : 0 ≤ a ∧ a < q) (hb : 0 ≤ b ∧ b < q) : (a - b).toInt = a.toInt - b.toInt := by
  obtain ⟨h1, h2⟩ := hq
  obtain ⟨a1, a2⟩ := ha
  obtain ⟨b1, b2⟩ := hb
  rw [fa_le] at h1 h2 a1 b1
  rw [fa_lt] at a2 b2
  have c0 : (0 : Int32).toInt = 0 := rfl
  have c3 : (2000 : Int32).toInt = 2000 := rfl
  exact fb_subI (by omega) (by omega)
theorem sub_ge {q a b : Int32} (hq : okQ q) (ha : 0 ≤ a ∧ a < q) (hb : 0 ≤ b ∧ b < q) (h : b ≤ a) : 0 ≤ a - b := by
  rw [fa_le, sub_dd hq ha hb]
  rw [fa_le] at h
  have c0 : (0 : Int32).toInt = 0 := rfl
  omega
theorem sub_lt {q a b : Int32} (hq : okQ q) (ha : 0 ≤ a ∧ a < q) (hb : 0 ≤ b ∧ b < q) (h : ¬ b ≤ a) : ¬ 0 ≤ a - b := by
  rw [fa_le, sub_dd hq ha hb]
  rw [fa_le] at h
  have c0 : (0 : Int32).toInt = 0 := rfl
  omega
theorem add_sub_c (a q b : Int32) : a + q - b = a - b + q := by
  rw [Int32.sub_eq_add_neg, Int32.sub_eq_add_neg, Int32.add_assoc, Int32.add_assoc, Int32.add_comm q (-b)]
