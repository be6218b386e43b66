theorem in_X5_floors_X1 : ∀ w ∈ wsX10, w ∈ wsX5_floors := by decide +kernel
theorem in_X5_floors_X5 : ∀ w ∈ wsX50, w ∈ wsX5_floors := by decide +kernel
theorem in_X5_reciprocal_X1 : ∀ w ∈ wsX10, w ∈ wsX5_reciprocal := by decide +kernel
theorem in_X5_reciprocal_X5 : ∀ w ∈ wsX50, w ∈ wsX5_reciprocal := by decide +kernel
theorem in_X5_rests_X1 : ∀ w ∈ wsX10, w ∈ wsX5_rests := by decide +kernel
theorem in_X5_rests_X5 : ∀ w ∈ wsX50, w ∈ wsX5_rests := by decide +kernel
theorem in_X6_floors_X6 : ∀ w ∈ wsX60, w ∈ wsX6_floors := by decide +kernel
theorem in_X6_reciprocal_X6 : ∀ w ∈ wsX60, w ∈ wsX6_reciprocal := by decide +kernel
theorem in_X6_rests_X6 : ∀ w ∈ wsX60, w ∈ wsX6_rests := by decide +kernel
set_option maxHeartbeats 4000000 in
set_option maxRecDepth 100000 in
theorem c_X5_floors (l : Launch) (D : va_G) (cI cZ cR : ClassId) (x r t im tx ch ro rf pl ot cl : Nat) (hi : Int32) (F : Nat → Int32) (rn : Nat) (q nw : Int32) (v : Nat → Int32) (w n : Int32) (sz : Nat) : Met l yX5_floors wsX5_floors ({ frames := 3, cells := 0, slots := 0, locals := 66 }) (PcW D cI cZ cR [.ref x, .int w, .int n] [(x, .inr (5, [.ref r, .ref t, .ref im, .int hi, .ref tx, .ref ch, .ref ro, .ref rf, .ref pl, .ref ot, .ref cl])), (rf, .inl (cI, 6, .inl F)), (r, .inr (1, [.int q, .int nw, .ref rn])), (rn, .inl (cI, 20, .inl v))] sz) (va_Ql (fun (res : Int64) (u : (Nat → Int32)) => res = (if rf_num nw w n 0 4000 = 0 then flo (rg_val v w 1) q n.toNatClampNeg else 4000000000000000000 - (rf_num nw w n 0 4000).toInt64) ∧ u = (if rf_num nw w n 0 4000 = 0 then F else rf_bump F (rf_num nw w n 0 4000))) (Bw D (fun (u : (Nat → Int32)) => [(x, .inr (5, [.ref r, .ref t, .ref im, .int hi, .ref tx, .ref ch, .ref ro, .ref rf, .ref pl, .ref ot, .ref cl])), (rf, .inl (cI, 6, .inl u)), (r, .inr (1, [.int q, .int nw, .ref rn])), (rn, .inl (cI, 20, .inl v))]) (va_A [(x, .inr (5, [.ref r, .ref t, .ref im, .int hi, .ref tx, .ref ch, .ref ro, .ref rf, .ref pl, .ref ot, .ref cl])), (rf, .inl (cI, 6, .inl F)), (r, .inr (1, [.int q, .int nw, .ref rn])), (rn, .inl (cI, 20, .inl v))] sz)) (va_A [(x, .inr (5, [.ref r, .ref t, .ref im, .int hi, .ref tx, .ref ch, .ref ro, .ref rf, .ref pl, .ref ot, .ref cl])), (rf, .inl (cI, 6, .inl F)), (r, .inr (1, [.int q, .int nw, .ref rn])), (rn, .inl (cI, 20, .inl v))] sz)) 0 0 (va_A [(x, .inr (5, [.ref r, .ref t, .ref im, .int hi, .ref tx, .ref ch, .ref ro, .ref rf, .ref pl, .ref ot, .ref cl])), (rf, .inl (cI, 6, .inl F)), (r, .inr (1, [.int q, .int nw, .ref rn])), (rn, .inl (cI, 20, .inl v))] sz) := by
  refine Met.ofW (cc := cX5_floors) (maxL := 4) (ret := (some .long)) (by decide) rfl ?_
  intro p e s m args below meth c s₁ B hml hv
  obtain ⟨rfl, hsz, hP, hK, hD0, hN⟩ := hv
  have hx := B.exec
  have hb := B.bytes
  have hr := B.returns
  have hts := atoms_spec (ws := wsX5_floors) B.pre
  have hown : s.vm.findClass RX5 = some m.cls := findClass_of_methodNamed B.named
  have hlocks := B.notSynchronized
  subst hsz
  have hD := hD0.self (sz := s.heap.size)
  generalize hAe : va_A [(x, .inr (5, [.ref r, .ref t, .ref im, .int hi, .ref tx, .ref ch, .ref ro, .ref rf, .ref pl, .ref ot, .ref cl])), (rf, .inl (cI, 6, .inl F)), (r, .inr (1, [.int q, .int nw, .ref rn])), (rn, .inl (cI, 20, .inl v))] s.heap.size = A at hD ⊢
  have hA : ∀ q : Nat, s.heap.size ≤ q → A q := fun q h => by rw [← hAe]; exact Or.inr h
  have hS : va_S A s.heap s.heap [] := va_S.rf
  have hP : va_P D vwCl [(x, .inr (5, [.ref r, .ref t, .ref im, .int hi, .ref tx, .ref ch, .ref ro, .ref rf, .ref pl, .ref ot, .ref cl])), (rf, .inl (cI, 6, .inl F)), (r, .inr (1, [.int q, .int nw, .ref rn])), (rn, .inl (cI, 20, .inl v))] s.heap := hP
  have hl := lv_entry ([.ref x, .int w, .int n]) (n := 4) (Nat.le_of_ble_eq_true rfl)
  rw [lg_entry_eq]
  generalize (lg_sl ([.ref x, .int w, .int n]) ++ List.replicate (4 - (lg_sl ([.ref x, .int w, .int n])).length) Slot.unset).toArray = ls at hl ⊢
  have hl : lv_has ls 4 [(0, .ref x), (1, .int w), (2, .int n)] := hl
  refine lv_aload_n hx hb dX5_floors_0 rfl (lv_at hl 0 rfl) ?_
  refine lv_iload_n hx hb dX5_floors_1 rfl (lv_at hl 1 rfl) ?_
  refine lv_iload_n hx hb dX5_floors_2 rfl (lv_at hl 2 rfl) ?_
  refine lv_iconst (v := 0) hx hb dX5_floors_3 (by decide) ?_
  refine lv_sipush (v := 4000) hx hb dX5_floors_4 (by decide) ?_
  refine rdV (As := [.int w, .int n, .int 0, .int 4000]) (rest := []) ⟨hx, hb, hml, hown, hts⟩ (c_X5_refusalOfNumber l D cI cZ cR x r t im tx ch ro rf pl ot cl hi rn q nw v w n 0 4000 ) (cwV 4 hts gX5_floors_X5_refusalOfNumber rfl rfl rfl (by decide +kernel) ⟨Nat.le_of_ble_eq_true rfl, Nat.le_of_ble_eq_true rfl⟩) hK hN hP 0 5 rfl rfl rfl [0, 2, 3] rfl rfl hl.1 rfl (Nat.le_of_ble_eq_true rfl) dX5_floors_7 ⟨Nat.zero_le _, Nat.zero_le _⟩ ?_
  refine lv_istore_n (lv' := [(3, .int (rf_num nw w n 0 4000)), (0, .ref x), (1, .int w), (2, .int n)]) hx hb dX5_floors_10 rfl hl (by decide) rfl (fun ls hl => ?_)
  refine lv_iload_n hx hb dX5_floors_11 rfl (lv_at hl 0 rfl) ?_
  refine lv_if_eq (tgt := 21) hx hb dX5_floors_12 (by decide) (fun c_12 => ?_) (fun c_12 => ?_)
  · skip
    refine lv_aload_n hx hb dX5_floors_21 rfl (lv_at hl 1 rfl) ?_
    refine va_get (D := D) (ci := 5) (v := .ref r) (C := RX5) (T := TX5) (N := 11) hx hb hts (in_X5_floors_X5) hown hK hP 0 rfl rfl 0 (by decide) (hts (.fieldLink RX5 10 "StepsRoundCircle" "ring" "LStepsRoundCircle$Ring;") (by decide +kernel)) (fun _ h9 => h9) rfl dX5_floors_22 ?_
    refine lv_iload_n hx hb dX5_floors_25 rfl (lv_at hl 2 rfl) ?_
    refine lv_iconst (v := 1) hx hb dX5_floors_26 (by decide) ?_
    refine rdV (As := [.int w, .int 1]) (rest := []) ⟨hx, hb, hml, hown, hts⟩ (c_X1_value l D cI cZ cR r rn q nw v w 1 ) (cwV 2 hts gX5_floors_X1_value rfl rfl rfl (by decide +kernel) ⟨Nat.le_of_ble_eq_true rfl, Nat.le_of_ble_eq_true rfl⟩) hK hN hP 2 1 rfl rfl rfl [2, 3] rfl rfl hl.1 rfl (Nat.le_of_ble_eq_true rfl) dX5_floors_27 ⟨Nat.zero_le _, Nat.zero_le _⟩ ?_
    refine lv_i2l hx hb dX5_floors_30 rfl ?_
    refine lv_aload_n hx hb dX5_floors_31 rfl (lv_at hl 1 rfl) ?_
    refine va_get (D := D) (ci := 5) (v := .ref r) (C := RX5) (T := TX5) (N := 11) hx hb hts (in_X5_floors_X5) hown hK hP 0 rfl rfl 0 (by decide) (hts (.fieldLink RX5 10 "StepsRoundCircle" "ring" "LStepsRoundCircle$Ring;") (by decide +kernel)) (fun _ h9 => h9) rfl dX5_floors_32 ?_
    refine va_get (D := D) (ci := 1) (v := .int q) (C := RX1) (T := TX1) (N := 3) hx hb hts (in_X5_floors_X1) hown hK hP 2 rfl rfl 0 (by decide) (hts (.fieldLink RX5 91 "StepsRoundCircle$Ring" "size" "I") (by decide +kernel)) (fun _ h9 => h9) rfl dX5_floors_35 ?_
    refine lv_i2l hx hb dX5_floors_38 rfl ?_
    refine lv_iload_n hx hb dX5_floors_39 rfl (lv_at hl 3 rfl) ?_
    refine rdS (As := [.long ((rg_val v w 1).toInt64), .long q.toInt64, .int n]) (rest := []) ⟨hx, hb, hml, hown, hts⟩ (c_X5_sumOfFloors l D cI cZ cR ((rg_val v w 1).toInt64) q.toInt64 n ) (va_cwS 3 hts gX5_floors_X5_sumOfFloors rfl rfl rfl (by decide +kernel) ⟨Nat.le_of_ble_eq_true rfl, Nat.le_of_ble_eq_true rfl⟩) hK hN hP [] rfl rfl hl.1 rfl (Nat.le_of_ble_eq_true rfl) dX5_floors_40 ⟨Nat.zero_le _, Nat.zero_le _⟩ ?_
    exact wrL (w1 := (fun (u : (Nat → Int32)) => [(x, .inr (5, [.ref r, .ref t, .ref im, .int hi, .ref tx, .ref ch, .ref ro, .ref rf, .ref pl, .ref ot, .ref cl])), (rf, .inl (cI, 6, .inl u)), (r, .inr (1, [.int q, .int nw, .ref rn])), (rn, .inl (cI, 20, .inl v))])) F hx hb hr hlocks dX5_floors_43 hS (hP.sub [0, 1, 2, 3] rfl) (hD.sub [0, 1, 2, 3] (by decide) rfl) (by rw [if_pos c_12, if_pos c_12]; exact ⟨rfl, rfl⟩)
  · skip
    refine lv_aload_n hx hb dX5_floors_15 rfl (lv_at hl 1 rfl) ?_
    refine lv_iload_n hx hb dX5_floors_16 rfl (lv_at hl 0 rfl) ?_
    refine wrVl (As := [.int (rf_num nw w n 0 4000)]) (rest := []) (wr := [(r, .inr (1, [.int q, .int nw, .ref rn])), (rn, .inl (cI, 20, .inl v))]) (A := A) ⟨hx, hb, hml, hown, hts⟩ (c_X5_refuseLong l D cI cZ cR x r t im tx ch ro rf pl ot cl hi F (rf_num nw w n 0 4000)  s.heap.size) (cwV 1 hts gX5_floors_X5_refuseLong rfl rfl rfl (by decide +kernel) ⟨Nat.le_of_ble_eq_true rfl, Nat.le_of_ble_eq_true rfl⟩) hK hN hP hD hS hA 0 5 rfl rfl rfl [0, 1] [2, 3] rfl (by decide) rfl (by decide) (by decide) rfl hl.1 rfl (Nat.le_of_ble_eq_true rfl) dX5_floors_17 ⟨Nat.zero_le _, Nat.zero_le _⟩ (fun r_17 u H locs hw hP hD hS => ?_)
    obtain ⟨F_17, rfl⟩ : ∃ z, z = u := ⟨_, rfl⟩
    try dsimp only at hw
    obtain ⟨q1_17, q2_17⟩ := hw
    have q1_17 := q1_17.symm
    subst q1_17
    have q2_17 := q2_17.symm
    subst q2_17
    have hP : va_P D vwCl [(x, .inr (5, [.ref r, .ref t, .ref im, .int hi, .ref tx, .ref ch, .ref ro, .ref rf, .ref pl, .ref ot, .ref cl])), (rf, .inl (cI, 6, .inl (rf_bump F (rf_num nw w n 0 4000)))), (r, .inr (1, [.int q, .int nw, .ref rn])), (rn, .inl (cI, 20, .inl v))] H := hP.sub [2, 3, 0, 1] rfl
    have hD : va_D A [(x, .inr (5, [.ref r, .ref t, .ref im, .int hi, .ref tx, .ref ch, .ref ro, .ref rf, .ref pl, .ref ot, .ref cl])), (rf, .inl (cI, 6, .inl (rf_bump F (rf_num nw w n 0 4000)))), (r, .inr (1, [.int q, .int nw, .ref rn])), (rn, .inl (cI, 20, .inl v))] := hD.sub [2, 3, 0, 1] (by decide) rfl
    exact wrL (w1 := (fun (u : (Nat → Int32)) => [(x, .inr (5, [.ref r, .ref t, .ref im, .int hi, .ref tx, .ref ch, .ref ro, .ref rf, .ref pl, .ref ot, .ref cl])), (rf, .inl (cI, 6, .inl u)), (r, .inr (1, [.int q, .int nw, .ref rn])), (rn, .inl (cI, 20, .inl v))])) (rf_bump F (rf_num nw w n 0 4000)) hx hb hr hlocks dX5_floors_20 hS (hP.sub [0, 1, 2, 3] rfl) (hD.sub [0, 1, 2, 3] (by decide) rfl) (by rw [if_neg c_12, if_neg c_12]; exact ⟨rfl, rfl⟩)

set_option maxHeartbeats 4000000 in
set_option maxRecDepth 100000 in
theorem c_X5_rests (l : Launch) (D : va_G) (cI cZ cR : ClassId) (x r t im tx ch ro rf pl ot cl : Nat) (hi : Int32) (F : Nat → Int32) (rn : Nat) (q nw : Int32) (v : Nat → Int32) (w n : Int32) (sz : Nat) : Met l yX5_rests wsX5_rests ({ frames := 3, cells := 0, slots := 0, locals := 66 }) (PcW D cI cZ cR [.ref x, .int w, .int n] [(x, .inr (5, [.ref r, .ref t, .ref im, .int hi, .ref tx, .ref ch, .ref ro, .ref rf, .ref pl, .ref ot, .ref cl])), (rf, .inl (cI, 6, .inl F)), (r, .inr (1, [.int q, .int nw, .ref rn])), (rn, .inl (cI, 20, .inl v))] sz) (va_Ql (fun (res : Int64) (u : (Nat → Int32)) => res = (if rf_num nw w n 0 4000 = 0 then res9 (rg_val v w 1) q n.toNatClampNeg else 4000000000000000000 - (rf_num nw w n 0 4000).toInt64) ∧ u = (if rf_num nw w n 0 4000 = 0 then F else rf_bump F (rf_num nw w n 0 4000))) (Bw D (fun (u : (Nat → Int32)) => [(x, .inr (5, [.ref r, .ref t, .ref im, .int hi, .ref tx, .ref ch, .ref ro, .ref rf, .ref pl, .ref ot, .ref cl])), (rf, .inl (cI, 6, .inl u)), (r, .inr (1, [.int q, .int nw, .ref rn])), (rn, .inl (cI, 20, .inl v))]) (va_A [(x, .inr (5, [.ref r, .ref t, .ref im, .int hi, .ref tx, .ref ch, .ref ro, .ref rf, .ref pl, .ref ot, .ref cl])), (rf, .inl (cI, 6, .inl F)), (r, .inr (1, [.int q, .int nw, .ref rn])), (rn, .inl (cI, 20, .inl v))] sz)) (va_A [(x, .inr (5, [.ref r, .ref t, .ref im, .int hi, .ref tx, .ref ch, .ref ro, .ref rf, .ref pl, .ref ot, .ref cl])), (rf, .inl (cI, 6, .inl F)), (r, .inr (1, [.int q, .int nw, .ref rn])), (rn, .inl (cI, 20, .inl v))] sz)) 0 0 (va_A [(x, .inr (5, [.ref r, .ref t, .ref im, .int hi, .ref tx, .ref ch, .ref ro, .ref rf, .ref pl, .ref ot, .ref cl])), (rf, .inl (cI, 6, .inl F)), (r, .inr (1, [.int q, .int nw, .ref rn])), (rn, .inl (cI, 20, .inl v))] sz) := by
  refine Met.ofW (cc := cX5_rests) (maxL := 9) (ret := (some .long)) (by decide) rfl ?_
  intro p e s m args below meth c s₁ B hml hv
  obtain ⟨rfl, hsz, hP, hK, hD0, hN⟩ := hv
  have hx := B.exec
  have hb := B.bytes
  have hr := B.returns
  have hts := atoms_spec (ws := wsX5_rests) B.pre
  have hown : s.vm.findClass RX5 = some m.cls := findClass_of_methodNamed B.named
  have hlocks := B.notSynchronized
  subst hsz
  have hD := hD0.self (sz := s.heap.size)
  generalize hAe : va_A [(x, .inr (5, [.ref r, .ref t, .ref im, .int hi, .ref tx, .ref ch, .ref ro, .ref rf, .ref pl, .ref ot, .ref cl])), (rf, .inl (cI, 6, .inl F)), (r, .inr (1, [.int q, .int nw, .ref rn])), (rn, .inl (cI, 20, .inl v))] s.heap.size = A at hD ⊢
  have hA : ∀ q : Nat, s.heap.size ≤ q → A q := fun q h => by rw [← hAe]; exact Or.inr h
  have hS : va_S A s.heap s.heap [] := va_S.rf
  have hP : va_P D vwCl [(x, .inr (5, [.ref r, .ref t, .ref im, .int hi, .ref tx, .ref ch, .ref ro, .ref rf, .ref pl, .ref ot, .ref cl])), (rf, .inl (cI, 6, .inl F)), (r, .inr (1, [.int q, .int nw, .ref rn])), (rn, .inl (cI, 20, .inl v))] s.heap := hP
  have hl := lv_entry ([.ref x, .int w, .int n]) (n := 9) (Nat.le_of_ble_eq_true rfl)
  rw [lg_entry_eq]
  generalize (lg_sl ([.ref x, .int w, .int n]) ++ List.replicate (9 - (lg_sl ([.ref x, .int w, .int n])).length) Slot.unset).toArray = ls at hl ⊢
  have hl : lv_has ls 9 [(0, .ref x), (1, .int w), (2, .int n)] := hl
  refine lv_aload_n hx hb dX5_rests_0 rfl (lv_at hl 0 rfl) ?_
  refine lv_iload_n hx hb dX5_rests_1 rfl (lv_at hl 1 rfl) ?_
  refine lv_iload_n hx hb dX5_rests_2 rfl (lv_at hl 2 rfl) ?_
  refine lv_iconst (v := 0) hx hb dX5_rests_3 (by decide) ?_
  refine lv_sipush (v := 4000) hx hb dX5_rests_4 (by decide) ?_
  refine rdV (As := [.int w, .int n, .int 0, .int 4000]) (rest := []) ⟨hx, hb, hml, hown, hts⟩ (c_X5_refusalOfNumber l D cI cZ cR x r t im tx ch ro rf pl ot cl hi rn q nw v w n 0 4000 ) (cwV 4 hts gX5_rests_X5_refusalOfNumber rfl rfl rfl (by decide +kernel) ⟨Nat.le_of_ble_eq_true rfl, Nat.le_of_ble_eq_true rfl⟩) hK hN hP 0 5 rfl rfl rfl [0, 2, 3] rfl rfl hl.1 rfl (Nat.le_of_ble_eq_true rfl) dX5_rests_7 ⟨Nat.zero_le _, Nat.zero_le _⟩ ?_
  refine lv_istore_n (lv' := [(3, .int (rf_num nw w n 0 4000)), (0, .ref x), (1, .int w), (2, .int n)]) hx hb dX5_rests_10 rfl hl (by decide) rfl (fun ls hl => ?_)
  refine lv_iload_n hx hb dX5_rests_11 rfl (lv_at hl 0 rfl) ?_
  refine lv_if_eq (tgt := 21) hx hb dX5_rests_12 (by decide) (fun c_12 => ?_) (fun c_12 => ?_)
  · skip
    refine lv_aload_n hx hb dX5_rests_21 rfl (lv_at hl 1 rfl) ?_
    refine va_get (D := D) (ci := 5) (v := .ref r) (C := RX5) (T := TX5) (N := 11) hx hb hts (in_X5_rests_X5) hown hK hP 0 rfl rfl 0 (by decide) (hts (.fieldLink RX5 10 "StepsRoundCircle" "ring" "LStepsRoundCircle$Ring;") (by decide +kernel)) (fun _ h9 => h9) rfl dX5_rests_22 ?_
    refine lv_iload_n hx hb dX5_rests_25 rfl (lv_at hl 2 rfl) ?_
    refine lv_iconst (v := 1) hx hb dX5_rests_26 (by decide) ?_
    refine rdV (As := [.int w, .int 1]) (rest := []) ⟨hx, hb, hml, hown, hts⟩ (c_X1_value l D cI cZ cR r rn q nw v w 1 ) (cwV 2 hts gX5_rests_X1_value rfl rfl rfl (by decide +kernel) ⟨Nat.le_of_ble_eq_true rfl, Nat.le_of_ble_eq_true rfl⟩) hK hN hP 2 1 rfl rfl rfl [2, 3] rfl rfl hl.1 rfl (Nat.le_of_ble_eq_true rfl) dX5_rests_27 ⟨Nat.zero_le _, Nat.zero_le _⟩ ?_
    refine lv_i2l hx hb dX5_rests_30 rfl ?_
    refine lv_lstore (lv' := [(4, .long ((rg_val v w 1).toInt64)), (3, .int (rf_num nw w n 0 4000)), (0, .ref x), (1, .int w), (2, .int n)]) hx hb dX5_rests_31 hl (by decide) rfl (fun ls hl => ?_)
    refine lv_lconst (v := 0) hx hb dX5_rests_33 (by decide) ?_
    refine lv_lstore (lv' := [(6, .long 0), (4, .long ((rg_val v w 1).toInt64)), (3, .int (rf_num nw w n 0 4000)), (0, .ref x), (1, .int w), (2, .int n)]) hx hb dX5_rests_34 hl (by decide) rfl (fun ls hl => ?_)
    refine lv_iconst (v := 0) hx hb dX5_rests_36 (by decide) ?_
    refine lv_istore (lv' := [(8, .int 0), (6, .long 0), (4, .long ((rg_val v w 1).toInt64)), (3, .int (rf_num nw w n 0 4000)), (0, .ref x), (1, .int w), (2, .int n)]) hx hb dX5_rests_37 hl (by decide) rfl (fun ls hl => ?_)
    have loop_39 : ∀ (fuel : Nat), ∀ (i : Nat), (i ≤ n.toNatClampNeg) → (n.toNatClampNeg + 1 ≤ i + fuel) → ∀ (y6 : Int64), y6 = res9 (rg_val v w 1) q i → ∀ (y8 : Int32), y8 = nI i → ∀ (ls : Array Slot), lv_has ls 9 [(6, .long y6), (8, .int y8), (0, .ref x), (1, .int w), (2, .int n), (3, .int (rf_num nw w n 0 4000)), (4, .long ((rg_val v w 1).toInt64))] → W p l e (headSpec wsX5_rests ({ frames := 3, cells := 0, slots := 0, locals := 66 })).room s m ([.ref x, .int w, .int n] : List Value).toArray below meth c s.heap [] 0 0 (MQ below (va_Ql (fun (res : Int64) (u : (Nat → Int32)) => res = (if rf_num nw w n 0 4000 = 0 then res9 (rg_val v w 1) q n.toNatClampNeg else 4000000000000000000 - (rf_num nw w n 0 4000).toInt64) ∧ u = (if rf_num nw w n 0 4000 = 0 then F else rf_bump F (rf_num nw w n 0 4000))) (Bw D (fun (u : (Nat → Int32)) => [(x, .inr (5, [.ref r, .ref t, .ref im, .int hi, .ref tx, .ref ch, .ref ro, .ref rf, .ref pl, .ref ot, .ref cl])), (rf, .inl (cI, 6, .inl u)), (r, .inr (1, [.int q, .int nw, .ref rn])), (rn, .inl (cI, 20, .inl v))]) A) A) ([.ref x, .int w, .int n] : List Value).toArray s 0 0 A) (F0 m 39 ls []) := by
      intro fuel
      induction fuel with
      | zero =>
        intro i hi9 hfu
        exact False.elim (by omega)
      | succ fuel ih_39 =>
        intro i hi9 hfu y6 ey6 y8 ey8 ls hl
        subst ey6
        subst ey8
        refine lv_iload hx hb dX5_rests_39 (lv_at hl 1 rfl) ?_
        refine lv_iload_n hx hb dX5_rests_41 rfl (lv_at hl 4 rfl) ?_
        refine lv_icmp_ge (tgt := 73) hx hb dX5_rests_42 (by decide) (fun c_42 => ?_) (fun c_42 => ?_)
        · skip
          refine lv_lload hx hb dX5_rests_73 (lv_at hl 0 rfl) ?_
          exact wrL (w1 := (fun (u : (Nat → Int32)) => [(x, .inr (5, [.ref r, .ref t, .ref im, .int hi, .ref tx, .ref ch, .ref ro, .ref rf, .ref pl, .ref ot, .ref cl])), (rf, .inl (cI, 6, .inl u)), (r, .inr (1, [.int q, .int nw, .ref rn])), (rn, .inl (cI, 20, .inl v))])) F hx hb hr hlocks dX5_rests_75 hS (hP.sub [0, 1, 2, 3] rfl) (hD.sub [0, 1, 2, 3] (by decide) rfl) (by have h9 := (le_clamp (by have := clamp_lt n; omega)).mp c_42; have e9 : i = n.toNatClampNeg := (by omega); rw [if_pos c_12, if_pos c_12, e9]; exact ⟨rfl, rfl⟩)
        · skip
          have hiN : i < n.toNatClampNeg := (lt_clamp (by have := clamp_lt n; omega)).mp (Int32.not_le.mp c_42)
          refine lv_lload hx hb dX5_rests_45 (lv_at hl 0 rfl) ?_
          refine lv_iload hx hb dX5_rests_47 (lv_at hl 1 rfl) ?_
          refine lv_i2l hx hb dX5_rests_49 rfl ?_
          refine lv_lload hx hb dX5_rests_50 (lv_at hl 6 rfl) ?_
          refine lv_lmul hx hb dX5_rests_52 ?_
          refine lv_aload_n hx hb dX5_rests_53 rfl (lv_at hl 2 rfl) ?_
          refine va_get (D := D) (ci := 5) (v := .ref r) (C := RX5) (T := TX5) (N := 11) hx hb hts (in_X5_rests_X5) hown hK hP 0 rfl rfl 0 (by decide) (hts (.fieldLink RX5 10 "StepsRoundCircle" "ring" "LStepsRoundCircle$Ring;") (by decide +kernel)) (fun _ h9 => h9) rfl dX5_rests_54 ?_
          refine va_get (D := D) (ci := 1) (v := .int q) (C := RX1) (T := TX1) (N := 3) hx hb hts (in_X5_rests_X1) hown hK hP 2 rfl rfl 0 (by decide) (hts (.fieldLink RX5 91 "StepsRoundCircle$Ring" "size" "I") (by decide +kernel)) (fun _ h9 => h9) rfl dX5_rests_57 ?_
          refine lv_i2l hx hb dX5_rests_60 rfl ?_
          refine rdS (As := [.long (((nI i).toInt64) * ((rg_val v w 1).toInt64)), .long q.toInt64]) (rest := [.long (res9 (rg_val v w 1) q i)]) ⟨hx, hb, hml, hown, hts⟩ (c_X5_rest l D cI cZ cR (((nI i).toInt64) * ((rg_val v w 1).toInt64)) q.toInt64 ) (va_cwS 2 hts gX5_rests_X5_rest rfl rfl rfl (by decide +kernel) ⟨Nat.le_of_ble_eq_true rfl, Nat.le_of_ble_eq_true rfl⟩) hK hN hP [] rfl rfl hl.1 rfl (Nat.le_of_ble_eq_true rfl) dX5_rests_61 ⟨Nat.zero_le _, Nat.zero_le _⟩ ?_
          refine lv_ladd hx hb dX5_rests_64 ?_
          refine lv_lstore (lv' := [(6, .long ((res9 (rg_val v w 1) q i) + (lr (((nI i).toInt64) * ((rg_val v w 1).toInt64)) q.toInt64))), (8, .int (nI i)), (0, .ref x), (1, .int w), (2, .int n), (3, .int (rf_num nw w n 0 4000)), (4, .long ((rg_val v w 1).toInt64))]) hx hb dX5_rests_65 hl (by decide) rfl (fun ls hl => ?_)
          refine lv_iinc (v := (nI i) + 1) (lv' := [(8, .int ((nI i) + 1)), (6, .long ((res9 (rg_val v w 1) q i) + (lr (((nI i).toInt64) * ((rg_val v w 1).toInt64)) q.toInt64))), (0, .ref x), (1, .int w), (2, .int n), (3, .int (rf_num nw w n 0 4000)), (4, .long ((rg_val v w 1).toInt64))]) hx hb dX5_rests_67 hl (k := 1) rfl (by rfl) (by decide) rfl (fun ls hl => ?_)
          refine lv_goto (tgt := 39) hx hb dX5_rests_70 (by decide) ?_
          exact ih_39 (i + 1) (by omega) (by omega) _ rfl _ (by first | rfl | exact nI_1 _ | exact nI_0.symm) ls (lv_sub hl [1, 0, 2, 3, 4, 5, 6] rfl)
    exact loop_39 (n.toNatClampNeg + 1) 0 (by omega) (by omega) _ rfl _ (by first | rfl | exact nI_1 _ | exact nI_0.symm) ls (lv_sub hl [1, 0, 4, 5, 6, 3, 2] rfl)
  · skip
    refine lv_aload_n hx hb dX5_rests_15 rfl (lv_at hl 1 rfl) ?_
    refine lv_iload_n hx hb dX5_rests_16 rfl (lv_at hl 0 rfl) ?_
    refine wrVl (As := [.int (rf_num nw w n 0 4000)]) (rest := []) (wr := [(r, .inr (1, [.int q, .int nw, .ref rn])), (rn, .inl (cI, 20, .inl v))]) (A := A) ⟨hx, hb, hml, hown, hts⟩ (c_X5_refuseLong l D cI cZ cR x r t im tx ch ro rf pl ot cl hi F (rf_num nw w n 0 4000)  s.heap.size) (cwV 1 hts gX5_rests_X5_refuseLong rfl rfl rfl (by decide +kernel) ⟨Nat.le_of_ble_eq_true rfl, Nat.le_of_ble_eq_true rfl⟩) hK hN hP hD hS hA 0 5 rfl rfl rfl [0, 1] [2, 3] rfl (by decide) rfl (by decide) (by decide) rfl hl.1 rfl (Nat.le_of_ble_eq_true rfl) dX5_rests_17 ⟨Nat.zero_le _, Nat.zero_le _⟩ (fun r_17 u H locs hw hP hD hS => ?_)
    obtain ⟨F_17, rfl⟩ : ∃ z, z = u := ⟨_, rfl⟩
    try dsimp only at hw
    obtain ⟨q1_17, q2_17⟩ := hw
    have q1_17 := q1_17.symm
    subst q1_17
    have q2_17 := q2_17.symm
    subst q2_17
    have hP : va_P D vwCl [(x, .inr (5, [.ref r, .ref t, .ref im, .int hi, .ref tx, .ref ch, .ref ro, .ref rf, .ref pl, .ref ot, .ref cl])), (rf, .inl (cI, 6, .inl (rf_bump F (rf_num nw w n 0 4000)))), (r, .inr (1, [.int q, .int nw, .ref rn])), (rn, .inl (cI, 20, .inl v))] H := hP.sub [2, 3, 0, 1] rfl
    have hD : va_D A [(x, .inr (5, [.ref r, .ref t, .ref im, .int hi, .ref tx, .ref ch, .ref ro, .ref rf, .ref pl, .ref ot, .ref cl])), (rf, .inl (cI, 6, .inl (rf_bump F (rf_num nw w n 0 4000)))), (r, .inr (1, [.int q, .int nw, .ref rn])), (rn, .inl (cI, 20, .inl v))] := hD.sub [2, 3, 0, 1] (by decide) rfl
    exact wrL (w1 := (fun (u : (Nat → Int32)) => [(x, .inr (5, [.ref r, .ref t, .ref im, .int hi, .ref tx, .ref ch, .ref ro, .ref rf, .ref pl, .ref ot, .ref cl])), (rf, .inl (cI, 6, .inl u)), (r, .inr (1, [.int q, .int nw, .ref rn])), (rn, .inl (cI, 20, .inl v))])) (rf_bump F (rf_num nw w n 0 4000)) hx hb hr hlocks dX5_rests_20 hS (hP.sub [0, 1, 2, 3] rfl) (hD.sub [0, 1, 2, 3] (by decide) rfl) (by simp [c_12])

set_option maxHeartbeats 4000000 in
set_option maxRecDepth 100000 in
theorem c_X5_reciprocal (l : Launch) (D : va_G) (cI cZ cR : ClassId) (x r t im tx ch ro rf pl ot cl : Nat) (hi : Int32) (F : Nat → Int32) (rn : Nat) (q nw : Int32) (v : Nat → Int32) (w : Int32) (sz : Nat) : Met l yX5_reciprocal wsX5_reciprocal ({ frames := 3, cells := 0, slots := 0, locals := 64 }) (PcW D cI cZ cR [.ref x, .int w] [(x, .inr (5, [.ref r, .ref t, .ref im, .int hi, .ref tx, .ref ch, .ref ro, .ref rf, .ref pl, .ref ot, .ref cl])), (rf, .inl (cI, 6, .inl F)), (r, .inr (1, [.int q, .int nw, .ref rn])), (rn, .inl (cI, 20, .inl v))] sz) (va_Ql (fun (res : Int64) (u : (Nat → Int32)) => res = (if rf_has nw w = 0 then flo (rg_val v w 1) q q.toNatClampNeg + flo q (rg_val v w 1) (rg_val v w 1).toNatClampNeg else 4000000000000000000 - (rf_has nw w).toInt64) ∧ u = (if rf_has nw w = 0 then F else rf_bump F (rf_has nw w))) (Bw D (fun (u : (Nat → Int32)) => [(x, .inr (5, [.ref r, .ref t, .ref im, .int hi, .ref tx, .ref ch, .ref ro, .ref rf, .ref pl, .ref ot, .ref cl])), (rf, .inl (cI, 6, .inl u)), (r, .inr (1, [.int q, .int nw, .ref rn])), (rn, .inl (cI, 20, .inl v))]) (va_A [(x, .inr (5, [.ref r, .ref t, .ref im, .int hi, .ref tx, .ref ch, .ref ro, .ref rf, .ref pl, .ref ot, .ref cl])), (rf, .inl (cI, 6, .inl F)), (r, .inr (1, [.int q, .int nw, .ref rn])), (rn, .inl (cI, 20, .inl v))] sz)) (va_A [(x, .inr (5, [.ref r, .ref t, .ref im, .int hi, .ref tx, .ref ch, .ref ro, .ref rf, .ref pl, .ref ot, .ref cl])), (rf, .inl (cI, 6, .inl F)), (r, .inr (1, [.int q, .int nw, .ref rn])), (rn, .inl (cI, 20, .inl v))] sz)) 0 0 (va_A [(x, .inr (5, [.ref r, .ref t, .ref im, .int hi, .ref tx, .ref ch, .ref ro, .ref rf, .ref pl, .ref ot, .ref cl])), (rf, .inl (cI, 6, .inl F)), (r, .inr (1, [.int q, .int nw, .ref rn])), (rn, .inl (cI, 20, .inl v))] sz) := by
  refine Met.ofW (cc := cX5_reciprocal) (maxL := 3) (ret := (some .long)) (by decide) rfl ?_
  intro p e s m args below meth c s₁ B hml hv
  obtain ⟨rfl, hsz, hP, hK, hD0, hN⟩ := hv
  have hx := B.exec
  have hb := B.bytes
  have hr := B.returns
  have hts := atoms_spec (ws := wsX5_reciprocal) B.pre
  have hown : s.vm.findClass RX5 = some m.cls := findClass_of_methodNamed B.named
  have hlocks := B.notSynchronized
  subst hsz
  have hD := hD0.self (sz := s.heap.size)
  generalize hAe : va_A [(x, .inr (5, [.ref r, .ref t, .ref im, .int hi, .ref tx, .ref ch, .ref ro, .ref rf, .ref pl, .ref ot, .ref cl])), (rf, .inl (cI, 6, .inl F)), (r, .inr (1, [.int q, .int nw, .ref rn])), (rn, .inl (cI, 20, .inl v))] s.heap.size = A at hD ⊢
  have hA : ∀ q : Nat, s.heap.size ≤ q → A q := fun q h => by rw [← hAe]; exact Or.inr h
  have hS : va_S A s.heap s.heap [] := va_S.rf
  have hP : va_P D vwCl [(x, .inr (5, [.ref r, .ref t, .ref im, .int hi, .ref tx, .ref ch, .ref ro, .ref rf, .ref pl, .ref ot, .ref cl])), (rf, .inl (cI, 6, .inl F)), (r, .inr (1, [.int q, .int nw, .ref rn])), (rn, .inl (cI, 20, .inl v))] s.heap := hP
  have hl := lv_entry ([.ref x, .int w]) (n := 3) (Nat.le_of_ble_eq_true rfl)
  rw [lg_entry_eq]
  generalize (lg_sl ([.ref x, .int w]) ++ List.replicate (3 - (lg_sl ([.ref x, .int w])).length) Slot.unset).toArray = ls at hl ⊢
  have hl : lv_has ls 3 [(0, .ref x), (1, .int w)] := hl
  refine lv_aload_n hx hb dX5_reciprocal_0 rfl (lv_at hl 0 rfl) ?_
  refine va_get (D := D) (ci := 5) (v := .ref r) (C := RX5) (T := TX5) (N := 11) hx hb hts (in_X5_reciprocal_X5) hown hK hP 0 rfl rfl 0 (by decide) (hts (.fieldLink RX5 10 "StepsRoundCircle" "ring" "LStepsRoundCircle$Ring;") (by decide +kernel)) (fun _ h9 => h9) rfl dX5_reciprocal_1 ?_
  refine lv_iload_n hx hb dX5_reciprocal_4 rfl (lv_at hl 1 rfl) ?_
  refine rdV (As := [.int w]) (rest := []) ⟨hx, hb, hml, hown, hts⟩ (c_X1_has l D cI cZ cR r rn q nw v w ) (cwV 1 hts gX5_reciprocal_X1_has rfl rfl rfl (by decide +kernel) ⟨Nat.le_of_ble_eq_true rfl, Nat.le_of_ble_eq_true rfl⟩) hK hN hP 2 1 rfl rfl rfl [2, 3] rfl rfl hl.1 rfl (Nat.le_of_ble_eq_true rfl) dX5_reciprocal_5 ⟨Nat.zero_le _, Nat.zero_le _⟩ ?_
  refine lv_if_ne (tgt := 17) hx hb dX5_reciprocal_8 (by decide) (fun c_8 => ?_) (fun c_8 => ?_)
  · skip
    have c_8 := bi_ne0.mp c_8
    refine lv_aload_n hx hb dX5_reciprocal_17 rfl (lv_at hl 0 rfl) ?_
    refine va_get (D := D) (ci := 5) (v := .ref r) (C := RX5) (T := TX5) (N := 11) hx hb hts (in_X5_reciprocal_X5) hown hK hP 0 rfl rfl 0 (by decide) (hts (.fieldLink RX5 10 "StepsRoundCircle" "ring" "LStepsRoundCircle$Ring;") (by decide +kernel)) (fun _ h9 => h9) rfl dX5_reciprocal_18 ?_
    refine lv_iload_n hx hb dX5_reciprocal_21 rfl (lv_at hl 1 rfl) ?_
    refine lv_iconst (v := 1) hx hb dX5_reciprocal_22 (by decide) ?_
    refine rdV (As := [.int w, .int 1]) (rest := []) ⟨hx, hb, hml, hown, hts⟩ (c_X1_value l D cI cZ cR r rn q nw v w 1 ) (cwV 2 hts gX5_reciprocal_X1_value rfl rfl rfl (by decide +kernel) ⟨Nat.le_of_ble_eq_true rfl, Nat.le_of_ble_eq_true rfl⟩) hK hN hP 2 1 rfl rfl rfl [2, 3] rfl rfl hl.1 rfl (Nat.le_of_ble_eq_true rfl) dX5_reciprocal_23 ⟨Nat.zero_le _, Nat.zero_le _⟩ ?_
    refine lv_istore_n (lv' := [(2, .int (rg_val v w 1)), (0, .ref x), (1, .int w)]) hx hb dX5_reciprocal_26 rfl hl (by decide) rfl (fun ls hl => ?_)
    refine lv_iload_n hx hb dX5_reciprocal_27 rfl (lv_at hl 0 rfl) ?_
    refine lv_i2l hx hb dX5_reciprocal_28 rfl ?_
    refine lv_aload_n hx hb dX5_reciprocal_29 rfl (lv_at hl 1 rfl) ?_
    refine va_get (D := D) (ci := 5) (v := .ref r) (C := RX5) (T := TX5) (N := 11) hx hb hts (in_X5_reciprocal_X5) hown hK hP 0 rfl rfl 0 (by decide) (hts (.fieldLink RX5 10 "StepsRoundCircle" "ring" "LStepsRoundCircle$Ring;") (by decide +kernel)) (fun _ h9 => h9) rfl dX5_reciprocal_30 ?_
    refine va_get (D := D) (ci := 1) (v := .int q) (C := RX1) (T := TX1) (N := 3) hx hb hts (in_X5_reciprocal_X1) hown hK hP 2 rfl rfl 0 (by decide) (hts (.fieldLink RX5 91 "StepsRoundCircle$Ring" "size" "I") (by decide +kernel)) (fun _ h9 => h9) rfl dX5_reciprocal_33 ?_
    refine lv_i2l hx hb dX5_reciprocal_36 rfl ?_
    refine lv_aload_n hx hb dX5_reciprocal_37 rfl (lv_at hl 1 rfl) ?_
    refine va_get (D := D) (ci := 5) (v := .ref r) (C := RX5) (T := TX5) (N := 11) hx hb hts (in_X5_reciprocal_X5) hown hK hP 0 rfl rfl 0 (by decide) (hts (.fieldLink RX5 10 "StepsRoundCircle" "ring" "LStepsRoundCircle$Ring;") (by decide +kernel)) (fun _ h9 => h9) rfl dX5_reciprocal_38 ?_
    refine va_get (D := D) (ci := 1) (v := .int q) (C := RX1) (T := TX1) (N := 3) hx hb hts (in_X5_reciprocal_X1) hown hK hP 2 rfl rfl 0 (by decide) (hts (.fieldLink RX5 91 "StepsRoundCircle$Ring" "size" "I") (by decide +kernel)) (fun _ h9 => h9) rfl dX5_reciprocal_41 ?_
    refine rdS (As := [.long ((rg_val v w 1).toInt64), .long q.toInt64, .int q]) (rest := []) ⟨hx, hb, hml, hown, hts⟩ (c_X5_sumOfFloors l D cI cZ cR ((rg_val v w 1).toInt64) q.toInt64 q ) (va_cwS 3 hts gX5_reciprocal_X5_sumOfFloors rfl rfl rfl (by decide +kernel) ⟨Nat.le_of_ble_eq_true rfl, Nat.le_of_ble_eq_true rfl⟩) hK hN hP [] rfl rfl hl.1 rfl (Nat.le_of_ble_eq_true rfl) dX5_reciprocal_44 ⟨Nat.zero_le _, Nat.zero_le _⟩ ?_
    refine lv_aload_n hx hb dX5_reciprocal_47 rfl (lv_at hl 1 rfl) ?_
    refine va_get (D := D) (ci := 5) (v := .ref r) (C := RX5) (T := TX5) (N := 11) hx hb hts (in_X5_reciprocal_X5) hown hK hP 0 rfl rfl 0 (by decide) (hts (.fieldLink RX5 10 "StepsRoundCircle" "ring" "LStepsRoundCircle$Ring;") (by decide +kernel)) (fun _ h9 => h9) rfl dX5_reciprocal_48 ?_
    refine va_get (D := D) (ci := 1) (v := .int q) (C := RX1) (T := TX1) (N := 3) hx hb hts (in_X5_reciprocal_X1) hown hK hP 2 rfl rfl 0 (by decide) (hts (.fieldLink RX5 91 "StepsRoundCircle$Ring" "size" "I") (by decide +kernel)) (fun _ h9 => h9) rfl dX5_reciprocal_51 ?_
    refine lv_i2l hx hb dX5_reciprocal_54 rfl ?_
    refine lv_iload_n hx hb dX5_reciprocal_55 rfl (lv_at hl 0 rfl) ?_
    refine lv_i2l hx hb dX5_reciprocal_56 rfl ?_
    refine lv_iload_n hx hb dX5_reciprocal_57 rfl (lv_at hl 0 rfl) ?_
    refine rdS (As := [.long q.toInt64, .long ((rg_val v w 1).toInt64), .int (rg_val v w 1)]) (rest := [.long (lsum (fun k => lq ((nI k).toInt64 * ((rg_val v w 1).toInt64)) q.toInt64) q.toNatClampNeg)]) ⟨hx, hb, hml, hown, hts⟩ (c_X5_sumOfFloors l D cI cZ cR q.toInt64 ((rg_val v w 1).toInt64) (rg_val v w 1) ) (va_cwS 3 hts gX5_reciprocal_X5_sumOfFloors rfl rfl rfl (by decide +kernel) ⟨Nat.le_of_ble_eq_true rfl, Nat.le_of_ble_eq_true rfl⟩) hK hN hP [] rfl rfl hl.1 rfl (Nat.le_of_ble_eq_true rfl) dX5_reciprocal_58 ⟨Nat.zero_le _, Nat.zero_le _⟩ ?_
    refine lv_ladd hx hb dX5_reciprocal_61 ?_
    exact wrL (w1 := (fun (u : (Nat → Int32)) => [(x, .inr (5, [.ref r, .ref t, .ref im, .int hi, .ref tx, .ref ch, .ref ro, .ref rf, .ref pl, .ref ot, .ref cl])), (rf, .inl (cI, 6, .inl u)), (r, .inr (1, [.int q, .int nw, .ref rn])), (rn, .inl (cI, 20, .inl v))])) F hx hb hr hlocks dX5_reciprocal_62 hS (hP.sub [0, 1, 2, 3] rfl) (hD.sub [0, 1, 2, 3] (by decide) rfl) (by first | exact ⟨rfl, rfl⟩ | rfl | (simp [bi, rf_has, c_8]; done))
  · skip
    have c_8 := bi_eq0.mp c_8
    refine lv_aload_n hx hb dX5_reciprocal_11 rfl (lv_at hl 0 rfl) ?_
    refine lv_iconst (v := (-1)) hx hb dX5_reciprocal_12 (by decide) ?_
    refine wrVl (As := [.int (-1)]) (rest := []) (wr := [(r, .inr (1, [.int q, .int nw, .ref rn])), (rn, .inl (cI, 20, .inl v))]) (A := A) ⟨hx, hb, hml, hown, hts⟩ (c_X5_refuseLong l D cI cZ cR x r t im tx ch ro rf pl ot cl hi F (-1)  s.heap.size) (cwV 1 hts gX5_reciprocal_X5_refuseLong rfl rfl rfl (by decide +kernel) ⟨Nat.le_of_ble_eq_true rfl, Nat.le_of_ble_eq_true rfl⟩) hK hN hP hD hS hA 0 5 rfl rfl rfl [0, 1] [2, 3] rfl (by decide) rfl (by decide) (by decide) rfl hl.1 rfl (Nat.le_of_ble_eq_true rfl) dX5_reciprocal_13 ⟨Nat.zero_le _, Nat.zero_le _⟩ (fun r_13 u H locs hw hP hD hS => ?_)
    obtain ⟨F_13, rfl⟩ : ∃ z, z = u := ⟨_, rfl⟩
    try dsimp only at hw
    obtain ⟨q1_13, q2_13⟩ := hw
    have q1_13 := q1_13.symm
    subst q1_13
    have q2_13 := q2_13.symm
    subst q2_13
    have hP : va_P D vwCl [(x, .inr (5, [.ref r, .ref t, .ref im, .int hi, .ref tx, .ref ch, .ref ro, .ref rf, .ref pl, .ref ot, .ref cl])), (rf, .inl (cI, 6, .inl (rf_bump F (-1)))), (r, .inr (1, [.int q, .int nw, .ref rn])), (rn, .inl (cI, 20, .inl v))] H := hP.sub [2, 3, 0, 1] rfl
    have hD : va_D A [(x, .inr (5, [.ref r, .ref t, .ref im, .int hi, .ref tx, .ref ch, .ref ro, .ref rf, .ref pl, .ref ot, .ref cl])), (rf, .inl (cI, 6, .inl (rf_bump F (-1)))), (r, .inr (1, [.int q, .int nw, .ref rn])), (rn, .inl (cI, 20, .inl v))] := hD.sub [2, 3, 0, 1] (by decide) rfl
    exact wrL (w1 := (fun (u : (Nat → Int32)) => [(x, .inr (5, [.ref r, .ref t, .ref im, .int hi, .ref tx, .ref ch, .ref ro, .ref rf, .ref pl, .ref ot, .ref cl])), (rf, .inl (cI, 6, .inl u)), (r, .inr (1, [.int q, .int nw, .ref rn])), (rn, .inl (cI, 20, .inl v))])) (rf_bump F (-1)) hx hb hr hlocks dX5_reciprocal_16 hS (hP.sub [0, 1, 2, 3] rfl) (hD.sub [0, 1, 2, 3] (by decide) rfl) (by first | exact ⟨rfl, rfl⟩ | rfl | (simp [bi, rf_has, c_8]; done))

set_option maxHeartbeats 4000000 in
set_option maxRecDepth 100000 in
theorem c_X6_floorsOf (l : Launch) (D : va_G) (cI cZ cR : ClassId) (st by9 : Int64) (K : Nat) (hby : ¬ by9 = 0) (hK9 : K < 2147483648) : Met l yX6_floorsOf wsX6_floorsOf ({ frames := 0, cells := 0, slots := 0, locals := 0 }) (PcR D cI cZ cR [.long st, .long by9, .long (lN K)] []) (k2_QcV (.long (lsum (fun k => lq ((nI k).toInt64 * st) by9) K))) 0 0 (fun _ => False) := by
  refine Met.ofW (cc := cX6_floorsOf) (maxL := 10) (ret := (some .long)) (by decide) rfl ?_
  intro p e s m args below meth c s₁ B hml hv
  obtain ⟨rfl, hP, hK, hN⟩ := hv
  have hx := B.exec
  have hb := B.bytes
  have hr := B.returns
  have hts := atoms_spec (ws := wsX6_floorsOf) B.pre
  have hown : s.vm.findClass RX6 = some m.cls := findClass_of_methodNamed B.named
  have hlocks := B.notSynchronized
  have hP : va_P D vwCl [] s.heap := hP
  have hl := lv_entry ([.long st, .long by9, .long (lN K)]) (n := 10) (Nat.le_of_ble_eq_true rfl)
  rw [lg_entry_eq]
  generalize (lg_sl ([.long st, .long by9, .long (lN K)]) ++ List.replicate (10 - (lg_sl ([.long st, .long by9, .long (lN K)])).length) Slot.unset).toArray = ls at hl ⊢
  have hl : lv_has ls 10 [(0, .long st), (2, .long by9), (4, .long (lN K))] := hl
  refine lv_lconst (v := 0) hx hb dX6_floorsOf_0 (by decide) ?_
  refine lv_lstore (lv' := [(6, .long 0), (0, .long st), (2, .long by9), (4, .long (lN K))]) hx hb dX6_floorsOf_1 hl (by decide) rfl (fun ls hl => ?_)
  refine lv_lconst (v := 0) hx hb dX6_floorsOf_3 (by decide) ?_
  refine lv_lstore (lv' := [(8, .long 0), (6, .long 0), (0, .long st), (2, .long by9), (4, .long (lN K))]) hx hb dX6_floorsOf_4 hl (by decide) rfl (fun ls hl => ?_)
  have loop_6 : ∀ (fuel : Nat), ∀ (i : Nat), (i ≤ K) → (K + 1 ≤ i + fuel) → ∀ (y6 : Int64), y6 = lsum (fun k => lq ((nI k).toInt64 * st) by9) i → ∀ (y8 : Int64), y8 = lN i → ∀ (ls : Array Slot), lv_has ls 10 [(6, .long y6), (8, .long y8), (0, .long st), (2, .long by9), (4, .long (lN K))] → W p l e (headSpec wsX6_floorsOf ({ frames := 0, cells := 0, slots := 0, locals := 0 })).room s m ([.long st, .long by9, .long (lN K)] : List Value).toArray below meth c s.heap [] 0 0 (MQ below (k2_QcV (.long (lsum (fun k => lq ((nI k).toInt64 * st) by9) K))) ([.long st, .long by9, .long (lN K)] : List Value).toArray s 0 0 (fun _ => False)) (F0 m 6 ls []) := by
    intro fuel
    induction fuel with
    | zero =>
      intro i hi9 hfu
      exact False.elim (by omega)
    | succ fuel ih_6 =>
      intro i hi9 hfu y6 ey6 y8 ey8 ls hl
      subst ey6
      subst ey8
      refine lv_lload hx hb dX6_floorsOf_6 (lv_at hl 1 rfl) ?_
      refine lv_lload hx hb dX6_floorsOf_8 (lv_at hl 4 rfl) ?_
      refine W.lcmp hx hb dX6_floorsOf_10 ?_
      refine lv_if_ge (tgt := 34) hx hb dX6_floorsOf_11 (by decide) (fun c_11 => ?_) (fun c_11 => ?_)
      · skip
        have c_11 := (lg_cmp_ge _ _).mp c_11
        refine lv_lload hx hb dX6_floorsOf_34 (lv_at hl 0 rfl) ?_
        exact rdL hx hb hr hlocks dX6_floorsOf_36 (by have h9 := (lN_leI (by omega) (by omega)).mp c_11; have e9 : i = K := (by omega); rw [e9])
      · skip
        have c_11 := mt (lg_cmp_ge _ _).mpr c_11
        have hiN : i < K := by rcases Nat.lt_or_ge i K with q9 | q9; exact q9; exact absurd ((lN_leI (by omega) (by omega)).mpr q9) c_11
        refine lv_lload hx hb dX6_floorsOf_14 (lv_at hl 0 rfl) ?_
        refine lv_lload hx hb dX6_floorsOf_16 (lv_at hl 1 rfl) ?_
        refine lv_lload_n hx hb dX6_floorsOf_18 rfl (lv_at hl 2 rfl) ?_
        refine lv_lmul hx hb dX6_floorsOf_19 ?_
        refine lv_lload_n hx hb dX6_floorsOf_20 rfl (lv_at hl 3 rfl) ?_
        refine lv_ldiv hx hb dX6_floorsOf_21 hby ?_
        refine lv_topl (fun z_22 hz_22 => ?_)
        have hz_22 : z_22 = lq ((nI i).toInt64 * st) by9 := hz_22.trans (by unfold lq; rw [if_neg hby, nI_l (by omega)])
        subst hz_22
        refine lv_ladd hx hb dX6_floorsOf_22 ?_
        refine lv_lstore (lv' := [(6, .long ((lsum (fun k => lq ((nI k).toInt64 * st) by9) i) + (lq ((nI i).toInt64 * st) by9))), (8, .long (lN i)), (0, .long st), (2, .long by9), (4, .long (lN K))]) hx hb dX6_floorsOf_23 hl (by decide) rfl (fun ls hl => ?_)
        refine lv_lload hx hb dX6_floorsOf_25 (lv_at hl 1 rfl) ?_
        refine lv_lconst (v := 1) hx hb dX6_floorsOf_27 (by decide) ?_
        refine lv_ladd hx hb dX6_floorsOf_28 ?_
        refine lv_lstore (lv' := [(8, .long ((lN i) + 1)), (6, .long ((lsum (fun k => lq ((nI k).toInt64 * st) by9) i) + (lq ((nI i).toInt64 * st) by9))), (0, .long st), (2, .long by9), (4, .long (lN K))]) hx hb dX6_floorsOf_29 hl (by decide) rfl (fun ls hl => ?_)
        refine lv_goto (tgt := 6) hx hb dX6_floorsOf_31 (by decide) ?_
        exact ih_6 (i + 1) (by omega) (by omega) _ rfl _ (lN_1 i) ls (lv_sub hl [1, 0, 2, 3, 4] rfl)
  exact loop_6 (K + 1) 0 (by omega) (by omega) _ rfl _ rfl ls (lv_sub hl [1, 0, 2, 3, 4] rfl)

set_option maxHeartbeats 4000000 in
set_option maxRecDepth 100000 in
theorem c_X6_floors (l : Launch) (D : va_G) (cI cZ cR : ClassId) (y yr yw yc yl ys yp ym yo yk yt yi yz yx yu : Nat) (mq mn mc me md mz km kr : Int32) (G : Nat → Int32) (v : Nat → Int32) (w n : Int32) (hq : okQ mq) (hmn : 0 ≤ mn) (hm5 : mn ≤ 5) (hws : ∀ w, 0 ≤ w ∧ w < mn → okW mq v w) (sz : Nat) : Met l yX6_floors wsX6_floors ({ frames := 2, cells := 0, slots := 0, locals := 46 }) (PcW D cI cZ cR [.ref y, .int w, .int n] [(y, .inr (6, [.ref yr, .int mq, .int mn, .ref yw, .ref yc, .int mc, .ref yl, .int me, .ref ys, .ref yp, .ref ym, .int md, .ref yo, .ref yk, .ref yt, .int mz, .ref yi, .ref yz, .ref yx, .ref yu, .int km, .int kr])), (yr, .inl (cI, 7, .inl G)), (yw, .inl (cI, 20, .inl v))] sz) (va_Ql (fun (res : Int64) (u : (Nat → Int32)) => res = (if rf_num mn w n 0 4000 = 0 then flo (rg_val v w 1) mq n.toNatClampNeg else 4000000000000000000 - (rf_num mn w n 0 4000).toInt64) ∧ u = (if rf_num mn w n 0 4000 = 0 then G else md_bump G (rf_num mn w n 0 4000))) (Bw D (fun (u : (Nat → Int32)) => [(y, .inr (6, [.ref yr, .int mq, .int mn, .ref yw, .ref yc, .int mc, .ref yl, .int me, .ref ys, .ref yp, .ref ym, .int md, .ref yo, .ref yk, .ref yt, .int mz, .ref yi, .ref yz, .ref yx, .ref yu, .int km, .int kr])), (yr, .inl (cI, 7, .inl u)), (yw, .inl (cI, 20, .inl v))]) (va_A [(y, .inr (6, [.ref yr, .int mq, .int mn, .ref yw, .ref yc, .int mc, .ref yl, .int me, .ref ys, .ref yp, .ref ym, .int md, .ref yo, .ref yk, .ref yt, .int mz, .ref yi, .ref yz, .ref yx, .ref yu, .int km, .int kr])), (yr, .inl (cI, 7, .inl G)), (yw, .inl (cI, 20, .inl v))] sz)) (va_A [(y, .inr (6, [.ref yr, .int mq, .int mn, .ref yw, .ref yc, .int mc, .ref yl, .int me, .ref ys, .ref yp, .ref ym, .int md, .ref yo, .ref yk, .ref yt, .int mz, .ref yi, .ref yz, .ref yx, .ref yu, .int km, .int kr])), (yr, .inl (cI, 7, .inl G)), (yw, .inl (cI, 20, .inl v))] sz)) 0 0 (va_A [(y, .inr (6, [.ref yr, .int mq, .int mn, .ref yw, .ref yc, .int mc, .ref yl, .int me, .ref ys, .ref yp, .ref ym, .int md, .ref yo, .ref yk, .ref yt, .int mz, .ref yi, .ref yz, .ref yx, .ref yu, .int km, .int kr])), (yr, .inl (cI, 7, .inl G)), (yw, .inl (cI, 20, .inl v))] sz) := by
  refine Met.ofW (cc := cX6_floors) (maxL := 4) (ret := (some .long)) (by decide) rfl ?_
  intro p e s m args below meth c s₁ B hml hv
  obtain ⟨rfl, hsz, hP, hK, hD0, hN⟩ := hv
  have hx := B.exec
  have hb := B.bytes
  have hr := B.returns
  have hts := atoms_spec (ws := wsX6_floors) B.pre
  have hown : s.vm.findClass RX6 = some m.cls := findClass_of_methodNamed B.named
  have hlocks := B.notSynchronized
  subst hsz
  have hD := hD0.self (sz := s.heap.size)
  generalize hAe : va_A [(y, .inr (6, [.ref yr, .int mq, .int mn, .ref yw, .ref yc, .int mc, .ref yl, .int me, .ref ys, .ref yp, .ref ym, .int md, .ref yo, .ref yk, .ref yt, .int mz, .ref yi, .ref yz, .ref yx, .ref yu, .int km, .int kr])), (yr, .inl (cI, 7, .inl G)), (yw, .inl (cI, 20, .inl v))] s.heap.size = A at hD ⊢
  have hA : ∀ q : Nat, s.heap.size ≤ q → A q := fun q h => by rw [← hAe]; exact Or.inr h
  have hS : va_S A s.heap s.heap [] := va_S.rf
  have hP : va_P D vwCl [(y, .inr (6, [.ref yr, .int mq, .int mn, .ref yw, .ref yc, .int mc, .ref yl, .int me, .ref ys, .ref yp, .ref ym, .int md, .ref yo, .ref yk, .ref yt, .int mz, .ref yi, .ref yz, .ref yx, .ref yu, .int km, .int kr])), (yr, .inl (cI, 7, .inl G)), (yw, .inl (cI, 20, .inl v))] s.heap := hP
  have hl := lv_entry ([.ref y, .int w, .int n]) (n := 4) (Nat.le_of_ble_eq_true rfl)
  rw [lg_entry_eq]
  generalize (lg_sl ([.ref y, .int w, .int n]) ++ List.replicate (4 - (lg_sl ([.ref y, .int w, .int n])).length) Slot.unset).toArray = ls at hl ⊢
  have hl : lv_has ls 4 [(0, .ref y), (1, .int w), (2, .int n)] := hl
  refine lv_aload_n hx hb dX6_floors_0 rfl (lv_at hl 0 rfl) ?_
  refine lv_iload_n hx hb dX6_floors_1 rfl (lv_at hl 1 rfl) ?_
  refine rdV (As := [.int w]) (rest := []) ⟨hx, hb, hml, hown, hts⟩ (c_X6_isWalker l D cI cZ cR y yr yw yc yl ys yp ym yo yk yt yi yz yx yu mq mn mc me md mz km kr w (by first | assumption | omega)) (cwV 1 hts gX6_floors_X6_isWalker rfl rfl rfl (by decide +kernel) ⟨Nat.le_of_ble_eq_true rfl, Nat.le_of_ble_eq_true rfl⟩) hK hN hP 0 6 rfl rfl rfl [0] rfl rfl hl.1 rfl (Nat.le_of_ble_eq_true rfl) dX6_floors_2 ⟨Nat.zero_le _, Nat.zero_le _⟩ ?_
  refine lv_if_ne (tgt := 14) hx hb dX6_floors_5 (by decide) (fun c_5 => ?_) (fun c_5 => ?_)
  · skip
    have c_5 := bi_ne0.mp c_5
    have e0 := rf_num_r (n := n) (a := 0) (b := 4000) c_5
    refine lv_iload_n hx hb dX6_floors_14 rfl (lv_at hl 2 rfl) ?_
    refine lv_iconst (v := 0) hx hb dX6_floors_15 (by decide) ?_
    refine lv_sipush (v := 4000) hx hb dX6_floors_16 (by decide) ?_
    refine rdS (As := [.int n, .int 0, .int 4000]) (rest := []) ⟨hx, hb, hml, hown, hts⟩ (c_X6_range l D cI cZ cR n 0 4000 ) (va_cwS 3 hts gX6_floors_X6_range rfl rfl rfl (by decide +kernel) ⟨Nat.le_of_ble_eq_true rfl, Nat.le_of_ble_eq_true rfl⟩) hK hN hP [] rfl rfl hl.1 rfl (Nat.le_of_ble_eq_true rfl) dX6_floors_19 ⟨Nat.zero_le _, Nat.zero_le _⟩ ?_
    refine lv_istore_n (lv' := [(3, .int (rng n 0 4000)), (0, .ref y), (1, .int w), (2, .int n)]) hx hb dX6_floors_22 rfl hl (by decide) rfl (fun ls hl => ?_)
    refine lv_iload_n hx hb dX6_floors_23 rfl (lv_at hl 0 rfl) ?_
    refine lv_if_eq (tgt := 35) hx hb dX6_floors_24 (by decide) (fun c_24 => ?_) (fun c_24 => ?_)
    · skip
      have hnb := rng_0 c_24
      refine lv_aload_n hx hb dX6_floors_35 rfl (lv_at hl 1 rfl) ?_
      refine lv_iload_n hx hb dX6_floors_36 rfl (lv_at hl 2 rfl) ?_
      refine lv_iconst (v := 1) hx hb dX6_floors_37 (by decide) ?_
      refine rdV (As := [.int w, .int 1]) (rest := []) ⟨hx, hb, hml, hown, hts⟩ (c_X6_at l D cI cZ cR y yr yw yc yl ys yp ym yo yk yt yi yz yx yu mq mn mc me md mz km kr v w 1 (w5 hm5 c_5) (by decide)) (cwV 2 hts gX6_floors_X6_at rfl rfl rfl (by decide +kernel) ⟨Nat.le_of_ble_eq_true rfl, Nat.le_of_ble_eq_true rfl⟩) hK hN hP 0 6 rfl rfl rfl [0, 2] rfl rfl hl.1 rfl (Nat.le_of_ble_eq_true rfl) dX6_floors_38 ⟨Nat.zero_le _, Nat.zero_le _⟩ ?_
      refine lv_i2l hx hb dX6_floors_41 rfl ?_
      refine lv_aload_n hx hb dX6_floors_42 rfl (lv_at hl 1 rfl) ?_
      refine va_get (D := D) (ci := 6) (v := .int mq) (C := RX6) (T := TX6) (N := 22) hx hb hts (in_X6_floors_X6) hown hK hP 0 rfl rfl 1 (by decide) (hts (.fieldLink RX6 13 "StepsRoundCircleModel" "round" "I") (by decide +kernel)) (fun _ h9 => h9) rfl dX6_floors_43 ?_
      refine lv_i2l hx hb dX6_floors_46 rfl ?_
      refine lv_iload_n hx hb dX6_floors_47 rfl (lv_at hl 3 rfl) ?_
      refine lv_i2l hx hb dX6_floors_48 rfl ?_
      refine lv_topl (fun z_49 hz_49 => ?_)
      have hz_49 : z_49 = lN n.toNatClampNeg := hz_49.trans (wideN hnb.1)
      subst hz_49
      refine rdS (As := [.long ((rg_val v w 1).toInt64), .long mq.toInt64, .long (lN n.toNatClampNeg)]) (rest := []) ⟨hx, hb, hml, hown, hts⟩ (c_X6_floorsOf l D cI cZ cR ((rg_val v w 1).toInt64) mq.toInt64 n.toNatClampNeg (q_ne hq) (clamp_lt n)) (va_cwS 3 hts gX6_floors_X6_floorsOf rfl rfl rfl (by decide +kernel) ⟨Nat.le_of_ble_eq_true rfl, Nat.le_of_ble_eq_true rfl⟩) hK hN hP [] rfl rfl hl.1 rfl (Nat.le_of_ble_eq_true rfl) dX6_floors_49 ⟨Nat.zero_le _, Nat.zero_le _⟩ ?_
      exact wrL (w1 := (fun (u : (Nat → Int32)) => [(y, .inr (6, [.ref yr, .int mq, .int mn, .ref yw, .ref yc, .int mc, .ref yl, .int me, .ref ys, .ref yp, .ref ym, .int md, .ref yo, .ref yk, .ref yt, .int mz, .ref yi, .ref yz, .ref yx, .ref yu, .int km, .int kr])), (yr, .inl (cI, 7, .inl u)), (yw, .inl (cI, 20, .inl v))])) G hx hb hr hlocks dX6_floors_52 hS (hP.sub [0, 1, 2] rfl) (hD.sub [0, 1, 2] (by decide) rfl) (by simp [e0, c_24])
    · skip
      refine lv_aload_n hx hb dX6_floors_27 rfl (lv_at hl 1 rfl) ?_
      refine lv_iload_n hx hb dX6_floors_28 rfl (lv_at hl 0 rfl) ?_
      refine wrVl (As := [.int (rng n 0 4000)]) (rest := []) (wr := [(yw, .inl (cI, 20, .inl v))]) (A := A) ⟨hx, hb, hml, hown, hts⟩ (c_X6_noLong l D cI cZ cR y yr yw yc yl ys yp ym yo yk yt yi yz yx yu mq mn mc me md mz km kr G (rng n 0 4000) (rng_le _ _ _) s.heap.size) (cwV 1 hts gX6_floors_X6_noLong rfl rfl rfl (by decide +kernel) ⟨Nat.le_of_ble_eq_true rfl, Nat.le_of_ble_eq_true rfl⟩) hK hN hP hD hS hA 0 6 rfl rfl rfl [0, 1] [2] rfl (by decide) rfl (by decide) (by decide) rfl hl.1 rfl (Nat.le_of_ble_eq_true rfl) dX6_floors_29 ⟨Nat.zero_le _, Nat.zero_le _⟩ (fun r_29 u H locs hw hP hD hS => ?_)
      obtain ⟨G_29, rfl⟩ : ∃ z, z = u := ⟨_, rfl⟩
      try dsimp only at hw
      obtain ⟨q1_29, q2_29⟩ := hw
      have q1_29 := q1_29.symm
      subst q1_29
      have q2_29 := q2_29.symm
      subst q2_29
      have hP : va_P D vwCl [(y, .inr (6, [.ref yr, .int mq, .int mn, .ref yw, .ref yc, .int mc, .ref yl, .int me, .ref ys, .ref yp, .ref ym, .int md, .ref yo, .ref yk, .ref yt, .int mz, .ref yi, .ref yz, .ref yx, .ref yu, .int km, .int kr])), (yr, .inl (cI, 7, .inl (md_bump G (rng n 0 4000)))), (yw, .inl (cI, 20, .inl v))] H := hP.sub [1, 2, 0] rfl
      have hD : va_D A [(y, .inr (6, [.ref yr, .int mq, .int mn, .ref yw, .ref yc, .int mc, .ref yl, .int me, .ref ys, .ref yp, .ref ym, .int md, .ref yo, .ref yk, .ref yt, .int mz, .ref yi, .ref yz, .ref yx, .ref yu, .int km, .int kr])), (yr, .inl (cI, 7, .inl (md_bump G (rng n 0 4000)))), (yw, .inl (cI, 20, .inl v))] := hD.sub [1, 2, 0] (by decide) rfl
      refine lv_goto (tgt := 52) hx hb dX6_floors_32 (by decide) ?_
      exact wrL (w1 := (fun (u : (Nat → Int32)) => [(y, .inr (6, [.ref yr, .int mq, .int mn, .ref yw, .ref yc, .int mc, .ref yl, .int me, .ref ys, .ref yp, .ref ym, .int md, .ref yo, .ref yk, .ref yt, .int mz, .ref yi, .ref yz, .ref yx, .ref yu, .int km, .int kr])), (yr, .inl (cI, 7, .inl u)), (yw, .inl (cI, 20, .inl v))])) (md_bump G (rng n 0 4000)) hx hb hr hlocks dX6_floors_52 hS (hP.sub [0, 1, 2] rfl) (hD.sub [0, 1, 2] (by decide) rfl) (by simp [e0, c_24])
  · skip
    have c_5 := bi_eq0.mp c_5
    refine lv_aload_n hx hb dX6_floors_8 rfl (lv_at hl 0 rfl) ?_
    refine lv_iconst (v := (-1)) hx hb dX6_floors_9 (by decide) ?_
    refine wrVl (As := [.int (-1)]) (rest := []) (wr := [(yw, .inl (cI, 20, .inl v))]) (A := A) ⟨hx, hb, hml, hown, hts⟩ (c_X6_noLong l D cI cZ cR y yr yw yc yl ys yp ym yo yk yt yi yz yx yu mq mn mc me md mz km kr G (-1) (by decide) s.heap.size) (cwV 1 hts gX6_floors_X6_noLong rfl rfl rfl (by decide +kernel) ⟨Nat.le_of_ble_eq_true rfl, Nat.le_of_ble_eq_true rfl⟩) hK hN hP hD hS hA 0 6 rfl rfl rfl [0, 1] [2] rfl (by decide) rfl (by decide) (by decide) rfl hl.1 rfl (Nat.le_of_ble_eq_true rfl) dX6_floors_10 ⟨Nat.zero_le _, Nat.zero_le _⟩ (fun r_10 u H locs hw hP hD hS => ?_)
    obtain ⟨G_10, rfl⟩ : ∃ z, z = u := ⟨_, rfl⟩
    try dsimp only at hw
    obtain ⟨q1_10, q2_10⟩ := hw
    have q1_10 := q1_10.symm
    subst q1_10
    have q2_10 := q2_10.symm
    subst q2_10
    have hP : va_P D vwCl [(y, .inr (6, [.ref yr, .int mq, .int mn, .ref yw, .ref yc, .int mc, .ref yl, .int me, .ref ys, .ref yp, .ref ym, .int md, .ref yo, .ref yk, .ref yt, .int mz, .ref yi, .ref yz, .ref yx, .ref yu, .int km, .int kr])), (yr, .inl (cI, 7, .inl (md_bump G (-1)))), (yw, .inl (cI, 20, .inl v))] H := hP.sub [1, 2, 0] rfl
    have hD : va_D A [(y, .inr (6, [.ref yr, .int mq, .int mn, .ref yw, .ref yc, .int mc, .ref yl, .int me, .ref ys, .ref yp, .ref ym, .int md, .ref yo, .ref yk, .ref yt, .int mz, .ref yi, .ref yz, .ref yx, .ref yu, .int km, .int kr])), (yr, .inl (cI, 7, .inl (md_bump G (-1)))), (yw, .inl (cI, 20, .inl v))] := hD.sub [1, 2, 0] (by decide) rfl
    exact wrL (w1 := (fun (u : (Nat → Int32)) => [(y, .inr (6, [.ref yr, .int mq, .int mn, .ref yw, .ref yc, .int mc, .ref yl, .int me, .ref ys, .ref yp, .ref ym, .int md, .ref yo, .ref yk, .ref yt, .int mz, .ref yi, .ref yz, .ref yx, .ref yu, .int km, .int kr])), (yr, .inl (cI, 7, .inl u)), (yw, .inl (cI, 20, .inl v))])) (md_bump G (-1)) hx hb hr hlocks dX6_floors_13 hS (hP.sub [0, 1, 2] rfl) (hD.sub [0, 1, 2] (by decide) rfl) (by have e9 : rf_num mn w n 0 4000 = -1 := (by unfold rf_num; rw [if_pos c_5]); simp [e9])

set_option maxHeartbeats 4000000 in
set_option maxRecDepth 100000 in
theorem c_X6_rests (l : Launch) (D : va_G) (cI cZ cR : ClassId) (y yr yw yc yl ys yp ym yo yk yt yi yz yx yu : Nat) (mq mn mc me md mz km kr : Int32) (G : Nat → Int32) (v : Nat → Int32) (w n : Int32) (hq : okQ mq) (hmn : 0 ≤ mn) (hm5 : mn ≤ 5) (hws : ∀ w, 0 ≤ w ∧ w < mn → okW mq v w) (sz : Nat) : Met l yX6_rests wsX6_rests ({ frames := 2, cells := 0, slots := 0, locals := 46 }) (PcW D cI cZ cR [.ref y, .int w, .int n] [(y, .inr (6, [.ref yr, .int mq, .int mn, .ref yw, .ref yc, .int mc, .ref yl, .int me, .ref ys, .ref yp, .ref ym, .int md, .ref yo, .ref yk, .ref yt, .int mz, .ref yi, .ref yz, .ref yx, .ref yu, .int km, .int kr])), (yr, .inl (cI, 7, .inl G)), (yw, .inl (cI, 20, .inl v))] sz) (va_Ql (fun (res : Int64) (u : (Nat → Int32)) => res = (if rf_num mn w n 0 4000 = 0 then res9 (rg_val v w 1) mq n.toNatClampNeg else 4000000000000000000 - (rf_num mn w n 0 4000).toInt64) ∧ u = (if rf_num mn w n 0 4000 = 0 then G else md_bump G (rf_num mn w n 0 4000))) (Bw D (fun (u : (Nat → Int32)) => [(y, .inr (6, [.ref yr, .int mq, .int mn, .ref yw, .ref yc, .int mc, .ref yl, .int me, .ref ys, .ref yp, .ref ym, .int md, .ref yo, .ref yk, .ref yt, .int mz, .ref yi, .ref yz, .ref yx, .ref yu, .int km, .int kr])), (yr, .inl (cI, 7, .inl u)), (yw, .inl (cI, 20, .inl v))]) (va_A [(y, .inr (6, [.ref yr, .int mq, .int mn, .ref yw, .ref yc, .int mc, .ref yl, .int me, .ref ys, .ref yp, .ref ym, .int md, .ref yo, .ref yk, .ref yt, .int mz, .ref yi, .ref yz, .ref yx, .ref yu, .int km, .int kr])), (yr, .inl (cI, 7, .inl G)), (yw, .inl (cI, 20, .inl v))] sz)) (va_A [(y, .inr (6, [.ref yr, .int mq, .int mn, .ref yw, .ref yc, .int mc, .ref yl, .int me, .ref ys, .ref yp, .ref ym, .int md, .ref yo, .ref yk, .ref yt, .int mz, .ref yi, .ref yz, .ref yx, .ref yu, .int km, .int kr])), (yr, .inl (cI, 7, .inl G)), (yw, .inl (cI, 20, .inl v))] sz)) 0 0 (va_A [(y, .inr (6, [.ref yr, .int mq, .int mn, .ref yw, .ref yc, .int mc, .ref yl, .int me, .ref ys, .ref yp, .ref ym, .int md, .ref yo, .ref yk, .ref yt, .int mz, .ref yi, .ref yz, .ref yx, .ref yu, .int km, .int kr])), (yr, .inl (cI, 7, .inl G)), (yw, .inl (cI, 20, .inl v))] sz) := by
  refine Met.ofW (cc := cX6_rests) (maxL := 8) (ret := (some .long)) (by decide) rfl ?_
  intro p e s m args below meth c s₁ B hml hv
  obtain ⟨rfl, hsz, hP, hK, hD0, hN⟩ := hv
  have hx := B.exec
  have hb := B.bytes
  have hr := B.returns
  have hts := atoms_spec (ws := wsX6_rests) B.pre
  have hown : s.vm.findClass RX6 = some m.cls := findClass_of_methodNamed B.named
  have hlocks := B.notSynchronized
  subst hsz
  have hD := hD0.self (sz := s.heap.size)
  generalize hAe : va_A [(y, .inr (6, [.ref yr, .int mq, .int mn, .ref yw, .ref yc, .int mc, .ref yl, .int me, .ref ys, .ref yp, .ref ym, .int md, .ref yo, .ref yk, .ref yt, .int mz, .ref yi, .ref yz, .ref yx, .ref yu, .int km, .int kr])), (yr, .inl (cI, 7, .inl G)), (yw, .inl (cI, 20, .inl v))] s.heap.size = A at hD ⊢
  have hA : ∀ q : Nat, s.heap.size ≤ q → A q := fun q h => by rw [← hAe]; exact Or.inr h
  have hS : va_S A s.heap s.heap [] := va_S.rf
  have hP : va_P D vwCl [(y, .inr (6, [.ref yr, .int mq, .int mn, .ref yw, .ref yc, .int mc, .ref yl, .int me, .ref ys, .ref yp, .ref ym, .int md, .ref yo, .ref yk, .ref yt, .int mz, .ref yi, .ref yz, .ref yx, .ref yu, .int km, .int kr])), (yr, .inl (cI, 7, .inl G)), (yw, .inl (cI, 20, .inl v))] s.heap := hP
  have hl := lv_entry ([.ref y, .int w, .int n]) (n := 8) (Nat.le_of_ble_eq_true rfl)
  rw [lg_entry_eq]
  generalize (lg_sl ([.ref y, .int w, .int n]) ++ List.replicate (8 - (lg_sl ([.ref y, .int w, .int n])).length) Slot.unset).toArray = ls at hl ⊢
  have hl : lv_has ls 8 [(0, .ref y), (1, .int w), (2, .int n)] := hl
  refine lv_aload_n hx hb dX6_rests_0 rfl (lv_at hl 0 rfl) ?_
  refine lv_iload_n hx hb dX6_rests_1 rfl (lv_at hl 1 rfl) ?_
  refine rdV (As := [.int w]) (rest := []) ⟨hx, hb, hml, hown, hts⟩ (c_X6_isWalker l D cI cZ cR y yr yw yc yl ys yp ym yo yk yt yi yz yx yu mq mn mc me md mz km kr w (by first | assumption | omega)) (cwV 1 hts gX6_rests_X6_isWalker rfl rfl rfl (by decide +kernel) ⟨Nat.le_of_ble_eq_true rfl, Nat.le_of_ble_eq_true rfl⟩) hK hN hP 0 6 rfl rfl rfl [0] rfl rfl hl.1 rfl (Nat.le_of_ble_eq_true rfl) dX6_rests_2 ⟨Nat.zero_le _, Nat.zero_le _⟩ ?_
  refine lv_if_ne (tgt := 14) hx hb dX6_rests_5 (by decide) (fun c_5 => ?_) (fun c_5 => ?_)
  · skip
    have c_5 := bi_ne0.mp c_5
    have e0 := rf_num_r (n := n) (a := 0) (b := 4000) c_5
    refine lv_iload_n hx hb dX6_rests_14 rfl (lv_at hl 2 rfl) ?_
    refine lv_iconst (v := 0) hx hb dX6_rests_15 (by decide) ?_
    refine lv_sipush (v := 4000) hx hb dX6_rests_16 (by decide) ?_
    refine rdS (As := [.int n, .int 0, .int 4000]) (rest := []) ⟨hx, hb, hml, hown, hts⟩ (c_X6_range l D cI cZ cR n 0 4000 ) (va_cwS 3 hts gX6_rests_X6_range rfl rfl rfl (by decide +kernel) ⟨Nat.le_of_ble_eq_true rfl, Nat.le_of_ble_eq_true rfl⟩) hK hN hP [] rfl rfl hl.1 rfl (Nat.le_of_ble_eq_true rfl) dX6_rests_19 ⟨Nat.zero_le _, Nat.zero_le _⟩ ?_
    refine lv_istore_n (lv' := [(3, .int (rng n 0 4000)), (0, .ref y), (1, .int w), (2, .int n)]) hx hb dX6_rests_22 rfl hl (by decide) rfl (fun ls hl => ?_)
    refine lv_iload_n hx hb dX6_rests_23 rfl (lv_at hl 0 rfl) ?_
    refine lv_if_eq (tgt := 33) hx hb dX6_rests_24 (by decide) (fun c_24 => ?_) (fun c_24 => ?_)
    · skip
      have hnb := rng_0 c_24
      have hcl := clamp_lt n
      refine lv_lconst (v := 0) hx hb dX6_rests_33 (by decide) ?_
      refine lv_lstore (lv' := [(4, .long 0), (3, .int (rng n 0 4000)), (0, .ref y), (1, .int w), (2, .int n)]) hx hb dX6_rests_34 hl (by decide) rfl (fun ls hl => ?_)
      refine lv_lconst (v := 0) hx hb dX6_rests_36 (by decide) ?_
      refine lv_lstore (lv' := [(6, .long 0), (4, .long 0), (3, .int (rng n 0 4000)), (0, .ref y), (1, .int w), (2, .int n)]) hx hb dX6_rests_37 hl (by decide) rfl (fun ls hl => ?_)
      have loop_39 : ∀ (fuel : Nat), ∀ (i : Nat), (i ≤ n.toNatClampNeg) → (n.toNatClampNeg + 1 ≤ i + fuel) → ∀ (y4 : Int64), y4 = res9 (rg_val v w 1) mq i → ∀ (y6 : Int64), y6 = lN i → ∀ (ls : Array Slot), lv_has ls 8 [(4, .long y4), (6, .long y6), (0, .ref y), (1, .int w), (2, .int n), (3, .int (rng n 0 4000))] → W p l e (headSpec wsX6_rests ({ frames := 2, cells := 0, slots := 0, locals := 46 })).room s m ([.ref y, .int w, .int n] : List Value).toArray below meth c s.heap [] 0 0 (MQ below (va_Ql (fun (res : Int64) (u : (Nat → Int32)) => res = (if rf_num mn w n 0 4000 = 0 then res9 (rg_val v w 1) mq n.toNatClampNeg else 4000000000000000000 - (rf_num mn w n 0 4000).toInt64) ∧ u = (if rf_num mn w n 0 4000 = 0 then G else md_bump G (rf_num mn w n 0 4000))) (Bw D (fun (u : (Nat → Int32)) => [(y, .inr (6, [.ref yr, .int mq, .int mn, .ref yw, .ref yc, .int mc, .ref yl, .int me, .ref ys, .ref yp, .ref ym, .int md, .ref yo, .ref yk, .ref yt, .int mz, .ref yi, .ref yz, .ref yx, .ref yu, .int km, .int kr])), (yr, .inl (cI, 7, .inl u)), (yw, .inl (cI, 20, .inl v))]) A) A) ([.ref y, .int w, .int n] : List Value).toArray s 0 0 A) (F0 m 39 ls []) := by
        intro fuel
        induction fuel with
        | zero =>
          intro i hi9 hfu
          exact False.elim (by omega)
        | succ fuel ih_39 =>
          intro i hi9 hfu y4 ey4 y6 ey6 ls hl
          subst ey4
          subst ey6
          refine lv_lload hx hb dX6_rests_39 (lv_at hl 1 rfl) ?_
          refine lv_iload_n hx hb dX6_rests_41 rfl (lv_at hl 4 rfl) ?_
          refine lv_i2l hx hb dX6_rests_42 rfl ?_
          refine lv_topl (fun z_43 hz_43 => ?_)
          have hz_43 : z_43 = lN n.toNatClampNeg := hz_43.trans (wideN hnb.1)
          subst hz_43
          refine W.lcmp hx hb dX6_rests_43 ?_
          refine lv_if_ge (tgt := 77) hx hb dX6_rests_44 (by decide) (fun c_44 => ?_) (fun c_44 => ?_)
          · skip
            have c_44 := (lg_cmp_ge _ _).mp c_44
            refine lv_lload hx hb dX6_rests_77 (lv_at hl 0 rfl) ?_
            exact wrL (w1 := (fun (u : (Nat → Int32)) => [(y, .inr (6, [.ref yr, .int mq, .int mn, .ref yw, .ref yc, .int mc, .ref yl, .int me, .ref ys, .ref yp, .ref ym, .int md, .ref yo, .ref yk, .ref yt, .int mz, .ref yi, .ref yz, .ref yx, .ref yu, .int km, .int kr])), (yr, .inl (cI, 7, .inl u)), (yw, .inl (cI, 20, .inl v))])) G hx hb hr hlocks dX6_rests_79 hS (hP.sub [0, 1, 2] rfl) (hD.sub [0, 1, 2] (by decide) rfl) (by have h9 := (lN_leI (by omega) (by omega)).mp c_44; have e9 : i = n.toNatClampNeg := (by omega); rw [e0, if_pos c_24, if_pos c_24, e9]; exact ⟨rfl, rfl⟩)
          · skip
            have c_44 := mt (lg_cmp_ge _ _).mpr c_44
            have hiN : i < n.toNatClampNeg := by rcases Nat.lt_or_ge i n.toNatClampNeg with q9 | q9; exact q9; exact absurd ((lN_leI (by omega) (by omega)).mpr q9) c_44
            refine lv_lload hx hb dX6_rests_47 (lv_at hl 0 rfl) ?_
            refine lv_lload hx hb dX6_rests_49 (lv_at hl 1 rfl) ?_
            refine lv_aload_n hx hb dX6_rests_51 rfl (lv_at hl 2 rfl) ?_
            refine lv_iload_n hx hb dX6_rests_52 rfl (lv_at hl 3 rfl) ?_
            refine lv_iconst (v := 1) hx hb dX6_rests_53 (by decide) ?_
            refine rdV (As := [.int w, .int 1]) (rest := [.long (lN i), .long (res9 (rg_val v w 1) mq i)]) ⟨hx, hb, hml, hown, hts⟩ (c_X6_at l D cI cZ cR y yr yw yc yl ys yp ym yo yk yt yi yz yx yu mq mn mc me md mz km kr v w 1 (w5 hm5 c_5) (by decide)) (cwV 2 hts gX6_rests_X6_at rfl rfl rfl (by decide +kernel) ⟨Nat.le_of_ble_eq_true rfl, Nat.le_of_ble_eq_true rfl⟩) hK hN hP 0 6 rfl rfl rfl [0, 2] rfl rfl hl.1 rfl (Nat.le_of_ble_eq_true rfl) dX6_rests_54 ⟨Nat.zero_le _, Nat.zero_le _⟩ ?_
            refine lv_i2l hx hb dX6_rests_57 rfl ?_
            refine lv_lmul hx hb dX6_rests_58 ?_
            refine lv_aload_n hx hb dX6_rests_59 rfl (lv_at hl 2 rfl) ?_
            refine va_get (D := D) (ci := 6) (v := .int mq) (C := RX6) (T := TX6) (N := 22) hx hb hts (in_X6_rests_X6) hown hK hP 0 rfl rfl 1 (by decide) (hts (.fieldLink RX6 13 "StepsRoundCircleModel" "round" "I") (by decide +kernel)) (fun _ h9 => h9) rfl dX6_rests_60 ?_
            refine lv_i2l hx hb dX6_rests_63 rfl ?_
            refine lv_lrem hx hb dX6_rests_64 (q_ne hq) ?_
            refine lv_topl (fun z_65 hz_65 => ?_)
            have hz_65 : z_65 = lr ((nI i).toInt64 * (rg_val v w 1).toInt64) mq.toInt64 := hz_65.trans (by unfold lr; rw [if_neg (q_ne hq), nI_l (by omega)])
            subst hz_65
            refine lv_ladd hx hb dX6_rests_65 ?_
            refine lv_lstore (lv' := [(4, .long ((res9 (rg_val v w 1) mq i) + (lr ((nI i).toInt64 * (rg_val v w 1).toInt64) mq.toInt64))), (6, .long (lN i)), (0, .ref y), (1, .int w), (2, .int n), (3, .int (rng n 0 4000))]) hx hb dX6_rests_66 hl (by decide) rfl (fun ls hl => ?_)
            refine lv_lload hx hb dX6_rests_68 (lv_at hl 1 rfl) ?_
            refine lv_lconst (v := 1) hx hb dX6_rests_70 (by decide) ?_
            refine lv_ladd hx hb dX6_rests_71 ?_
            refine lv_lstore (lv' := [(6, .long ((lN i) + 1)), (4, .long ((res9 (rg_val v w 1) mq i) + (lr ((nI i).toInt64 * (rg_val v w 1).toInt64) mq.toInt64))), (0, .ref y), (1, .int w), (2, .int n), (3, .int (rng n 0 4000))]) hx hb dX6_rests_72 hl (by decide) rfl (fun ls hl => ?_)
            refine lv_goto (tgt := 39) hx hb dX6_rests_74 (by decide) ?_
            exact ih_39 (i + 1) (by omega) (by omega) _ rfl _ (lN_1 i) ls (lv_sub hl [1, 0, 2, 3, 4, 5] rfl)
      exact loop_39 (n.toNatClampNeg + 1) 0 (by omega) (by omega) _ rfl _ rfl ls (lv_sub hl [1, 0, 3, 4, 5, 2] rfl)
    · skip
      refine lv_aload_n hx hb dX6_rests_27 rfl (lv_at hl 1 rfl) ?_
      refine lv_iload_n hx hb dX6_rests_28 rfl (lv_at hl 0 rfl) ?_
      refine wrVl (As := [.int (rng n 0 4000)]) (rest := []) (wr := [(yw, .inl (cI, 20, .inl v))]) (A := A) ⟨hx, hb, hml, hown, hts⟩ (c_X6_noLong l D cI cZ cR y yr yw yc yl ys yp ym yo yk yt yi yz yx yu mq mn mc me md mz km kr G (rng n 0 4000) (rng_le _ _ _) s.heap.size) (cwV 1 hts gX6_rests_X6_noLong rfl rfl rfl (by decide +kernel) ⟨Nat.le_of_ble_eq_true rfl, Nat.le_of_ble_eq_true rfl⟩) hK hN hP hD hS hA 0 6 rfl rfl rfl [0, 1] [2] rfl (by decide) rfl (by decide) (by decide) rfl hl.1 rfl (Nat.le_of_ble_eq_true rfl) dX6_rests_29 ⟨Nat.zero_le _, Nat.zero_le _⟩ (fun r_29 u H locs hw hP hD hS => ?_)
      obtain ⟨G_29, rfl⟩ : ∃ z, z = u := ⟨_, rfl⟩
      try dsimp only at hw
      obtain ⟨q1_29, q2_29⟩ := hw
      have q1_29 := q1_29.symm
      subst q1_29
      have q2_29 := q2_29.symm
      subst q2_29
      have hP : va_P D vwCl [(y, .inr (6, [.ref yr, .int mq, .int mn, .ref yw, .ref yc, .int mc, .ref yl, .int me, .ref ys, .ref yp, .ref ym, .int md, .ref yo, .ref yk, .ref yt, .int mz, .ref yi, .ref yz, .ref yx, .ref yu, .int km, .int kr])), (yr, .inl (cI, 7, .inl (md_bump G (rng n 0 4000)))), (yw, .inl (cI, 20, .inl v))] H := hP.sub [1, 2, 0] rfl
      have hD : va_D A [(y, .inr (6, [.ref yr, .int mq, .int mn, .ref yw, .ref yc, .int mc, .ref yl, .int me, .ref ys, .ref yp, .ref ym, .int md, .ref yo, .ref yk, .ref yt, .int mz, .ref yi, .ref yz, .ref yx, .ref yu, .int km, .int kr])), (yr, .inl (cI, 7, .inl (md_bump G (rng n 0 4000)))), (yw, .inl (cI, 20, .inl v))] := hD.sub [1, 2, 0] (by decide) rfl
      exact wrL (w1 := (fun (u : (Nat → Int32)) => [(y, .inr (6, [.ref yr, .int mq, .int mn, .ref yw, .ref yc, .int mc, .ref yl, .int me, .ref ys, .ref yp, .ref ym, .int md, .ref yo, .ref yk, .ref yt, .int mz, .ref yi, .ref yz, .ref yx, .ref yu, .int km, .int kr])), (yr, .inl (cI, 7, .inl u)), (yw, .inl (cI, 20, .inl v))])) (md_bump G (rng n 0 4000)) hx hb hr hlocks dX6_rests_32 hS (hP.sub [0, 1, 2] rfl) (hD.sub [0, 1, 2] (by decide) rfl) (by simp [e0, c_24])
  · skip
    have c_5 := bi_eq0.mp c_5
    refine lv_aload_n hx hb dX6_rests_8 rfl (lv_at hl 0 rfl) ?_
    refine lv_iconst (v := (-1)) hx hb dX6_rests_9 (by decide) ?_
    refine wrVl (As := [.int (-1)]) (rest := []) (wr := [(yw, .inl (cI, 20, .inl v))]) (A := A) ⟨hx, hb, hml, hown, hts⟩ (c_X6_noLong l D cI cZ cR y yr yw yc yl ys yp ym yo yk yt yi yz yx yu mq mn mc me md mz km kr G (-1) (by decide) s.heap.size) (cwV 1 hts gX6_rests_X6_noLong rfl rfl rfl (by decide +kernel) ⟨Nat.le_of_ble_eq_true rfl, Nat.le_of_ble_eq_true rfl⟩) hK hN hP hD hS hA 0 6 rfl rfl rfl [0, 1] [2] rfl (by decide) rfl (by decide) (by decide) rfl hl.1 rfl (Nat.le_of_ble_eq_true rfl) dX6_rests_10 ⟨Nat.zero_le _, Nat.zero_le _⟩ (fun r_10 u H locs hw hP hD hS => ?_)
    obtain ⟨G_10, rfl⟩ : ∃ z, z = u := ⟨_, rfl⟩
    try dsimp only at hw
    obtain ⟨q1_10, q2_10⟩ := hw
    have q1_10 := q1_10.symm
    subst q1_10
    have q2_10 := q2_10.symm
    subst q2_10
    have hP : va_P D vwCl [(y, .inr (6, [.ref yr, .int mq, .int mn, .ref yw, .ref yc, .int mc, .ref yl, .int me, .ref ys, .ref yp, .ref ym, .int md, .ref yo, .ref yk, .ref yt, .int mz, .ref yi, .ref yz, .ref yx, .ref yu, .int km, .int kr])), (yr, .inl (cI, 7, .inl (md_bump G (-1)))), (yw, .inl (cI, 20, .inl v))] H := hP.sub [1, 2, 0] rfl
    have hD : va_D A [(y, .inr (6, [.ref yr, .int mq, .int mn, .ref yw, .ref yc, .int mc, .ref yl, .int me, .ref ys, .ref yp, .ref ym, .int md, .ref yo, .ref yk, .ref yt, .int mz, .ref yi, .ref yz, .ref yx, .ref yu, .int km, .int kr])), (yr, .inl (cI, 7, .inl (md_bump G (-1)))), (yw, .inl (cI, 20, .inl v))] := hD.sub [1, 2, 0] (by decide) rfl
    exact wrL (w1 := (fun (u : (Nat → Int32)) => [(y, .inr (6, [.ref yr, .int mq, .int mn, .ref yw, .ref yc, .int mc, .ref yl, .int me, .ref ys, .ref yp, .ref ym, .int md, .ref yo, .ref yk, .ref yt, .int mz, .ref yi, .ref yz, .ref yx, .ref yu, .int km, .int kr])), (yr, .inl (cI, 7, .inl u)), (yw, .inl (cI, 20, .inl v))])) (md_bump G (-1)) hx hb hr hlocks dX6_rests_13 hS (hP.sub [0, 1, 2] rfl) (hD.sub [0, 1, 2] (by decide) rfl) (by have e9 : rf_num mn w n 0 4000 = -1 := (by unfold rf_num; rw [if_pos c_5]); simp [e9])

set_option maxHeartbeats 4000000 in
set_option maxRecDepth 100000 in
theorem c_X6_reciprocal (l : Launch) (D : va_G) (cI cZ cR : ClassId) (y yr yw yc yl ys yp ym yo yk yt yi yz yx yu : Nat) (mq mn mc me md mz km kr : Int32) (G : Nat → Int32) (v : Nat → Int32) (w : Int32) (hq : okQ mq) (hmn : 0 ≤ mn) (hm5 : mn ≤ 5) (hws : ∀ w, 0 ≤ w ∧ w < mn → okW mq v w) (sz : Nat) : Met l yX6_reciprocal wsX6_reciprocal ({ frames := 2, cells := 0, slots := 0, locals := 46 }) (PcW D cI cZ cR [.ref y, .int w] [(y, .inr (6, [.ref yr, .int mq, .int mn, .ref yw, .ref yc, .int mc, .ref yl, .int me, .ref ys, .ref yp, .ref ym, .int md, .ref yo, .ref yk, .ref yt, .int mz, .ref yi, .ref yz, .ref yx, .ref yu, .int km, .int kr])), (yr, .inl (cI, 7, .inl G)), (yw, .inl (cI, 20, .inl v))] sz) (va_Ql (fun (res : Int64) (u : (Nat → Int32)) => res = (if rf_has mn w = 0 then flo (rg_val v w 1) mq mq.toNatClampNeg + flo mq (rg_val v w 1) (rg_val v w 1).toNatClampNeg else 4000000000000000000 - (rf_has mn w).toInt64) ∧ u = (if rf_has mn w = 0 then G else md_bump G (rf_has mn w))) (Bw D (fun (u : (Nat → Int32)) => [(y, .inr (6, [.ref yr, .int mq, .int mn, .ref yw, .ref yc, .int mc, .ref yl, .int me, .ref ys, .ref yp, .ref ym, .int md, .ref yo, .ref yk, .ref yt, .int mz, .ref yi, .ref yz, .ref yx, .ref yu, .int km, .int kr])), (yr, .inl (cI, 7, .inl u)), (yw, .inl (cI, 20, .inl v))]) (va_A [(y, .inr (6, [.ref yr, .int mq, .int mn, .ref yw, .ref yc, .int mc, .ref yl, .int me, .ref ys, .ref yp, .ref ym, .int md, .ref yo, .ref yk, .ref yt, .int mz, .ref yi, .ref yz, .ref yx, .ref yu, .int km, .int kr])), (yr, .inl (cI, 7, .inl G)), (yw, .inl (cI, 20, .inl v))] sz)) (va_A [(y, .inr (6, [.ref yr, .int mq, .int mn, .ref yw, .ref yc, .int mc, .ref yl, .int me, .ref ys, .ref yp, .ref ym, .int md, .ref yo, .ref yk, .ref yt, .int mz, .ref yi, .ref yz, .ref yx, .ref yu, .int km, .int kr])), (yr, .inl (cI, 7, .inl G)), (yw, .inl (cI, 20, .inl v))] sz)) 0 0 (va_A [(y, .inr (6, [.ref yr, .int mq, .int mn, .ref yw, .ref yc, .int mc, .ref yl, .int me, .ref ys, .ref yp, .ref ym, .int md, .ref yo, .ref yk, .ref yt, .int mz, .ref yi, .ref yz, .ref yx, .ref yu, .int km, .int kr])), (yr, .inl (cI, 7, .inl G)), (yw, .inl (cI, 20, .inl v))] sz) := by
  refine Met.ofW (cc := cX6_reciprocal) (maxL := 3) (ret := (some .long)) (by decide) rfl ?_
  intro p e s m args below meth c s₁ B hml hv
  obtain ⟨rfl, hsz, hP, hK, hD0, hN⟩ := hv
  have hx := B.exec
  have hb := B.bytes
  have hr := B.returns
  have hts := atoms_spec (ws := wsX6_reciprocal) B.pre
  have hown : s.vm.findClass RX6 = some m.cls := findClass_of_methodNamed B.named
  have hlocks := B.notSynchronized
  subst hsz
  have hD := hD0.self (sz := s.heap.size)
  generalize hAe : va_A [(y, .inr (6, [.ref yr, .int mq, .int mn, .ref yw, .ref yc, .int mc, .ref yl, .int me, .ref ys, .ref yp, .ref ym, .int md, .ref yo, .ref yk, .ref yt, .int mz, .ref yi, .ref yz, .ref yx, .ref yu, .int km, .int kr])), (yr, .inl (cI, 7, .inl G)), (yw, .inl (cI, 20, .inl v))] s.heap.size = A at hD ⊢
  have hA : ∀ q : Nat, s.heap.size ≤ q → A q := fun q h => by rw [← hAe]; exact Or.inr h
  have hS : va_S A s.heap s.heap [] := va_S.rf
  have hP : va_P D vwCl [(y, .inr (6, [.ref yr, .int mq, .int mn, .ref yw, .ref yc, .int mc, .ref yl, .int me, .ref ys, .ref yp, .ref ym, .int md, .ref yo, .ref yk, .ref yt, .int mz, .ref yi, .ref yz, .ref yx, .ref yu, .int km, .int kr])), (yr, .inl (cI, 7, .inl G)), (yw, .inl (cI, 20, .inl v))] s.heap := hP
  have hl := lv_entry ([.ref y, .int w]) (n := 3) (Nat.le_of_ble_eq_true rfl)
  rw [lg_entry_eq]
  generalize (lg_sl ([.ref y, .int w]) ++ List.replicate (3 - (lg_sl ([.ref y, .int w])).length) Slot.unset).toArray = ls at hl ⊢
  have hl : lv_has ls 3 [(0, .ref y), (1, .int w)] := hl
  refine lv_aload_n hx hb dX6_reciprocal_0 rfl (lv_at hl 0 rfl) ?_
  refine lv_iload_n hx hb dX6_reciprocal_1 rfl (lv_at hl 1 rfl) ?_
  refine rdV (As := [.int w]) (rest := []) ⟨hx, hb, hml, hown, hts⟩ (c_X6_isWalker l D cI cZ cR y yr yw yc yl ys yp ym yo yk yt yi yz yx yu mq mn mc me md mz km kr w (by first | assumption | omega)) (cwV 1 hts gX6_reciprocal_X6_isWalker rfl rfl rfl (by decide +kernel) ⟨Nat.le_of_ble_eq_true rfl, Nat.le_of_ble_eq_true rfl⟩) hK hN hP 0 6 rfl rfl rfl [0] rfl rfl hl.1 rfl (Nat.le_of_ble_eq_true rfl) dX6_reciprocal_2 ⟨Nat.zero_le _, Nat.zero_le _⟩ ?_
  refine lv_if_ne (tgt := 14) hx hb dX6_reciprocal_5 (by decide) (fun c_5 => ?_) (fun c_5 => ?_)
  · skip
    have c_5 := bi_ne0.mp c_5
    have e0 : rf_has mn w = 0 := by unfold rf_has; rw [if_pos c_5]
    refine lv_aload_n hx hb dX6_reciprocal_14 rfl (lv_at hl 0 rfl) ?_
    refine lv_iload_n hx hb dX6_reciprocal_15 rfl (lv_at hl 1 rfl) ?_
    refine lv_iconst (v := 1) hx hb dX6_reciprocal_16 (by decide) ?_
    refine rdV (As := [.int w, .int 1]) (rest := []) ⟨hx, hb, hml, hown, hts⟩ (c_X6_at l D cI cZ cR y yr yw yc yl ys yp ym yo yk yt yi yz yx yu mq mn mc me md mz km kr v w 1 (w5 hm5 c_5) (by decide)) (cwV 2 hts gX6_reciprocal_X6_at rfl rfl rfl (by decide +kernel) ⟨Nat.le_of_ble_eq_true rfl, Nat.le_of_ble_eq_true rfl⟩) hK hN hP 0 6 rfl rfl rfl [0, 2] rfl rfl hl.1 rfl (Nat.le_of_ble_eq_true rfl) dX6_reciprocal_17 ⟨Nat.zero_le _, Nat.zero_le _⟩ ?_
    refine lv_istore_n (lv' := [(2, .int (rg_val v w 1)), (0, .ref y), (1, .int w)]) hx hb dX6_reciprocal_20 rfl hl (by decide) rfl (fun ls hl => ?_)
    refine lv_iload_n hx hb dX6_reciprocal_21 rfl (lv_at hl 0 rfl) ?_
    refine lv_if_ne (tgt := 29) hx hb dX6_reciprocal_22 (by decide) (fun c_22 => ?_) (fun c_22 => ?_)
    · skip
      have hst : ¬ (rg_val v w 1).toInt64 = 0 := fun z9 => c_22 ((fa_wide_eq _ 0).mp z9)
      refine lv_iload_n hx hb dX6_reciprocal_29 rfl (lv_at hl 0 rfl) ?_
      refine lv_i2l hx hb dX6_reciprocal_30 rfl ?_
      refine lv_aload_n hx hb dX6_reciprocal_31 rfl (lv_at hl 1 rfl) ?_
      refine va_get (D := D) (ci := 6) (v := .int mq) (C := RX6) (T := TX6) (N := 22) hx hb hts (in_X6_reciprocal_X6) hown hK hP 0 rfl rfl 1 (by decide) (hts (.fieldLink RX6 13 "StepsRoundCircleModel" "round" "I") (by decide +kernel)) (fun _ h9 => h9) rfl dX6_reciprocal_32 ?_
      refine lv_i2l hx hb dX6_reciprocal_35 rfl ?_
      refine lv_aload_n hx hb dX6_reciprocal_36 rfl (lv_at hl 1 rfl) ?_
      refine va_get (D := D) (ci := 6) (v := .int mq) (C := RX6) (T := TX6) (N := 22) hx hb hts (in_X6_reciprocal_X6) hown hK hP 0 rfl rfl 1 (by decide) (hts (.fieldLink RX6 13 "StepsRoundCircleModel" "round" "I") (by decide +kernel)) (fun _ h9 => h9) rfl dX6_reciprocal_37 ?_
      refine lv_i2l hx hb dX6_reciprocal_40 rfl ?_
      refine lv_topl (fun z_41 hz_41 => ?_)
      have hz_41 : z_41 = lN mq.toNatClampNeg := hz_41.trans (wideN (okQ_0 hq))
      subst hz_41
      refine rdS (As := [.long ((rg_val v w 1).toInt64), .long mq.toInt64, .long (lN mq.toNatClampNeg)]) (rest := []) ⟨hx, hb, hml, hown, hts⟩ (c_X6_floorsOf l D cI cZ cR ((rg_val v w 1).toInt64) mq.toInt64 mq.toNatClampNeg (q_ne hq) (clamp_lt mq)) (va_cwS 3 hts gX6_reciprocal_X6_floorsOf rfl rfl rfl (by decide +kernel) ⟨Nat.le_of_ble_eq_true rfl, Nat.le_of_ble_eq_true rfl⟩) hK hN hP [] rfl rfl hl.1 rfl (Nat.le_of_ble_eq_true rfl) dX6_reciprocal_41 ⟨Nat.zero_le _, Nat.zero_le _⟩ ?_
      refine lv_aload_n hx hb dX6_reciprocal_44 rfl (lv_at hl 1 rfl) ?_
      refine va_get (D := D) (ci := 6) (v := .int mq) (C := RX6) (T := TX6) (N := 22) hx hb hts (in_X6_reciprocal_X6) hown hK hP 0 rfl rfl 1 (by decide) (hts (.fieldLink RX6 13 "StepsRoundCircleModel" "round" "I") (by decide +kernel)) (fun _ h9 => h9) rfl dX6_reciprocal_45 ?_
      refine lv_i2l hx hb dX6_reciprocal_48 rfl ?_
      refine lv_iload_n hx hb dX6_reciprocal_49 rfl (lv_at hl 0 rfl) ?_
      refine lv_i2l hx hb dX6_reciprocal_50 rfl ?_
      refine lv_iload_n hx hb dX6_reciprocal_51 rfl (lv_at hl 0 rfl) ?_
      refine lv_i2l hx hb dX6_reciprocal_52 rfl ?_
      refine lv_topl (fun z_53 hz_53 => ?_)
      have hz_53 : z_53 = lN (rg_val v w 1).toNatClampNeg := hz_53.trans (wideN (hws w c_5).2.1.1)
      subst hz_53
      refine rdS (As := [.long mq.toInt64, .long ((rg_val v w 1).toInt64), .long (lN (rg_val v w 1).toNatClampNeg)]) (rest := [.long (lsum (fun k => lq ((nI k).toInt64 * ((rg_val v w 1).toInt64)) mq.toInt64) mq.toNatClampNeg)]) ⟨hx, hb, hml, hown, hts⟩ (c_X6_floorsOf l D cI cZ cR mq.toInt64 ((rg_val v w 1).toInt64) ((rg_val v w 1).toNatClampNeg) hst (clamp_lt _)) (va_cwS 3 hts gX6_reciprocal_X6_floorsOf rfl rfl rfl (by decide +kernel) ⟨Nat.le_of_ble_eq_true rfl, Nat.le_of_ble_eq_true rfl⟩) hK hN hP [] rfl rfl hl.1 rfl (Nat.le_of_ble_eq_true rfl) dX6_reciprocal_53 ⟨Nat.zero_le _, Nat.zero_le _⟩ ?_
      refine lv_ladd hx hb dX6_reciprocal_56 ?_
      exact wrL (w1 := (fun (u : (Nat → Int32)) => [(y, .inr (6, [.ref yr, .int mq, .int mn, .ref yw, .ref yc, .int mc, .ref yl, .int me, .ref ys, .ref yp, .ref ym, .int md, .ref yo, .ref yk, .ref yt, .int mz, .ref yi, .ref yz, .ref yx, .ref yu, .int km, .int kr])), (yr, .inl (cI, 7, .inl u)), (yw, .inl (cI, 20, .inl v))])) G hx hb hr hlocks dX6_reciprocal_57 hS (hP.sub [0, 1, 2] rfl) (hD.sub [0, 1, 2] (by decide) rfl) (by rw [if_pos e0, if_pos e0]; exact ⟨rfl, rfl⟩)
    · skip
      refine lv_lconst (v := 0) hx hb dX6_reciprocal_25 (by decide) ?_
      refine lv_goto (tgt := 57) hx hb dX6_reciprocal_26 (by decide) ?_
      exact wrL (w1 := (fun (u : (Nat → Int32)) => [(y, .inr (6, [.ref yr, .int mq, .int mn, .ref yw, .ref yc, .int mc, .ref yl, .int me, .ref ys, .ref yp, .ref ym, .int md, .ref yo, .ref yk, .ref yt, .int mz, .ref yi, .ref yz, .ref yx, .ref yu, .int km, .int kr])), (yr, .inl (cI, 7, .inl u)), (yw, .inl (cI, 20, .inl v))])) G hx hb hr hlocks dX6_reciprocal_57 hS (hP.sub [0, 1, 2] rfl) (hD.sub [0, 1, 2] (by decide) rfl) (by rw [if_pos e0, if_pos e0]; refine ⟨?_, rfl⟩; rw [c_22, flo_0]; rfl)
  · skip
    have c_5 := bi_eq0.mp c_5
    refine lv_aload_n hx hb dX6_reciprocal_8 rfl (lv_at hl 0 rfl) ?_
    refine lv_iconst (v := (-1)) hx hb dX6_reciprocal_9 (by decide) ?_
    refine wrVl (As := [.int (-1)]) (rest := []) (wr := [(yw, .inl (cI, 20, .inl v))]) (A := A) ⟨hx, hb, hml, hown, hts⟩ (c_X6_noLong l D cI cZ cR y yr yw yc yl ys yp ym yo yk yt yi yz yx yu mq mn mc me md mz km kr G (-1) (by decide) s.heap.size) (cwV 1 hts gX6_reciprocal_X6_noLong rfl rfl rfl (by decide +kernel) ⟨Nat.le_of_ble_eq_true rfl, Nat.le_of_ble_eq_true rfl⟩) hK hN hP hD hS hA 0 6 rfl rfl rfl [0, 1] [2] rfl (by decide) rfl (by decide) (by decide) rfl hl.1 rfl (Nat.le_of_ble_eq_true rfl) dX6_reciprocal_10 ⟨Nat.zero_le _, Nat.zero_le _⟩ (fun r_10 u H locs hw hP hD hS => ?_)
    obtain ⟨G_10, rfl⟩ : ∃ z, z = u := ⟨_, rfl⟩
    try dsimp only at hw
    obtain ⟨q1_10, q2_10⟩ := hw
    have q1_10 := q1_10.symm
    subst q1_10
    have q2_10 := q2_10.symm
    subst q2_10
    have hP : va_P D vwCl [(y, .inr (6, [.ref yr, .int mq, .int mn, .ref yw, .ref yc, .int mc, .ref yl, .int me, .ref ys, .ref yp, .ref ym, .int md, .ref yo, .ref yk, .ref yt, .int mz, .ref yi, .ref yz, .ref yx, .ref yu, .int km, .int kr])), (yr, .inl (cI, 7, .inl (md_bump G (-1)))), (yw, .inl (cI, 20, .inl v))] H := hP.sub [1, 2, 0] rfl
    have hD : va_D A [(y, .inr (6, [.ref yr, .int mq, .int mn, .ref yw, .ref yc, .int mc, .ref yl, .int me, .ref ys, .ref yp, .ref ym, .int md, .ref yo, .ref yk, .ref yt, .int mz, .ref yi, .ref yz, .ref yx, .ref yu, .int km, .int kr])), (yr, .inl (cI, 7, .inl (md_bump G (-1)))), (yw, .inl (cI, 20, .inl v))] := hD.sub [1, 2, 0] (by decide) rfl
    exact wrL (w1 := (fun (u : (Nat → Int32)) => [(y, .inr (6, [.ref yr, .int mq, .int mn, .ref yw, .ref yc, .int mc, .ref yl, .int me, .ref ys, .ref yp, .ref ym, .int md, .ref yo, .ref yk, .ref yt, .int mz, .ref yi, .ref yz, .ref yx, .ref yu, .int km, .int kr])), (yr, .inl (cI, 7, .inl u)), (yw, .inl (cI, 20, .inl v))])) (md_bump G (-1)) hx hb hr hlocks dX6_reciprocal_13 hS (hP.sub [0, 1, 2] rfl) (hD.sub [0, 1, 2] (by decide) rfl) (by have e9 : rf_has mn w = -1 := (by unfold rf_has; rw [if_neg c_5]); simp [e9])
