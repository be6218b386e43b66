theorem in_X5_apart_X1 : ∀ w ∈ wsX10, w ∈ wsX5_apart := by decide +kernel
theorem in_X5_apart_X5 : ∀ w ∈ wsX50, w ∈ wsX5_apart := by decide +kernel
theorem in_X5_areTwo_X5 : ∀ w ∈ wsX50, w ∈ wsX5_areTwo := by decide +kernel
theorem in_X5_farFromStart_X1 : ∀ w ∈ wsX10, w ∈ wsX5_farFromStart := by decide +kernel
theorem in_X5_farFromStart_X5 : ∀ w ∈ wsX50, w ∈ wsX5_farFromStart := by decide +kernel
theorem in_X5_gapBehind_X1 : ∀ w ∈ wsX10, w ∈ wsX5_gapBehind := by decide +kernel
theorem in_X5_gapBehind_X3 : ∀ w ∈ wsX30, w ∈ wsX5_gapBehind := by decide +kernel
theorem in_X5_gapBehind_X5 : ∀ w ∈ wsX50, w ∈ wsX5_gapBehind := by decide +kernel
theorem in_X5_gapsOfLength_X3 : ∀ w ∈ wsX30, w ∈ wsX5_gapsOfLength := by decide +kernel
theorem in_X5_gapsOfLength_X5 : ∀ w ∈ wsX50, w ∈ wsX5_gapsOfLength := by decide +kernel
theorem in_X5_refusalOfCrowded_X5 : ∀ w ∈ wsX50, w ∈ wsX5_refusalOfCrowded := by decide +kernel
theorem in_X5_refusalOfNth_X5 : ∀ w ∈ wsX50, w ∈ wsX5_refusalOfNth := by decide +kernel
theorem in_X5_refusalOfNumber_X5 : ∀ w ∈ wsX50, w ∈ wsX5_refusalOfNumber := by decide +kernel
theorem in_X5_refuse_X5 : ∀ w ∈ wsX50, w ∈ wsX5_refuse := by decide +kernel
theorem in_X5_returnOf_X5 : ∀ w ∈ wsX50, w ∈ wsX5_returnOf := by decide +kernel
theorem in_X5_takeLengths_X3 : ∀ w ∈ wsX30, w ∈ wsX5_takeLengths := by decide +kernel
theorem in_X5_takeLengths_X5 : ∀ w ∈ wsX50, w ∈ wsX5_takeLengths := by decide +kernel
theorem in_X5_takeMarks_X5 : ∀ w ∈ wsX50, w ∈ wsX5_takeMarks := by decide +kernel
theorem in_X5_takePlaces_X5 : ∀ w ∈ wsX50, w ∈ wsX5_takePlaces := by decide +kernel
set_option maxHeartbeats 4000000 in
set_option maxRecDepth 100000 in
theorem c_X5_refuse (l : Launch) (D : va_G) (cI cZ cR : ClassId) (x r t im tx ch ro rf pl ot cl : Nat) (hi : Int32) (F : Nat → Int32) (n : Int32) (sz : Nat) : Met l yX5_refuse wsX5_refuse ({ frames := 1, cells := 0, slots := 0, locals := 21 }) (PcW D cI cZ cR [.ref x, .int n] [(x, .inr (5, [.ref r, .ref t, .ref im, .int hi, .ref tx, .ref ch, .ref ro, .ref rf, .ref pl, .ref ot, .ref cl])), (rf, .inl (cI, 6, .inl F))] sz) (va_Qi (fun (res : Int32) (u : (Nat → Int32)) => res = n ∧ u = rf_bump F n) (Bw D (fun (u : (Nat → Int32)) => [(x, .inr (5, [.ref r, .ref t, .ref im, .int hi, .ref tx, .ref ch, .ref ro, .ref rf, .ref pl, .ref ot, .ref cl])), (rf, .inl (cI, 6, .inl u))]) (va_A [(x, .inr (5, [.ref r, .ref t, .ref im, .int hi, .ref tx, .ref ch, .ref ro, .ref rf, .ref pl, .ref ot, .ref cl])), (rf, .inl (cI, 6, .inl F))] sz)) (va_A [(x, .inr (5, [.ref r, .ref t, .ref im, .int hi, .ref tx, .ref ch, .ref ro, .ref rf, .ref pl, .ref ot, .ref cl])), (rf, .inl (cI, 6, .inl F))] sz)) 0 0 (va_A [(x, .inr (5, [.ref r, .ref t, .ref im, .int hi, .ref tx, .ref ch, .ref ro, .ref rf, .ref pl, .ref ot, .ref cl])), (rf, .inl (cI, 6, .inl F))] sz) := by
  refine Met.ofW (cc := cX5_refuse) (maxL := 3) (ret := (some .int)) (by decide) rfl ?_
  intro p e s m args below meth c s₁ B hml hv
  obtain ⟨rfl, hsz, hP, hK, hD0, hN⟩ := hv
  have hx := B.exec
  have hb := B.bytes
  have hr := B.returns
  have hts := atoms_spec (ws := wsX5_refuse) B.pre
  have hown : s.vm.findClass RX5 = some m.cls := findClass_of_methodNamed B.named
  have hlocks := B.notSynchronized
  subst hsz
  have hD := hD0.self (sz := s.heap.size)
  generalize hAe : va_A [(x, .inr (5, [.ref r, .ref t, .ref im, .int hi, .ref tx, .ref ch, .ref ro, .ref rf, .ref pl, .ref ot, .ref cl])), (rf, .inl (cI, 6, .inl F))] s.heap.size = A at hD ⊢
  have hA : ∀ q : Nat, s.heap.size ≤ q → A q := fun q h => by rw [← hAe]; exact Or.inr h
  have hS : va_S A s.heap s.heap [] := va_S.rf
  have hP : va_P D vwCl [(x, .inr (5, [.ref r, .ref t, .ref im, .int hi, .ref tx, .ref ch, .ref ro, .ref rf, .ref pl, .ref ot, .ref cl])), (rf, .inl (cI, 6, .inl F))] s.heap := hP
  have hl := lv_entry ([.ref x, .int n]) (n := 3) (Nat.le_of_ble_eq_true rfl)
  rw [lg_entry_eq]
  generalize (lg_sl ([.ref x, .int n]) ++ List.replicate (3 - (lg_sl ([.ref x, .int n])).length) Slot.unset).toArray = ls at hl ⊢
  have hl : lv_has ls 3 [(0, .ref x), (1, .int n)] := hl
  refine lv_iload_n hx hb dX5_refuse_0 rfl (lv_at hl 1 rfl) ?_
  refine lv_ineg hx hb dX5_refuse_1 ?_
  refine lv_iconst (v := 1) hx hb dX5_refuse_2 (by decide) ?_
  refine lv_isub hx hb dX5_refuse_3 ?_
  refine lv_istore_n (lv' := [(2, .int ((-n) - 1)), (0, .ref x), (1, .int n)]) hx hb dX5_refuse_4 rfl hl (by decide) rfl (fun ls hl => ?_)
  refine lv_iload_n hx hb dX5_refuse_5 rfl (lv_at hl 0 rfl) ?_
  refine lv_aload_n hx hb dX5_refuse_6 rfl (lv_at hl 1 rfl) ?_
  refine va_get (D := D) (ci := 5) (v := .ref rf) (C := RX5) (T := TX5) (N := 11) hx hb hts (in_X5_refuse_X5) hown hK hP 0 rfl rfl 7 (by decide) (hts (.fieldLink RX5 46 "StepsRoundCircle" "refusals" "[I") (by decide +kernel)) (fun _ h9 => h9) rfl dX5_refuse_7 ?_
  refine va_alen (v := 6) hx hb hK hP 1 0 rfl rfl rfl dX5_refuse_10 ?_
  refine rdS (As := [.int ((-n) - 1), .int 6]) (rest := []) ⟨hx, hb, hml, hown, hts⟩ (c_X5_isBelow l D cI cZ cR ((-n) - 1) 6 ) (va_cwS 2 hts gX5_refuse_X5_isBelow rfl rfl rfl (by decide +kernel) ⟨Nat.le_of_ble_eq_true rfl, Nat.le_of_ble_eq_true rfl⟩) hK hN hP [] rfl rfl hl.1 rfl (Nat.le_of_ble_eq_true rfl) dX5_refuse_11 ⟨Nat.zero_le _, Nat.zero_le _⟩ ?_
  refine lv_if_eq (tgt := 27) hx hb dX5_refuse_14 (by decide) (fun c_14 => ?_) (fun c_14 => ?_)
  · skip
    have c_14 := bi_eq0.mp c_14
    refine lv_iload_n hx hb dX5_refuse_27 rfl (lv_at hl 2 rfl) ?_
    exact wrI (w1 := (fun (u : (Nat → Int32)) => [(x, .inr (5, [.ref r, .ref t, .ref im, .int hi, .ref tx, .ref ch, .ref ro, .ref rf, .ref pl, .ref ot, .ref cl])), (rf, .inl (cI, 6, .inl u))])) F hx hb hr hlocks dX5_refuse_28 hS (hP.sub [0, 1] rfl) (hD.sub [0, 1] (by decide) rfl) (by first | exact ⟨rfl, rfl⟩ | rfl | (simp [bi, rf_bump, c_14]; done))
  · skip
    have c_14 := bi_ne0.mp c_14
    refine lv_aload_n hx hb dX5_refuse_17 rfl (lv_at hl 1 rfl) ?_
    refine va_get (D := D) (ci := 5) (v := .ref rf) (C := RX5) (T := TX5) (N := 11) hx hb hts (in_X5_refuse_X5) hown hK hP 0 rfl rfl 7 (by decide) (hts (.fieldLink RX5 46 "StepsRoundCircle" "refusals" "[I") (by decide +kernel)) (fun _ h9 => h9) rfl dX5_refuse_18 ?_
    refine lv_iload_n hx hb dX5_refuse_21 rfl (lv_at hl 0 rfl) ?_
    refine lv_dup2_11 hx hb dX5_refuse_22 rfl rfl ?_
    refine va_iald hx hb hK hP 1 0 rfl rfl (vp_lit (n := 6) (by decide) c_14) dX5_refuse_23 ?_
    refine lv_iconst (v := 1) hx hb dX5_refuse_24 (by decide) ?_
    refine lv_iadd hx hb dX5_refuse_25 ?_
    refine va_iast hx hb hK hP hD hS 1 0 rfl rfl (vp_lit (n := 6) (by decide) c_14) dX5_refuse_26 (fun H locs hP hD hS => ?_)
    have hP : va_P D vwCl [(x, .inr (5, [.ref r, .ref t, .ref im, .int hi, .ref tx, .ref ch, .ref ro, .ref rf, .ref pl, .ref ot, .ref cl])), (rf, .inl (cI, 6, .inl (upd F (((-n) - 1).toNatClampNeg) ((F (((-n) - 1).toNatClampNeg)) + 1))))] H := hP
    have hD : va_D A [(x, .inr (5, [.ref r, .ref t, .ref im, .int hi, .ref tx, .ref ch, .ref ro, .ref rf, .ref pl, .ref ot, .ref cl])), (rf, .inl (cI, 6, .inl (upd F (((-n) - 1).toNatClampNeg) ((F (((-n) - 1).toNatClampNeg)) + 1))))] := hD
    refine lv_iload_n hx hb dX5_refuse_27 rfl (lv_at hl 2 rfl) ?_
    exact wrI (w1 := (fun (u : (Nat → Int32)) => [(x, .inr (5, [.ref r, .ref t, .ref im, .int hi, .ref tx, .ref ch, .ref ro, .ref rf, .ref pl, .ref ot, .ref cl])), (rf, .inl (cI, 6, .inl u))])) (upd F (((-n) - 1).toNatClampNeg) ((F (((-n) - 1).toNatClampNeg)) + 1)) hx hb hr hlocks dX5_refuse_28 hS (hP.sub [0, 1] rfl) (hD.sub [0, 1] (by decide) rfl) (by first | exact ⟨rfl, rfl⟩ | rfl | (simp [bi, rf_bump, c_14]; done))

set_option maxHeartbeats 4000000 in
set_option maxRecDepth 100000 in
theorem c_X5_refuseLong (l : Launch) (D : va_G) (cI cZ cR : ClassId) (x r t im tx ch ro rf pl ot cl : Nat) (hi : Int32) (F : Nat → Int32) (n : Int32) (sz : Nat) : Met l yX5_refuseLong wsX5_refuseLong ({ frames := 2, cells := 0, slots := 0, locals := 43 }) (PcW D cI cZ cR [.ref x, .int n] [(x, .inr (5, [.ref r, .ref t, .ref im, .int hi, .ref tx, .ref ch, .ref ro, .ref rf, .ref pl, .ref ot, .ref cl])), (rf, .inl (cI, 6, .inl F))] sz) (va_Ql (fun (res : Int64) (u : (Nat → Int32)) => res = 4000000000000000000 - n.toInt64 ∧ u = rf_bump F n) (Bw D (fun (u : (Nat → Int32)) => [(x, .inr (5, [.ref r, .ref t, .ref im, .int hi, .ref tx, .ref ch, .ref ro, .ref rf, .ref pl, .ref ot, .ref cl])), (rf, .inl (cI, 6, .inl u))]) (va_A [(x, .inr (5, [.ref r, .ref t, .ref im, .int hi, .ref tx, .ref ch, .ref ro, .ref rf, .ref pl, .ref ot, .ref cl])), (rf, .inl (cI, 6, .inl F))] sz)) (va_A [(x, .inr (5, [.ref r, .ref t, .ref im, .int hi, .ref tx, .ref ch, .ref ro, .ref rf, .ref pl, .ref ot, .ref cl])), (rf, .inl (cI, 6, .inl F))] sz)) 0 0 (va_A [(x, .inr (5, [.ref r, .ref t, .ref im, .int hi, .ref tx, .ref ch, .ref ro, .ref rf, .ref pl, .ref ot, .ref cl])), (rf, .inl (cI, 6, .inl F))] sz) := by
  refine Met.ofW (cc := cX5_refuseLong) (maxL := 2) (ret := (some .long)) (by decide) rfl ?_
  intro p e s m args below meth c s₁ B hml hv
  obtain ⟨rfl, hsz, hP, hK, hD0, hN⟩ := hv
  have hx := B.exec
  have hb := B.bytes
  have hr := B.returns
  have hts := atoms_spec (ws := wsX5_refuseLong) B.pre
  have hown : s.vm.findClass RX5 = some m.cls := findClass_of_methodNamed B.named
  have hlocks := B.notSynchronized
  subst hsz
  have hD := hD0.self (sz := s.heap.size)
  generalize hAe : va_A [(x, .inr (5, [.ref r, .ref t, .ref im, .int hi, .ref tx, .ref ch, .ref ro, .ref rf, .ref pl, .ref ot, .ref cl])), (rf, .inl (cI, 6, .inl F))] s.heap.size = A at hD ⊢
  have hA : ∀ q : Nat, s.heap.size ≤ q → A q := fun q h => by rw [← hAe]; exact Or.inr h
  have hS : va_S A s.heap s.heap [] := va_S.rf
  have hP : va_P D vwCl [(x, .inr (5, [.ref r, .ref t, .ref im, .int hi, .ref tx, .ref ch, .ref ro, .ref rf, .ref pl, .ref ot, .ref cl])), (rf, .inl (cI, 6, .inl F))] s.heap := hP
  have hl := lv_entry ([.ref x, .int n]) (n := 2) (Nat.le_of_ble_eq_true rfl)
  rw [lg_entry_eq]
  generalize (lg_sl ([.ref x, .int n]) ++ List.replicate (2 - (lg_sl ([.ref x, .int n])).length) Slot.unset).toArray = ls at hl ⊢
  have hl : lv_has ls 2 [(0, .ref x), (1, .int n)] := hl
  refine lv_ldc2 (v := 4000000000000000000) hx hb hown (hts (.constantLong RX5 292 4000000000000000000) (by decide +kernel)) dX5_refuseLong_0 ?_
  refine lv_aload_n hx hb dX5_refuseLong_3 rfl (lv_at hl 0 rfl) ?_
  refine lv_iload_n hx hb dX5_refuseLong_4 rfl (lv_at hl 1 rfl) ?_
  refine wrVi (As := [.int n]) (rest := [.long 4000000000000000000]) (wr := []) (A := A) ⟨hx, hb, hml, hown, hts⟩ (c_X5_refuse l D cI cZ cR x r t im tx ch ro rf pl ot cl hi F n  s.heap.size) (cwV 1 hts gX5_refuseLong_X5_refuse rfl rfl rfl (by decide +kernel) ⟨Nat.le_of_ble_eq_true rfl, Nat.le_of_ble_eq_true rfl⟩) hK hN hP hD hS hA 0 5 rfl rfl rfl [0, 1] [] rfl (by decide) rfl (by decide) (by decide) rfl hl.1 rfl (Nat.le_of_ble_eq_true rfl) dX5_refuseLong_5 ⟨Nat.zero_le _, Nat.zero_le _⟩ (fun r_5 u H locs hw hP hD hS => ?_)
  obtain ⟨F_5, rfl⟩ : ∃ z, z = u := ⟨_, rfl⟩
  try dsimp only at hw
  obtain ⟨q1_5, q2_5⟩ := hw
  have q1_5 := q1_5.symm
  subst q1_5
  have q2_5 := q2_5.symm
  subst q2_5
  have hP : va_P D vwCl [(x, .inr (5, [.ref r, .ref t, .ref im, .int hi, .ref tx, .ref ch, .ref ro, .ref rf, .ref pl, .ref ot, .ref cl])), (rf, .inl (cI, 6, .inl (rf_bump F n)))] H := hP.sub [0, 1] rfl
  have hD : va_D A [(x, .inr (5, [.ref r, .ref t, .ref im, .int hi, .ref tx, .ref ch, .ref ro, .ref rf, .ref pl, .ref ot, .ref cl])), (rf, .inl (cI, 6, .inl (rf_bump F n)))] := hD.sub [0, 1] (by decide) rfl
  refine lv_i2l hx hb dX5_refuseLong_8 rfl ?_
  refine lv_lsub hx hb dX5_refuseLong_9 ?_
  exact wrL (w1 := (fun (u : (Nat → Int32)) => [(x, .inr (5, [.ref r, .ref t, .ref im, .int hi, .ref tx, .ref ch, .ref ro, .ref rf, .ref pl, .ref ot, .ref cl])), (rf, .inl (cI, 6, .inl u))])) (rf_bump F n) hx hb hr hlocks dX5_refuseLong_10 hS (hP.sub [0, 1] rfl) (hD.sub [0, 1] (by decide) rfl) (by first | exact ⟨rfl, rfl⟩ | rfl | (simp [bi]; done))

set_option maxHeartbeats 4000000 in
set_option maxRecDepth 100000 in
theorem c_X5_refusalOfNumber (l : Launch) (D : va_G) (cI cZ cR : ClassId) (x r t im tx ch ro rf pl ot cl : Nat) (hi : Int32) (rn : Nat) (q nw : Int32) (v : Nat → Int32) (w n lo up : Int32) : Met l yX5_refusalOfNumber wsX5_refusalOfNumber ({ frames := 2, cells := 0, slots := 0, locals := 42 }) (PcR D cI cZ cR [.ref x, .int w, .int n, .int lo, .int up] [(x, .inr (5, [.ref r, .ref t, .ref im, .int hi, .ref tx, .ref ch, .ref ro, .ref rf, .ref pl, .ref ot, .ref cl])), (r, .inr (1, [.int q, .int nw, .ref rn])), (rn, .inl (cI, 20, .inl v))]) (k2_QcV (.int (rf_num nw w n lo up))) 0 0 (fun _ => False) := by
  refine Met.ofW (cc := cX5_refusalOfNumber) (maxL := 5) (ret := (some .int)) (by decide) rfl ?_
  intro p e s m args below meth c s₁ B hml hv
  obtain ⟨rfl, hP, hK, hN⟩ := hv
  have hx := B.exec
  have hb := B.bytes
  have hr := B.returns
  have hts := atoms_spec (ws := wsX5_refusalOfNumber) B.pre
  have hown : s.vm.findClass RX5 = some m.cls := findClass_of_methodNamed B.named
  have hlocks := B.notSynchronized
  have hP : va_P D vwCl [(x, .inr (5, [.ref r, .ref t, .ref im, .int hi, .ref tx, .ref ch, .ref ro, .ref rf, .ref pl, .ref ot, .ref cl])), (r, .inr (1, [.int q, .int nw, .ref rn])), (rn, .inl (cI, 20, .inl v))] s.heap := hP
  have hl := lv_entry ([.ref x, .int w, .int n, .int lo, .int up]) (n := 5) (Nat.le_of_ble_eq_true rfl)
  rw [lg_entry_eq]
  generalize (lg_sl ([.ref x, .int w, .int n, .int lo, .int up]) ++ List.replicate (5 - (lg_sl ([.ref x, .int w, .int n, .int lo, .int up])).length) Slot.unset).toArray = ls at hl ⊢
  have hl : lv_has ls 5 [(0, .ref x), (1, .int w), (2, .int n), (3, .int lo), (4, .int up)] := hl
  refine lv_aload_n hx hb dX5_refusalOfNumber_0 rfl (lv_at hl 0 rfl) ?_
  refine va_get (D := D) (ci := 5) (v := .ref r) (C := RX5) (T := TX5) (N := 11) hx hb hts (in_X5_refusalOfNumber_X5) hown hK hP 0 rfl rfl 0 (by decide) (hts (.fieldLink RX5 10 "StepsRoundCircle" "ring" "LStepsRoundCircle$Ring;") (by decide +kernel)) (fun _ h9 => h9) rfl dX5_refusalOfNumber_1 ?_
  refine lv_iload_n hx hb dX5_refusalOfNumber_4 rfl (lv_at hl 1 rfl) ?_
  refine rdV (As := [.int w]) (rest := []) ⟨hx, hb, hml, hown, hts⟩ (c_X1_has l D cI cZ cR r rn q nw v w ) (cwV 1 hts gX5_refusalOfNumber_X1_has rfl rfl rfl (by decide +kernel) ⟨Nat.le_of_ble_eq_true rfl, Nat.le_of_ble_eq_true rfl⟩) hK hN hP 1 1 rfl rfl rfl [1, 2] rfl rfl hl.1 rfl (Nat.le_of_ble_eq_true rfl) dX5_refusalOfNumber_5 ⟨Nat.zero_le _, Nat.zero_le _⟩ ?_
  refine lv_if_ne (tgt := 13) hx hb dX5_refusalOfNumber_8 (by decide) (fun c_8 => ?_) (fun c_8 => ?_)
  · skip
    have c_8 := bi_ne0.mp c_8
    refine lv_iload_n hx hb dX5_refusalOfNumber_13 rfl (lv_at hl 2 rfl) ?_
    refine lv_iload_n hx hb dX5_refusalOfNumber_14 rfl (lv_at hl 3 rfl) ?_
    refine lv_icmp_ge (tgt := 21) hx hb dX5_refusalOfNumber_15 (by decide) (fun c_15 => ?_) (fun c_15 => ?_)
    · skip
      refine lv_iload_n hx hb dX5_refusalOfNumber_21 rfl (lv_at hl 2 rfl) ?_
      refine lv_iload hx hb dX5_refusalOfNumber_22 (lv_at hl 4 rfl) ?_
      refine lv_icmp_le (tgt := 32) hx hb dX5_refusalOfNumber_24 (by decide) (fun c_24 => ?_) (fun c_24 => ?_)
      · skip
        refine lv_iconst (v := 0) hx hb dX5_refusalOfNumber_32 (by decide) ?_
        exact rdI hx hb hr hlocks dX5_refusalOfNumber_33 (by first | rfl | (simp [bi, rf_num, c_8, c_15, Int32.not_lt.mpr c_15, c_24, Int32.not_lt.mpr c_24]; done))
      · skip
        refine lv_bipush (v := (-6)) hx hb dX5_refusalOfNumber_27 (by decide) ?_
        refine lv_goto (tgt := 33) hx hb dX5_refusalOfNumber_29 (by decide) ?_
        exact rdI hx hb hr hlocks dX5_refusalOfNumber_33 (by first | rfl | (simp [bi, rf_num, c_8, c_15, Int32.not_lt.mpr c_15, c_24, Int32.not_le.mp c_24]; done))
    · skip
      refine lv_bipush (v := (-4)) hx hb dX5_refusalOfNumber_18 (by decide) ?_
      exact rdI hx hb hr hlocks dX5_refusalOfNumber_20 (by first | rfl | (simp [bi, rf_num, c_8, c_15, Int32.not_le.mp c_15]; done))
  · skip
    have c_8 := bi_eq0.mp c_8
    refine lv_iconst (v := (-1)) hx hb dX5_refusalOfNumber_11 (by decide) ?_
    exact rdI hx hb hr hlocks dX5_refusalOfNumber_12 (by first | rfl | (simp [bi, rf_num, c_8]; done))

set_option maxHeartbeats 4000000 in
set_option maxRecDepth 100000 in
theorem c_X5_refusalBehind (l : Launch) (D : va_G) (cI cZ cR : ClassId) (x r t im tx ch ro rf pl ot cl : Nat) (hi : Int32) (rn : Nat) (q nw : Int32) (v : Nat → Int32) (w n k ks : Int32) : Met l yX5_refusalBehind wsX5_refusalBehind ({ frames := 3, cells := 0, slots := 0, locals := 66 }) (PcR D cI cZ cR [.ref x, .int w, .int n, .int k, .int ks] [(x, .inr (5, [.ref r, .ref t, .ref im, .int hi, .ref tx, .ref ch, .ref ro, .ref rf, .ref pl, .ref ot, .ref cl])), (r, .inr (1, [.int q, .int nw, .ref rn])), (rn, .inl (cI, 20, .inl v))]) (k2_QcV (.int (rf_beh nw w n k ks))) 0 0 (fun _ => False) := by
  refine Met.ofW (cc := cX5_refusalBehind) (maxL := 6) (ret := (some .int)) (by decide) rfl ?_
  intro p e s m args below meth c s₁ B hml hv
  obtain ⟨rfl, hP, hK, hN⟩ := hv
  have hx := B.exec
  have hb := B.bytes
  have hr := B.returns
  have hts := atoms_spec (ws := wsX5_refusalBehind) B.pre
  have hown : s.vm.findClass RX5 = some m.cls := findClass_of_methodNamed B.named
  have hlocks := B.notSynchronized
  have hP : va_P D vwCl [(x, .inr (5, [.ref r, .ref t, .ref im, .int hi, .ref tx, .ref ch, .ref ro, .ref rf, .ref pl, .ref ot, .ref cl])), (r, .inr (1, [.int q, .int nw, .ref rn])), (rn, .inl (cI, 20, .inl v))] s.heap := hP
  have hl := lv_entry ([.ref x, .int w, .int n, .int k, .int ks]) (n := 6) (Nat.le_of_ble_eq_true rfl)
  rw [lg_entry_eq]
  generalize (lg_sl ([.ref x, .int w, .int n, .int k, .int ks]) ++ List.replicate (6 - (lg_sl ([.ref x, .int w, .int n, .int k, .int ks])).length) Slot.unset).toArray = ls at hl ⊢
  have hl : lv_has ls 6 [(0, .ref x), (1, .int w), (2, .int n), (3, .int k), (4, .int ks)] := hl
  refine lv_aload_n hx hb dX5_refusalBehind_0 rfl (lv_at hl 0 rfl) ?_
  refine lv_iload_n hx hb dX5_refusalBehind_1 rfl (lv_at hl 1 rfl) ?_
  refine lv_iload_n hx hb dX5_refusalBehind_2 rfl (lv_at hl 2 rfl) ?_
  refine lv_iconst (v := 1) hx hb dX5_refusalBehind_3 (by decide) ?_
  refine lv_sipush (v := 200) hx hb dX5_refusalBehind_4 (by decide) ?_
  refine rdV (As := [.int w, .int n, .int 1, .int 200]) (rest := []) ⟨hx, hb, hml, hown, hts⟩ (c_X5_refusalOfNumber l D cI cZ cR x r t im tx ch ro rf pl ot cl hi rn q nw v w n 1 200 ) (cwV 4 hts gX5_refusalBehind_X5_refusalOfNumber rfl rfl rfl (by decide +kernel) ⟨Nat.le_of_ble_eq_true rfl, Nat.le_of_ble_eq_true rfl⟩) hK hN hP 0 5 rfl rfl rfl [0, 1, 2] rfl rfl hl.1 rfl (Nat.le_of_ble_eq_true rfl) dX5_refusalBehind_7 ⟨Nat.zero_le _, Nat.zero_le _⟩ ?_
  refine lv_istore (lv' := [(5, .int (rf_num nw w n 1 200)), (0, .ref x), (1, .int w), (2, .int n), (3, .int k), (4, .int ks)]) hx hb dX5_refusalBehind_10 hl (by decide) rfl (fun ls hl => ?_)
  refine lv_iload hx hb dX5_refusalBehind_12 (lv_at hl 0 rfl) ?_
  refine lv_if_eq (tgt := 20) hx hb dX5_refusalBehind_14 (by decide) (fun c_14 => ?_) (fun c_14 => ?_)
  · skip
    refine lv_iload_n hx hb dX5_refusalBehind_20 rfl (lv_at hl 4 rfl) ?_
    refine lv_iload hx hb dX5_refusalBehind_21 (lv_at hl 5 rfl) ?_
    refine rdS (As := [.int k, .int ks]) (rest := []) ⟨hx, hb, hml, hown, hts⟩ (c_X5_isBelow l D cI cZ cR k ks ) (va_cwS 2 hts gX5_refusalBehind_X5_isBelow rfl rfl rfl (by decide +kernel) ⟨Nat.le_of_ble_eq_true rfl, Nat.le_of_ble_eq_true rfl⟩) hK hN hP [] rfl rfl hl.1 rfl (Nat.le_of_ble_eq_true rfl) dX5_refusalBehind_23 ⟨Nat.zero_le _, Nat.zero_le _⟩ ?_
    refine lv_if_eq (tgt := 33) hx hb dX5_refusalBehind_26 (by decide) (fun c_26 => ?_) (fun c_26 => ?_)
    · skip
      have c_26 := bi_eq0.mp c_26
      refine lv_bipush (v := (-2)) hx hb dX5_refusalBehind_33 (by decide) ?_
      exact rdI hx hb hr hlocks dX5_refusalBehind_35 (by first | rfl | (simp [bi, rf_beh, c_14, c_26]; done))
    · skip
      have c_26 := bi_ne0.mp c_26
      refine lv_iconst (v := 0) hx hb dX5_refusalBehind_29 (by decide) ?_
      refine lv_goto (tgt := 35) hx hb dX5_refusalBehind_30 (by decide) ?_
      exact rdI hx hb hr hlocks dX5_refusalBehind_35 (by first | rfl | (simp [bi, rf_beh, c_14, c_26]; done))
  · skip
    refine lv_iload hx hb dX5_refusalBehind_17 (lv_at hl 0 rfl) ?_
    exact rdI hx hb hr hlocks dX5_refusalBehind_19 (by first | rfl | (simp [bi, rf_beh, c_14]; done))

set_option maxHeartbeats 4000000 in
set_option maxRecDepth 100000 in
theorem c_X5_refusalOfNth (l : Launch) (D : va_G) (cI cZ cR : ClassId) (x r t im tx ch ro rf pl ot cl : Nat) (hi : Int32) (rn : Nat) (q nw : Int32) (v : Nat → Int32) (w n j lo : Int32) : Met l yX5_refusalOfNth wsX5_refusalOfNth ({ frames := 2, cells := 0, slots := 0, locals := 42 }) (PcR D cI cZ cR [.ref x, .int w, .int n, .int j, .int lo] [(x, .inr (5, [.ref r, .ref t, .ref im, .int hi, .ref tx, .ref ch, .ref ro, .ref rf, .ref pl, .ref ot, .ref cl])), (r, .inr (1, [.int q, .int nw, .ref rn])), (rn, .inl (cI, 20, .inl v))]) (k2_QcV (.int (rf_nth nw w n j lo))) 0 0 (fun _ => False) := by
  refine Met.ofW (cc := cX5_refusalOfNth) (maxL := 5) (ret := (some .int)) (by decide) rfl ?_
  intro p e s m args below meth c s₁ B hml hv
  obtain ⟨rfl, hP, hK, hN⟩ := hv
  have hx := B.exec
  have hb := B.bytes
  have hr := B.returns
  have hts := atoms_spec (ws := wsX5_refusalOfNth) B.pre
  have hown : s.vm.findClass RX5 = some m.cls := findClass_of_methodNamed B.named
  have hlocks := B.notSynchronized
  have hP : va_P D vwCl [(x, .inr (5, [.ref r, .ref t, .ref im, .int hi, .ref tx, .ref ch, .ref ro, .ref rf, .ref pl, .ref ot, .ref cl])), (r, .inr (1, [.int q, .int nw, .ref rn])), (rn, .inl (cI, 20, .inl v))] s.heap := hP
  have hl := lv_entry ([.ref x, .int w, .int n, .int j, .int lo]) (n := 5) (Nat.le_of_ble_eq_true rfl)
  rw [lg_entry_eq]
  generalize (lg_sl ([.ref x, .int w, .int n, .int j, .int lo]) ++ List.replicate (5 - (lg_sl ([.ref x, .int w, .int n, .int j, .int lo])).length) Slot.unset).toArray = ls at hl ⊢
  have hl : lv_has ls 5 [(0, .ref x), (1, .int w), (2, .int n), (3, .int j), (4, .int lo)] := hl
  refine lv_aload_n hx hb dX5_refusalOfNth_0 rfl (lv_at hl 0 rfl) ?_
  refine va_get (D := D) (ci := 5) (v := .ref r) (C := RX5) (T := TX5) (N := 11) hx hb hts (in_X5_refusalOfNth_X5) hown hK hP 0 rfl rfl 0 (by decide) (hts (.fieldLink RX5 10 "StepsRoundCircle" "ring" "LStepsRoundCircle$Ring;") (by decide +kernel)) (fun _ h9 => h9) rfl dX5_refusalOfNth_1 ?_
  refine lv_iload_n hx hb dX5_refusalOfNth_4 rfl (lv_at hl 1 rfl) ?_
  refine rdV (As := [.int w]) (rest := []) ⟨hx, hb, hml, hown, hts⟩ (c_X1_has l D cI cZ cR r rn q nw v w ) (cwV 1 hts gX5_refusalOfNth_X1_has rfl rfl rfl (by decide +kernel) ⟨Nat.le_of_ble_eq_true rfl, Nat.le_of_ble_eq_true rfl⟩) hK hN hP 1 1 rfl rfl rfl [1, 2] rfl rfl hl.1 rfl (Nat.le_of_ble_eq_true rfl) dX5_refusalOfNth_5 ⟨Nat.zero_le _, Nat.zero_le _⟩ ?_
  refine lv_if_ne (tgt := 13) hx hb dX5_refusalOfNth_8 (by decide) (fun c_8 => ?_) (fun c_8 => ?_)
  · skip
    have c_8 := bi_ne0.mp c_8
    refine lv_iload_n hx hb dX5_refusalOfNth_13 rfl (lv_at hl 2 rfl) ?_
    refine lv_iconst (v := 1) hx hb dX5_refusalOfNth_14 (by decide) ?_
    refine lv_icmp_lt (tgt := 24) hx hb dX5_refusalOfNth_15 (by decide) (fun c_15 => ?_) (fun c_15 => ?_)
    · skip
      refine lv_bipush (v := (-4)) hx hb dX5_refusalOfNth_24 (by decide) ?_
      exact rdI hx hb hr hlocks dX5_refusalOfNth_26 (by first | rfl | (simp [bi, rf_nth, c_8, c_15, Int32.not_le.mpr c_15]; done))
    · skip
      refine lv_iload_n hx hb dX5_refusalOfNth_18 rfl (lv_at hl 3 rfl) ?_
      refine lv_iload hx hb dX5_refusalOfNth_19 (lv_at hl 4 rfl) ?_
      refine lv_icmp_ge (tgt := 27) hx hb dX5_refusalOfNth_21 (by decide) (fun c_21 => ?_) (fun c_21 => ?_)
      · skip
        refine lv_iload_n hx hb dX5_refusalOfNth_27 rfl (lv_at hl 2 rfl) ?_
        refine lv_sipush (v := 200) hx hb dX5_refusalOfNth_28 (by decide) ?_
        refine lv_icmp_le (tgt := 39) hx hb dX5_refusalOfNth_31 (by decide) (fun c_31 => ?_) (fun c_31 => ?_)
        · skip
          refine lv_iconst (v := 0) hx hb dX5_refusalOfNth_39 (by decide) ?_
          exact rdI hx hb hr hlocks dX5_refusalOfNth_40 (by first | rfl | (simp [bi, rf_nth, c_8, c_15, Int32.not_lt.mp c_15, c_21, Int32.not_lt.mpr c_21, c_31, Int32.not_lt.mpr c_31]; done))
        · skip
          refine lv_bipush (v := (-6)) hx hb dX5_refusalOfNth_34 (by decide) ?_
          refine lv_goto (tgt := 40) hx hb dX5_refusalOfNth_36 (by decide) ?_
          exact rdI hx hb hr hlocks dX5_refusalOfNth_40 (by first | rfl | (simp [bi, rf_nth, c_8, c_15, Int32.not_lt.mp c_15, c_21, Int32.not_lt.mpr c_21, c_31, Int32.not_le.mp c_31]; done))
      · skip
        refine lv_bipush (v := (-4)) hx hb dX5_refusalOfNth_24 (by decide) ?_
        exact rdI hx hb hr hlocks dX5_refusalOfNth_26 (by first | rfl | (simp [bi, rf_nth, c_8, c_15, Int32.not_lt.mp c_15, c_21, Int32.not_le.mp c_21]; done))
  · skip
    have c_8 := bi_eq0.mp c_8
    refine lv_iconst (v := (-1)) hx hb dX5_refusalOfNth_11 (by decide) ?_
    exact rdI hx hb hr hlocks dX5_refusalOfNth_12 (by first | rfl | (simp [bi, rf_nth, c_8]; done))

set_option maxHeartbeats 4000000 in
set_option maxRecDepth 100000 in
theorem c_X5_refusalOfCrowded (l : Launch) (D : va_G) (cI cZ cR : ClassId) (x r t im tx ch ro rf pl ot cl : Nat) (hi : Int32) (rn : Nat) (q nw : Int32) (v : Nat → Int32) (w n mo k : Int32) : Met l yX5_refusalOfCrowded wsX5_refusalOfCrowded ({ frames := 2, cells := 0, slots := 0, locals := 42 }) (PcR D cI cZ cR [.ref x, .int w, .int n, .int mo, .int k] [(x, .inr (5, [.ref r, .ref t, .ref im, .int hi, .ref tx, .ref ch, .ref ro, .ref rf, .ref pl, .ref ot, .ref cl])), (r, .inr (1, [.int q, .int nw, .ref rn])), (rn, .inl (cI, 20, .inl v))]) (k2_QcV (.int (rf_cro nw w n mo k))) 0 0 (fun _ => False) := by
  refine Met.ofW (cc := cX5_refusalOfCrowded) (maxL := 5) (ret := (some .int)) (by decide) rfl ?_
  intro p e s m args below meth c s₁ B hml hv
  obtain ⟨rfl, hP, hK, hN⟩ := hv
  have hx := B.exec
  have hb := B.bytes
  have hr := B.returns
  have hts := atoms_spec (ws := wsX5_refusalOfCrowded) B.pre
  have hown : s.vm.findClass RX5 = some m.cls := findClass_of_methodNamed B.named
  have hlocks := B.notSynchronized
  have hP : va_P D vwCl [(x, .inr (5, [.ref r, .ref t, .ref im, .int hi, .ref tx, .ref ch, .ref ro, .ref rf, .ref pl, .ref ot, .ref cl])), (r, .inr (1, [.int q, .int nw, .ref rn])), (rn, .inl (cI, 20, .inl v))] s.heap := hP
  have hl := lv_entry ([.ref x, .int w, .int n, .int mo, .int k]) (n := 5) (Nat.le_of_ble_eq_true rfl)
  rw [lg_entry_eq]
  generalize (lg_sl ([.ref x, .int w, .int n, .int mo, .int k]) ++ List.replicate (5 - (lg_sl ([.ref x, .int w, .int n, .int mo, .int k])).length) Slot.unset).toArray = ls at hl ⊢
  have hl : lv_has ls 5 [(0, .ref x), (1, .int w), (2, .int n), (3, .int mo), (4, .int k)] := hl
  refine lv_aload_n hx hb dX5_refusalOfCrowded_0 rfl (lv_at hl 0 rfl) ?_
  refine va_get (D := D) (ci := 5) (v := .ref r) (C := RX5) (T := TX5) (N := 11) hx hb hts (in_X5_refusalOfCrowded_X5) hown hK hP 0 rfl rfl 0 (by decide) (hts (.fieldLink RX5 10 "StepsRoundCircle" "ring" "LStepsRoundCircle$Ring;") (by decide +kernel)) (fun _ h9 => h9) rfl dX5_refusalOfCrowded_1 ?_
  refine lv_iload_n hx hb dX5_refusalOfCrowded_4 rfl (lv_at hl 1 rfl) ?_
  refine rdV (As := [.int w]) (rest := []) ⟨hx, hb, hml, hown, hts⟩ (c_X1_has l D cI cZ cR r rn q nw v w ) (cwV 1 hts gX5_refusalOfCrowded_X1_has rfl rfl rfl (by decide +kernel) ⟨Nat.le_of_ble_eq_true rfl, Nat.le_of_ble_eq_true rfl⟩) hK hN hP 1 1 rfl rfl rfl [1, 2] rfl rfl hl.1 rfl (Nat.le_of_ble_eq_true rfl) dX5_refusalOfCrowded_5 ⟨Nat.zero_le _, Nat.zero_le _⟩ ?_
  refine lv_if_ne (tgt := 13) hx hb dX5_refusalOfCrowded_8 (by decide) (fun c_8 => ?_) (fun c_8 => ?_)
  · skip
    have c_8 := bi_ne0.mp c_8
    refine lv_iload_n hx hb dX5_refusalOfCrowded_13 rfl (lv_at hl 2 rfl) ?_
    refine lv_iconst (v := 1) hx hb dX5_refusalOfCrowded_14 (by decide) ?_
    refine lv_icmp_lt (tgt := 23) hx hb dX5_refusalOfCrowded_15 (by decide) (fun c_15 => ?_) (fun c_15 => ?_)
    · skip
      refine lv_bipush (v := (-4)) hx hb dX5_refusalOfCrowded_23 (by decide) ?_
      exact rdI hx hb hr hlocks dX5_refusalOfCrowded_25 (by first | rfl | (simp [bi, rf_cro, c_8, c_15, Int32.not_le.mpr c_15]; done))
    · skip
      refine lv_iload_n hx hb dX5_refusalOfCrowded_18 rfl (lv_at hl 3 rfl) ?_
      refine lv_iconst (v := 1) hx hb dX5_refusalOfCrowded_19 (by decide) ?_
      refine lv_icmp_ge (tgt := 26) hx hb dX5_refusalOfCrowded_20 (by decide) (fun c_20 => ?_) (fun c_20 => ?_)
      · skip
        refine lv_iload_n hx hb dX5_refusalOfCrowded_26 rfl (lv_at hl 2 rfl) ?_
        refine lv_sipush (v := 200) hx hb dX5_refusalOfCrowded_27 (by decide) ?_
        refine lv_icmp_gt (tgt := 39) hx hb dX5_refusalOfCrowded_30 (by decide) (fun c_30 => ?_) (fun c_30 => ?_)
        · skip
          refine lv_bipush (v := (-6)) hx hb dX5_refusalOfCrowded_39 (by decide) ?_
          exact rdI hx hb hr hlocks dX5_refusalOfCrowded_41 (by first | rfl | (simp [bi, rf_cro, c_8, c_15, Int32.not_lt.mp c_15, c_20, Int32.not_lt.mpr c_20, c_30, Int32.not_le.mpr c_30]; done))
        · skip
          refine lv_iload_n hx hb dX5_refusalOfCrowded_33 rfl (lv_at hl 3 rfl) ?_
          refine lv_bipush (v := 9) hx hb dX5_refusalOfCrowded_34 (by decide) ?_
          refine lv_icmp_le (tgt := 42) hx hb dX5_refusalOfCrowded_36 (by decide) (fun c_36 => ?_) (fun c_36 => ?_)
          · skip
            refine lv_iload hx hb dX5_refusalOfCrowded_42 (lv_at hl 4 rfl) ?_
            refine lv_iconst (v := 2) hx hb dX5_refusalOfCrowded_44 (by decide) ?_
            refine rdS (As := [.int k, .int 2]) (rest := []) ⟨hx, hb, hml, hown, hts⟩ (c_X5_isBelow l D cI cZ cR k 2 ) (va_cwS 2 hts gX5_refusalOfCrowded_X5_isBelow rfl rfl rfl (by decide +kernel) ⟨Nat.le_of_ble_eq_true rfl, Nat.le_of_ble_eq_true rfl⟩) hK hN hP [] rfl rfl hl.1 rfl (Nat.le_of_ble_eq_true rfl) dX5_refusalOfCrowded_45 ⟨Nat.zero_le _, Nat.zero_le _⟩ ?_
            refine lv_if_eq (tgt := 55) hx hb dX5_refusalOfCrowded_48 (by decide) (fun c_48 => ?_) (fun c_48 => ?_)
            · skip
              have c_48 := bi_eq0.mp c_48
              refine lv_bipush (v := (-2)) hx hb dX5_refusalOfCrowded_55 (by decide) ?_
              exact rdI hx hb hr hlocks dX5_refusalOfCrowded_57 (by first | rfl | (simp [bi, rf_cro, c_8, c_15, Int32.not_lt.mp c_15, c_20, Int32.not_lt.mpr c_20, c_30, Int32.not_lt.mp c_30, c_36, Int32.not_lt.mpr c_36, c_48]; done))
            · skip
              have c_48 := bi_ne0.mp c_48
              refine lv_iconst (v := 0) hx hb dX5_refusalOfCrowded_51 (by decide) ?_
              refine lv_goto (tgt := 57) hx hb dX5_refusalOfCrowded_52 (by decide) ?_
              exact rdI hx hb hr hlocks dX5_refusalOfCrowded_57 (by first | rfl | (simp [bi, rf_cro, c_8, c_15, Int32.not_lt.mp c_15, c_20, Int32.not_lt.mpr c_20, c_30, Int32.not_lt.mp c_30, c_36, Int32.not_lt.mpr c_36, c_48]; done))
          · skip
            refine lv_bipush (v := (-6)) hx hb dX5_refusalOfCrowded_39 (by decide) ?_
            exact rdI hx hb hr hlocks dX5_refusalOfCrowded_41 (by first | rfl | (simp [bi, rf_cro, c_8, c_15, Int32.not_lt.mp c_15, c_20, Int32.not_lt.mpr c_20, c_30, Int32.not_lt.mp c_30, c_36, Int32.not_le.mp c_36]; done))
      · skip
        refine lv_bipush (v := (-4)) hx hb dX5_refusalOfCrowded_23 (by decide) ?_
        exact rdI hx hb hr hlocks dX5_refusalOfCrowded_25 (by first | rfl | (simp [bi, rf_cro, c_8, c_15, Int32.not_lt.mp c_15, c_20, Int32.not_le.mp c_20]; done))
  · skip
    have c_8 := bi_eq0.mp c_8
    refine lv_iconst (v := (-1)) hx hb dX5_refusalOfCrowded_11 (by decide) ?_
    exact rdI hx hb hr hlocks dX5_refusalOfCrowded_12 (by first | rfl | (simp [bi, rf_cro, c_8]; done))

set_option maxHeartbeats 4000000 in
set_option maxRecDepth 100000 in
theorem c_X5_areTwo (l : Launch) (D : va_G) (cI cZ cR : ClassId) (x r t im tx ch ro rf pl ot cl : Nat) (hi : Int32) (rn : Nat) (q nw : Int32) (v : Nat → Int32) (o u : Int32) : Met l yX5_areTwo wsX5_areTwo ({ frames := 2, cells := 0, slots := 0, locals := 42 }) (PcR D cI cZ cR [.ref x, .int o, .int u] [(x, .inr (5, [.ref r, .ref t, .ref im, .int hi, .ref tx, .ref ch, .ref ro, .ref rf, .ref pl, .ref ot, .ref cl])), (r, .inr (1, [.int q, .int nw, .ref rn])), (rn, .inl (cI, 20, .inl v))]) (k2_QcV (.int (bi (¬ o = u ∧ (0 ≤ o ∧ o < nw) ∧ (0 ≤ u ∧ u < nw))))) 0 0 (fun _ => False) := by
  refine Met.ofW (cc := cX5_areTwo) (maxL := 3) (ret := (some .boolean)) (by decide) rfl ?_
  intro p e s m args below meth c s₁ B hml hv
  obtain ⟨rfl, hP, hK, hN⟩ := hv
  have hx := B.exec
  have hb := B.bytes
  have hr := B.returns
  have hts := atoms_spec (ws := wsX5_areTwo) B.pre
  have hown : s.vm.findClass RX5 = some m.cls := findClass_of_methodNamed B.named
  have hlocks := B.notSynchronized
  have hP : va_P D vwCl [(x, .inr (5, [.ref r, .ref t, .ref im, .int hi, .ref tx, .ref ch, .ref ro, .ref rf, .ref pl, .ref ot, .ref cl])), (r, .inr (1, [.int q, .int nw, .ref rn])), (rn, .inl (cI, 20, .inl v))] s.heap := hP
  have hl := lv_entry ([.ref x, .int o, .int u]) (n := 3) (Nat.le_of_ble_eq_true rfl)
  rw [lg_entry_eq]
  generalize (lg_sl ([.ref x, .int o, .int u]) ++ List.replicate (3 - (lg_sl ([.ref x, .int o, .int u])).length) Slot.unset).toArray = ls at hl ⊢
  have hl : lv_has ls 3 [(0, .ref x), (1, .int o), (2, .int u)] := hl
  refine lv_iload_n hx hb dX5_areTwo_0 rfl (lv_at hl 1 rfl) ?_
  refine lv_iload_n hx hb dX5_areTwo_1 rfl (lv_at hl 2 rfl) ?_
  refine lv_icmp_eq (tgt := 31) hx hb dX5_areTwo_2 (by decide) (fun c_2 => ?_) (fun c_2 => ?_)
  · skip
    refine lv_iconst (v := 0) hx hb dX5_areTwo_31 (by decide) ?_
    exact rdZ hx hb hr hlocks dX5_areTwo_32 (by first | rfl | (simp [bi, c_2]; done))
  · skip
    refine lv_aload_n hx hb dX5_areTwo_5 rfl (lv_at hl 0 rfl) ?_
    refine va_get (D := D) (ci := 5) (v := .ref r) (C := RX5) (T := TX5) (N := 11) hx hb hts (in_X5_areTwo_X5) hown hK hP 0 rfl rfl 0 (by decide) (hts (.fieldLink RX5 10 "StepsRoundCircle" "ring" "LStepsRoundCircle$Ring;") (by decide +kernel)) (fun _ h9 => h9) rfl dX5_areTwo_6 ?_
    refine lv_iload_n hx hb dX5_areTwo_9 rfl (lv_at hl 1 rfl) ?_
    refine rdV (As := [.int o]) (rest := []) ⟨hx, hb, hml, hown, hts⟩ (c_X1_has l D cI cZ cR r rn q nw v o ) (cwV 1 hts gX5_areTwo_X1_has rfl rfl rfl (by decide +kernel) ⟨Nat.le_of_ble_eq_true rfl, Nat.le_of_ble_eq_true rfl⟩) hK hN hP 1 1 rfl rfl rfl [1, 2] rfl rfl hl.1 rfl (Nat.le_of_ble_eq_true rfl) dX5_areTwo_10 ⟨Nat.zero_le _, Nat.zero_le _⟩ ?_
    refine lv_if_eq (tgt := 31) hx hb dX5_areTwo_13 (by decide) (fun c_13 => ?_) (fun c_13 => ?_)
    · skip
      have c_13 := bi_eq0.mp c_13
      refine lv_iconst (v := 0) hx hb dX5_areTwo_31 (by decide) ?_
      exact rdZ hx hb hr hlocks dX5_areTwo_32 (by first | rfl | (simp [bi, c_2, c_13]; done))
    · skip
      have c_13 := bi_ne0.mp c_13
      refine lv_aload_n hx hb dX5_areTwo_16 rfl (lv_at hl 0 rfl) ?_
      refine va_get (D := D) (ci := 5) (v := .ref r) (C := RX5) (T := TX5) (N := 11) hx hb hts (in_X5_areTwo_X5) hown hK hP 0 rfl rfl 0 (by decide) (hts (.fieldLink RX5 10 "StepsRoundCircle" "ring" "LStepsRoundCircle$Ring;") (by decide +kernel)) (fun _ h9 => h9) rfl dX5_areTwo_17 ?_
      refine lv_iload_n hx hb dX5_areTwo_20 rfl (lv_at hl 2 rfl) ?_
      refine rdV (As := [.int u]) (rest := []) ⟨hx, hb, hml, hown, hts⟩ (c_X1_has l D cI cZ cR r rn q nw v u ) (cwV 1 hts gX5_areTwo_X1_has rfl rfl rfl (by decide +kernel) ⟨Nat.le_of_ble_eq_true rfl, Nat.le_of_ble_eq_true rfl⟩) hK hN hP 1 1 rfl rfl rfl [1, 2] rfl rfl hl.1 rfl (Nat.le_of_ble_eq_true rfl) dX5_areTwo_21 ⟨Nat.zero_le _, Nat.zero_le _⟩ ?_
      refine lv_if_eq (tgt := 31) hx hb dX5_areTwo_24 (by decide) (fun c_24 => ?_) (fun c_24 => ?_)
      · skip
        have c_24 := bi_eq0.mp c_24
        refine lv_iconst (v := 0) hx hb dX5_areTwo_31 (by decide) ?_
        exact rdZ hx hb hr hlocks dX5_areTwo_32 (by first | rfl | (simp [bi, c_2, c_13, c_24]; done))
      · skip
        have c_24 := bi_ne0.mp c_24
        refine lv_iconst (v := 1) hx hb dX5_areTwo_27 (by decide) ?_
        refine lv_goto (tgt := 32) hx hb dX5_areTwo_28 (by decide) ?_
        exact rdZ hx hb hr hlocks dX5_areTwo_32 (by first | rfl | (simp [bi, c_2, c_13, c_24]; done))

set_option maxHeartbeats 4000000 in
set_option maxRecDepth 100000 in
theorem c_X5_takeMarks (l : Launch) (D : va_G) (cI cZ cR : ClassId) (x r t im tx ch ro rf pl ot cl : Nat) (hi : Int32) (rn : Nat) (q nw : Int32) (v : Nat → Int32) (a an : Nat) (z : Int32) (f : Nat → Int32) (w n : Int32) (hn : n.toNatClampNeg ≤ 200) (sz : Nat) : Met l yX5_takeMarks wsX5_takeMarks ({ frames := 4, cells := 0, slots := 0, locals := 103 }) (PcW D cI cZ cR [.ref x, .ref a, .int w, .int n] [(x, .inr (5, [.ref r, .ref t, .ref im, .int hi, .ref tx, .ref ch, .ref ro, .ref rf, .ref pl, .ref ot, .ref cl])), (r, .inr (1, [.int q, .int nw, .ref rn])), (rn, .inl (cI, 20, .inl v)), (a, .inr (3, [.int z, .ref an])), (an, .inl (cI, 200, .inl f))] sz) (va_Qv (fun (u : Int32 × (Nat → Int32)) => so_rep (mk (plK q v w) n.toNatClampNeg) u.1 u.2) (Bw D (fun (u : Int32 × (Nat → Int32)) => [(x, .inr (5, [.ref r, .ref t, .ref im, .int hi, .ref tx, .ref ch, .ref ro, .ref rf, .ref pl, .ref ot, .ref cl])), (r, .inr (1, [.int q, .int nw, .ref rn])), (rn, .inl (cI, 20, .inl v)), (a, .inr (3, [.int u.1, .ref an])), (an, .inl (cI, 200, .inl u.2))]) (va_A [(x, .inr (5, [.ref r, .ref t, .ref im, .int hi, .ref tx, .ref ch, .ref ro, .ref rf, .ref pl, .ref ot, .ref cl])), (r, .inr (1, [.int q, .int nw, .ref rn])), (rn, .inl (cI, 20, .inl v)), (a, .inr (3, [.int z, .ref an])), (an, .inl (cI, 200, .inl f))] sz)) (va_A [(x, .inr (5, [.ref r, .ref t, .ref im, .int hi, .ref tx, .ref ch, .ref ro, .ref rf, .ref pl, .ref ot, .ref cl])), (r, .inr (1, [.int q, .int nw, .ref rn])), (rn, .inl (cI, 20, .inl v)), (a, .inr (3, [.int z, .ref an])), (an, .inl (cI, 200, .inl f))] sz)) 0 0 (va_A [(x, .inr (5, [.ref r, .ref t, .ref im, .int hi, .ref tx, .ref ch, .ref ro, .ref rf, .ref pl, .ref ot, .ref cl])), (r, .inr (1, [.int q, .int nw, .ref rn])), (rn, .inl (cI, 20, .inl v)), (a, .inr (3, [.int z, .ref an])), (an, .inl (cI, 200, .inl f))] sz) := by
  refine Met.ofW (cc := cX5_takeMarks) (maxL := 5) (ret := none) (by decide) rfl ?_
  intro p e s m args below meth c s₁ B hml hv
  obtain ⟨rfl, hsz, hP, hK, hD0, hN⟩ := hv
  have hx := B.exec
  have hb := B.bytes
  have hr := B.returns
  have hts := atoms_spec (ws := wsX5_takeMarks) B.pre
  have hown : s.vm.findClass RX5 = some m.cls := findClass_of_methodNamed B.named
  have hlocks := B.notSynchronized
  subst hsz
  have hD := hD0.self (sz := s.heap.size)
  generalize hAe : va_A [(x, .inr (5, [.ref r, .ref t, .ref im, .int hi, .ref tx, .ref ch, .ref ro, .ref rf, .ref pl, .ref ot, .ref cl])), (r, .inr (1, [.int q, .int nw, .ref rn])), (rn, .inl (cI, 20, .inl v)), (a, .inr (3, [.int z, .ref an])), (an, .inl (cI, 200, .inl f))] s.heap.size = A at hD ⊢
  have hA : ∀ q : Nat, s.heap.size ≤ q → A q := fun q h => by rw [← hAe]; exact Or.inr h
  have hS : va_S A s.heap s.heap [] := va_S.rf
  have hP : va_P D vwCl [(x, .inr (5, [.ref r, .ref t, .ref im, .int hi, .ref tx, .ref ch, .ref ro, .ref rf, .ref pl, .ref ot, .ref cl])), (r, .inr (1, [.int q, .int nw, .ref rn])), (rn, .inl (cI, 20, .inl v)), (a, .inr (3, [.int z, .ref an])), (an, .inl (cI, 200, .inl f))] s.heap := hP
  have hl := lv_entry ([.ref x, .ref a, .int w, .int n]) (n := 5) (Nat.le_of_ble_eq_true rfl)
  rw [lg_entry_eq]
  generalize (lg_sl ([.ref x, .ref a, .int w, .int n]) ++ List.replicate (5 - (lg_sl ([.ref x, .ref a, .int w, .int n])).length) Slot.unset).toArray = ls at hl ⊢
  have hl : lv_has ls 5 [(0, .ref x), (1, .ref a), (2, .int w), (3, .int n)] := hl
  refine lv_aload_n hx hb dX5_takeMarks_0 rfl (lv_at hl 1 rfl) ?_
  refine wrVv (As := []) (rest := []) (wr := [(x, .inr (5, [.ref r, .ref t, .ref im, .int hi, .ref tx, .ref ch, .ref ro, .ref rf, .ref pl, .ref ot, .ref cl])), (r, .inr (1, [.int q, .int nw, .ref rn])), (rn, .inl (cI, 20, .inl v))]) (A := A) ⟨hx, hb, hml, hown, hts⟩ (c_X3_clear l D cI cZ cR a an z f  s.heap.size) (cwV 0 hts gX5_takeMarks_X3_clear rfl rfl rfl (by decide +kernel) ⟨Nat.le_of_ble_eq_true rfl, Nat.le_of_ble_eq_true rfl⟩) hK hN hP hD hS hA 3 3 rfl rfl rfl [3, 4] [0, 1, 2] rfl (by decide) rfl (by decide) (by decide) rfl hl.1 rfl (Nat.le_of_ble_eq_true rfl) dX5_takeMarks_1 ⟨Nat.zero_le _, Nat.zero_le _⟩ (fun u H locs hw hP hD hS => ?_)
  obtain ⟨z_1, rfl⟩ : ∃ z, z = u := ⟨_, rfl⟩
  try dsimp only at hw
  have q1_1 := hw
  have q1_1 := q1_1.symm
  subst q1_1
  have hP : va_P D vwCl [(x, .inr (5, [.ref r, .ref t, .ref im, .int hi, .ref tx, .ref ch, .ref ro, .ref rf, .ref pl, .ref ot, .ref cl])), (r, .inr (1, [.int q, .int nw, .ref rn])), (rn, .inl (cI, 20, .inl v)), (a, .inr (3, [.int 0, .ref an])), (an, .inl (cI, 200, .inl f))] H := hP.sub [0, 1, 2, 3, 4] rfl
  have hD : va_D A [(x, .inr (5, [.ref r, .ref t, .ref im, .int hi, .ref tx, .ref ch, .ref ro, .ref rf, .ref pl, .ref ot, .ref cl])), (r, .inr (1, [.int q, .int nw, .ref rn])), (rn, .inl (cI, 20, .inl v)), (a, .inr (3, [.int 0, .ref an])), (an, .inl (cI, 200, .inl f))] := hD.sub [0, 1, 2, 3, 4] (by decide) rfl
  refine lv_iconst (v := 0) hx hb dX5_takeMarks_4 (by decide) ?_
  refine lv_istore (lv' := [(4, .int 0), (0, .ref x), (1, .ref a), (2, .int w), (3, .int n)]) hx hb dX5_takeMarks_5 hl (by decide) rfl (fun ls hl => ?_)
  have loop_7 : ∀ (fuel : Nat), ∀ (i : Nat), ∀ (zz : Int32), ∀ (gg : Nat → Int32), (i ≤ n.toNatClampNeg) → (so_rep (mk (plK q v w) i) zz gg) → (n.toNatClampNeg + 1 ≤ i + fuel) → ∀ (y4 : Int32), y4 = nI i → ∀ (H : Heap) (locs : List Loc), va_P D vwCl [(x, .inr (5, [.ref r, .ref t, .ref im, .int hi, .ref tx, .ref ch, .ref ro, .ref rf, .ref pl, .ref ot, .ref cl])), (r, .inr (1, [.int q, .int nw, .ref rn])), (rn, .inl (cI, 20, .inl v)), (a, .inr (3, [.int zz, .ref an])), (an, .inl (cI, 200, .inl gg))] H → va_D A [(x, .inr (5, [.ref r, .ref t, .ref im, .int hi, .ref tx, .ref ch, .ref ro, .ref rf, .ref pl, .ref ot, .ref cl])), (r, .inr (1, [.int q, .int nw, .ref rn])), (rn, .inl (cI, 20, .inl v)), (a, .inr (3, [.int zz, .ref an])), (an, .inl (cI, 200, .inl gg))] → va_S A s.heap H locs → ∀ (ls : Array Slot), lv_has ls 5 [(4, .int y4), (0, .ref x), (1, .ref a), (2, .int w), (3, .int n)] → W p l e (headSpec wsX5_takeMarks ({ frames := 4, cells := 0, slots := 0, locals := 103 })).room s m ([.ref x, .ref a, .int w, .int n] : List Value).toArray below meth c H locs 0 0 (MQ below (va_Qv (fun (u : Int32 × (Nat → Int32)) => so_rep (mk (plK q v w) n.toNatClampNeg) u.1 u.2) (Bw D (fun (u : Int32 × (Nat → Int32)) => [(x, .inr (5, [.ref r, .ref t, .ref im, .int hi, .ref tx, .ref ch, .ref ro, .ref rf, .ref pl, .ref ot, .ref cl])), (r, .inr (1, [.int q, .int nw, .ref rn])), (rn, .inl (cI, 20, .inl v)), (a, .inr (3, [.int u.1, .ref an])), (an, .inl (cI, 200, .inl u.2))]) A) A) ([.ref x, .ref a, .int w, .int n] : List Value).toArray s 0 0 A) (F0 m 7 ls []) := by
    intro fuel
    induction fuel with
    | zero =>
      intro i zz gg hi9 hrep hfu
      exact False.elim (by omega)
    | succ fuel ih_7 =>
      intro i zz gg hi9 hrep hfu y4 ey4 H locs hP hD hS ls hl
      subst ey4
      refine lv_iload hx hb dX5_takeMarks_7 (lv_at hl 0 rfl) ?_
      refine lv_iload_n hx hb dX5_takeMarks_9 rfl (lv_at hl 4 rfl) ?_
      refine lv_icmp_ge (tgt := 33) hx hb dX5_takeMarks_10 (by decide) (fun c_10 => ?_) (fun c_10 => ?_)
      · skip
        exact wrV (w1 := (fun (u : Int32 × (Nat → Int32)) => [(x, .inr (5, [.ref r, .ref t, .ref im, .int hi, .ref tx, .ref ch, .ref ro, .ref rf, .ref pl, .ref ot, .ref cl])), (r, .inr (1, [.int q, .int nw, .ref rn])), (rn, .inl (cI, 20, .inl v)), (a, .inr (3, [.int u.1, .ref an])), (an, .inl (cI, 200, .inl u.2))])) (zz, gg) hx hb hr hlocks dX5_takeMarks_33 hS (hP.sub [0, 1, 2, 3, 4] rfl) (hD.sub [0, 1, 2, 3, 4] (by decide) rfl) (by have h9 := (le_clamp (by omega)).mp c_10; have e9 : i = n.toNatClampNeg := (by omega); rw [← e9]; exact hrep)
      · skip
        have hiN : i < n.toNatClampNeg := (lt_clamp (by omega)).mp (Int32.not_le.mp c_10)
        have hml9 := mk_len (plK q v w) i
        refine lv_aload_n hx hb dX5_takeMarks_13 rfl (lv_at hl 2 rfl) ?_
        refine lv_aload_n hx hb dX5_takeMarks_14 rfl (lv_at hl 1 rfl) ?_
        refine va_get (D := D) (ci := 5) (v := .ref r) (C := RX5) (T := TX5) (N := 11) hx hb hts (in_X5_takeMarks_X5) hown hK hP 0 rfl rfl 0 (by decide) (hts (.fieldLink RX5 10 "StepsRoundCircle" "ring" "LStepsRoundCircle$Ring;") (by decide +kernel)) (fun _ h9 => h9) rfl dX5_takeMarks_15 ?_
        refine lv_iload_n hx hb dX5_takeMarks_18 rfl (lv_at hl 3 rfl) ?_
        refine lv_iload hx hb dX5_takeMarks_19 (lv_at hl 0 rfl) ?_
        refine rdV (As := [.int w, .int (nI i)]) (rest := [.ref a]) ⟨hx, hb, hml, hown, hts⟩ (c_X1_placeOf l D cI cZ cR r rn q nw v w (nI i) ) (cwV 2 hts gX5_takeMarks_X1_placeOf rfl rfl rfl (by decide +kernel) ⟨Nat.le_of_ble_eq_true rfl, Nat.le_of_ble_eq_true rfl⟩) hK hN hP 1 1 rfl rfl rfl [1, 2] rfl rfl hl.1 rfl (Nat.le_of_ble_eq_true rfl) dX5_takeMarks_21 ⟨Nat.zero_le _, Nat.zero_le _⟩ ?_
        refine wrVv (As := [.int (rg_pb q v (rg_val v w 0) w (nI i).toInt64)]) (rest := []) (wr := [(x, .inr (5, [.ref r, .ref t, .ref im, .int hi, .ref tx, .ref ch, .ref ro, .ref rf, .ref pl, .ref ot, .ref cl])), (r, .inr (1, [.int q, .int nw, .ref rn])), (rn, .inl (cI, 20, .inl v))]) (A := A) ⟨hx, hb, hml, hown, hts⟩ (c_X3_addOnce l D cI cZ cR a an zz gg (mk (plK q v w) i) (rg_pb q v (rg_val v w 0) w (nI i).toInt64) hrep (so_str_ord (mk_str _ i)) (by omega) H.size) (cwV 1 hts gX5_takeMarks_X3_addOnce rfl rfl rfl (by decide +kernel) ⟨Nat.le_of_ble_eq_true rfl, Nat.le_of_ble_eq_true rfl⟩) hK hN hP hD hS hA 3 3 rfl rfl rfl [3, 4] [0, 1, 2] rfl (by decide) rfl (by decide) (by decide) rfl hl.1 rfl (Nat.le_of_ble_eq_true rfl) dX5_takeMarks_24 ⟨Nat.zero_le _, Nat.zero_le _⟩ (fun u H locs hw hP hD hS => ?_)
        obtain ⟨z_24, f_24⟩ := u
        try dsimp only at hw
        have h1_24 := hw
        have hP : va_P D vwCl [(x, .inr (5, [.ref r, .ref t, .ref im, .int hi, .ref tx, .ref ch, .ref ro, .ref rf, .ref pl, .ref ot, .ref cl])), (r, .inr (1, [.int q, .int nw, .ref rn])), (rn, .inl (cI, 20, .inl v)), (a, .inr (3, [.int z_24, .ref an])), (an, .inl (cI, 200, .inl f_24))] H := hP.sub [0, 1, 2, 3, 4] rfl
        have hD : va_D A [(x, .inr (5, [.ref r, .ref t, .ref im, .int hi, .ref tx, .ref ch, .ref ro, .ref rf, .ref pl, .ref ot, .ref cl])), (r, .inr (1, [.int q, .int nw, .ref rn])), (rn, .inl (cI, 20, .inl v)), (a, .inr (3, [.int z_24, .ref an])), (an, .inl (cI, 200, .inl f_24))] := hD.sub [0, 1, 2, 3, 4] (by decide) rfl
        refine lv_iinc (v := (nI i) + 1) (lv' := [(4, .int ((nI i) + 1)), (0, .ref x), (1, .ref a), (2, .int w), (3, .int n)]) hx hb dX5_takeMarks_27 hl (k := 0) rfl (by rfl) (by decide) rfl (fun ls hl => ?_)
        refine lv_goto (tgt := 7) hx hb dX5_takeMarks_30 (by decide) ?_
        exact ih_7 (i + 1) z_24 f_24 (by omega) h1_24 (by omega) _ (by first | rfl | exact nI_1 _ | exact nI_0.symm) _ _ (hP.sub [0, 1, 2, 3, 4] rfl) (hD.sub [0, 1, 2, 3, 4] (by decide) rfl) hS ls (lv_sub hl [0, 1, 2, 3, 4] rfl)
  exact loop_7 (n.toNatClampNeg + 1) 0 0 f (by omega) ⟨nI_0.symm, Nat.zero_le _, fun j hj => absurd hj (Nat.not_lt_zero j)⟩ (by omega) _ (by first | rfl | exact nI_1 _ | exact nI_0.symm) _ _ (hP.sub [0, 1, 2, 3, 4] rfl) (hD.sub [0, 1, 2, 3, 4] (by decide) rfl) hS ls (lv_sub hl [0, 1, 2, 3, 4] rfl)

set_option maxHeartbeats 4000000 in
set_option maxRecDepth 100000 in
theorem c_X5_takePlaces (l : Launch) (D : va_G) (cI cZ cR : ClassId) (x r t im tx ch ro rf pl ot cl : Nat) (hi : Int32) (rn : Nat) (q nw : Int32) (v : Nat → Int32) (pn : Nat) (pz : Int32) (pf : Nat → Int32) (w n : Int32) (hn : n.toNatClampNeg ≤ 200) (sz : Nat) : Met l yX5_takePlaces wsX5_takePlaces ({ frames := 4, cells := 0, slots := 0, locals := 98 }) (PcW D cI cZ cR [.ref x, .int w, .int n] [(x, .inr (5, [.ref r, .ref t, .ref im, .int hi, .ref tx, .ref ch, .ref ro, .ref rf, .ref pl, .ref ot, .ref cl])), (r, .inr (1, [.int q, .int nw, .ref rn])), (rn, .inl (cI, 20, .inl v)), (pl, .inr (3, [.int pz, .ref pn])), (pn, .inl (cI, 200, .inl pf))] sz) (va_Qv (fun (u : Int32 × (Nat → Int32)) => so_rep (ms (plK q v w) n.toNatClampNeg) u.1 u.2) (Bw D (fun (u : Int32 × (Nat → Int32)) => [(x, .inr (5, [.ref r, .ref t, .ref im, .int hi, .ref tx, .ref ch, .ref ro, .ref rf, .ref pl, .ref ot, .ref cl])), (r, .inr (1, [.int q, .int nw, .ref rn])), (rn, .inl (cI, 20, .inl v)), (pl, .inr (3, [.int u.1, .ref pn])), (pn, .inl (cI, 200, .inl u.2))]) (va_A [(x, .inr (5, [.ref r, .ref t, .ref im, .int hi, .ref tx, .ref ch, .ref ro, .ref rf, .ref pl, .ref ot, .ref cl])), (r, .inr (1, [.int q, .int nw, .ref rn])), (rn, .inl (cI, 20, .inl v)), (pl, .inr (3, [.int pz, .ref pn])), (pn, .inl (cI, 200, .inl pf))] sz)) (va_A [(x, .inr (5, [.ref r, .ref t, .ref im, .int hi, .ref tx, .ref ch, .ref ro, .ref rf, .ref pl, .ref ot, .ref cl])), (r, .inr (1, [.int q, .int nw, .ref rn])), (rn, .inl (cI, 20, .inl v)), (pl, .inr (3, [.int pz, .ref pn])), (pn, .inl (cI, 200, .inl pf))] sz)) 0 0 (va_A [(x, .inr (5, [.ref r, .ref t, .ref im, .int hi, .ref tx, .ref ch, .ref ro, .ref rf, .ref pl, .ref ot, .ref cl])), (r, .inr (1, [.int q, .int nw, .ref rn])), (rn, .inl (cI, 20, .inl v)), (pl, .inr (3, [.int pz, .ref pn])), (pn, .inl (cI, 200, .inl pf))] sz) := by
  refine Met.ofW (cc := cX5_takePlaces) (maxL := 4) (ret := none) (by decide) rfl ?_
  intro p e s m args below meth c s₁ B hml hv
  obtain ⟨rfl, hsz, hP, hK, hD0, hN⟩ := hv
  have hx := B.exec
  have hb := B.bytes
  have hr := B.returns
  have hts := atoms_spec (ws := wsX5_takePlaces) B.pre
  have hown : s.vm.findClass RX5 = some m.cls := findClass_of_methodNamed B.named
  have hlocks := B.notSynchronized
  subst hsz
  have hD := hD0.self (sz := s.heap.size)
  generalize hAe : va_A [(x, .inr (5, [.ref r, .ref t, .ref im, .int hi, .ref tx, .ref ch, .ref ro, .ref rf, .ref pl, .ref ot, .ref cl])), (r, .inr (1, [.int q, .int nw, .ref rn])), (rn, .inl (cI, 20, .inl v)), (pl, .inr (3, [.int pz, .ref pn])), (pn, .inl (cI, 200, .inl pf))] s.heap.size = A at hD ⊢
  have hA : ∀ q : Nat, s.heap.size ≤ q → A q := fun q h => by rw [← hAe]; exact Or.inr h
  have hS : va_S A s.heap s.heap [] := va_S.rf
  have hP : va_P D vwCl [(x, .inr (5, [.ref r, .ref t, .ref im, .int hi, .ref tx, .ref ch, .ref ro, .ref rf, .ref pl, .ref ot, .ref cl])), (r, .inr (1, [.int q, .int nw, .ref rn])), (rn, .inl (cI, 20, .inl v)), (pl, .inr (3, [.int pz, .ref pn])), (pn, .inl (cI, 200, .inl pf))] s.heap := hP
  have hl := lv_entry ([.ref x, .int w, .int n]) (n := 4) (Nat.le_of_ble_eq_true rfl)
  rw [lg_entry_eq]
  generalize (lg_sl ([.ref x, .int w, .int n]) ++ List.replicate (4 - (lg_sl ([.ref x, .int w, .int n])).length) Slot.unset).toArray = ls at hl ⊢
  have hl : lv_has ls 4 [(0, .ref x), (1, .int w), (2, .int n)] := hl
  refine lv_aload_n hx hb dX5_takePlaces_0 rfl (lv_at hl 0 rfl) ?_
  refine va_get (D := D) (ci := 5) (v := .ref pl) (C := RX5) (T := TX5) (N := 11) hx hb hts (in_X5_takePlaces_X5) hown hK hP 0 rfl rfl 8 (by decide) (hts (.fieldLink RX5 53 "StepsRoundCircle" "places" "LStepsRoundCircle$Sorted;") (by decide +kernel)) (fun _ h9 => h9) rfl dX5_takePlaces_1 ?_
  refine wrVv (As := []) (rest := []) (wr := [(x, .inr (5, [.ref r, .ref t, .ref im, .int hi, .ref tx, .ref ch, .ref ro, .ref rf, .ref pl, .ref ot, .ref cl])), (r, .inr (1, [.int q, .int nw, .ref rn])), (rn, .inl (cI, 20, .inl v))]) (A := A) ⟨hx, hb, hml, hown, hts⟩ (c_X3_clear l D cI cZ cR pl pn pz pf  s.heap.size) (cwV 0 hts gX5_takePlaces_X3_clear rfl rfl rfl (by decide +kernel) ⟨Nat.le_of_ble_eq_true rfl, Nat.le_of_ble_eq_true rfl⟩) hK hN hP hD hS hA 3 3 rfl rfl rfl [3, 4] [0, 1, 2] rfl (by decide) rfl (by decide) (by decide) rfl hl.1 rfl (Nat.le_of_ble_eq_true rfl) dX5_takePlaces_4 ⟨Nat.zero_le _, Nat.zero_le _⟩ (fun u H locs hw hP hD hS => ?_)
  obtain ⟨z_4, rfl⟩ : ∃ z, z = u := ⟨_, rfl⟩
  try dsimp only at hw
  have q1_4 := hw
  have q1_4 := q1_4.symm
  subst q1_4
  have hP : va_P D vwCl [(x, .inr (5, [.ref r, .ref t, .ref im, .int hi, .ref tx, .ref ch, .ref ro, .ref rf, .ref pl, .ref ot, .ref cl])), (r, .inr (1, [.int q, .int nw, .ref rn])), (rn, .inl (cI, 20, .inl v)), (pl, .inr (3, [.int 0, .ref pn])), (pn, .inl (cI, 200, .inl pf))] H := hP.sub [0, 1, 2, 3, 4] rfl
  have hD : va_D A [(x, .inr (5, [.ref r, .ref t, .ref im, .int hi, .ref tx, .ref ch, .ref ro, .ref rf, .ref pl, .ref ot, .ref cl])), (r, .inr (1, [.int q, .int nw, .ref rn])), (rn, .inl (cI, 20, .inl v)), (pl, .inr (3, [.int 0, .ref pn])), (pn, .inl (cI, 200, .inl pf))] := hD.sub [0, 1, 2, 3, 4] (by decide) rfl
  refine lv_iconst (v := 0) hx hb dX5_takePlaces_7 (by decide) ?_
  refine lv_istore_n (lv' := [(3, .int 0), (0, .ref x), (1, .int w), (2, .int n)]) hx hb dX5_takePlaces_8 rfl hl (by decide) rfl (fun ls hl => ?_)
  have loop_9 : ∀ (fuel : Nat), ∀ (i : Nat), ∀ (zz : Int32), ∀ (gg : Nat → Int32), (i ≤ n.toNatClampNeg) → (so_rep (ms (plK q v w) i) zz gg) → (n.toNatClampNeg + 1 ≤ i + fuel) → ∀ (y3 : Int32), y3 = nI i → ∀ (H : Heap) (locs : List Loc), va_P D vwCl [(x, .inr (5, [.ref r, .ref t, .ref im, .int hi, .ref tx, .ref ch, .ref ro, .ref rf, .ref pl, .ref ot, .ref cl])), (r, .inr (1, [.int q, .int nw, .ref rn])), (rn, .inl (cI, 20, .inl v)), (pl, .inr (3, [.int zz, .ref pn])), (pn, .inl (cI, 200, .inl gg))] H → va_D A [(x, .inr (5, [.ref r, .ref t, .ref im, .int hi, .ref tx, .ref ch, .ref ro, .ref rf, .ref pl, .ref ot, .ref cl])), (r, .inr (1, [.int q, .int nw, .ref rn])), (rn, .inl (cI, 20, .inl v)), (pl, .inr (3, [.int zz, .ref pn])), (pn, .inl (cI, 200, .inl gg))] → va_S A s.heap H locs → ∀ (ls : Array Slot), lv_has ls 4 [(3, .int y3), (0, .ref x), (1, .int w), (2, .int n)] → W p l e (headSpec wsX5_takePlaces ({ frames := 4, cells := 0, slots := 0, locals := 98 })).room s m ([.ref x, .int w, .int n] : List Value).toArray below meth c H locs 0 0 (MQ below (va_Qv (fun (u : Int32 × (Nat → Int32)) => so_rep (ms (plK q v w) n.toNatClampNeg) u.1 u.2) (Bw D (fun (u : Int32 × (Nat → Int32)) => [(x, .inr (5, [.ref r, .ref t, .ref im, .int hi, .ref tx, .ref ch, .ref ro, .ref rf, .ref pl, .ref ot, .ref cl])), (r, .inr (1, [.int q, .int nw, .ref rn])), (rn, .inl (cI, 20, .inl v)), (pl, .inr (3, [.int u.1, .ref pn])), (pn, .inl (cI, 200, .inl u.2))]) A) A) ([.ref x, .int w, .int n] : List Value).toArray s 0 0 A) (F0 m 9 ls []) := by
    intro fuel
    induction fuel with
    | zero =>
      intro i zz gg hi9 hrep hfu
      exact False.elim (by omega)
    | succ fuel ih_9 =>
      intro i zz gg hi9 hrep hfu y3 ey3 H locs hP hD hS ls hl
      subst ey3
      refine lv_iload_n hx hb dX5_takePlaces_9 rfl (lv_at hl 0 rfl) ?_
      refine lv_iload_n hx hb dX5_takePlaces_10 rfl (lv_at hl 3 rfl) ?_
      refine lv_icmp_ge (tgt := 36) hx hb dX5_takePlaces_11 (by decide) (fun c_11 => ?_) (fun c_11 => ?_)
      · skip
        exact wrV (w1 := (fun (u : Int32 × (Nat → Int32)) => [(x, .inr (5, [.ref r, .ref t, .ref im, .int hi, .ref tx, .ref ch, .ref ro, .ref rf, .ref pl, .ref ot, .ref cl])), (r, .inr (1, [.int q, .int nw, .ref rn])), (rn, .inl (cI, 20, .inl v)), (pl, .inr (3, [.int u.1, .ref pn])), (pn, .inl (cI, 200, .inl u.2))])) (zz, gg) hx hb hr hlocks dX5_takePlaces_36 hS (hP.sub [0, 1, 2, 3, 4] rfl) (hD.sub [0, 1, 2, 3, 4] (by decide) rfl) (by have h9 := (le_clamp (by omega)).mp c_11; have e9 : i = n.toNatClampNeg := (by omega); rw [← e9]; exact hrep)
      · skip
        have hiN : i < n.toNatClampNeg := (lt_clamp (by omega)).mp (Int32.not_le.mp c_11)
        have hml9 := ms_len (plK q v w) i
        refine lv_aload_n hx hb dX5_takePlaces_14 rfl (lv_at hl 1 rfl) ?_
        refine va_get (D := D) (ci := 5) (v := .ref pl) (C := RX5) (T := TX5) (N := 11) hx hb hts (in_X5_takePlaces_X5) hown hK hP 0 rfl rfl 8 (by decide) (hts (.fieldLink RX5 53 "StepsRoundCircle" "places" "LStepsRoundCircle$Sorted;") (by decide +kernel)) (fun _ h9 => h9) rfl dX5_takePlaces_15 ?_
        refine lv_aload_n hx hb dX5_takePlaces_18 rfl (lv_at hl 1 rfl) ?_
        refine va_get (D := D) (ci := 5) (v := .ref r) (C := RX5) (T := TX5) (N := 11) hx hb hts (in_X5_takePlaces_X5) hown hK hP 0 rfl rfl 0 (by decide) (hts (.fieldLink RX5 10 "StepsRoundCircle" "ring" "LStepsRoundCircle$Ring;") (by decide +kernel)) (fun _ h9 => h9) rfl dX5_takePlaces_19 ?_
        refine lv_iload_n hx hb dX5_takePlaces_22 rfl (lv_at hl 2 rfl) ?_
        refine lv_iload_n hx hb dX5_takePlaces_23 rfl (lv_at hl 0 rfl) ?_
        refine rdV (As := [.int w, .int (nI i)]) (rest := [.ref pl]) ⟨hx, hb, hml, hown, hts⟩ (c_X1_placeOf l D cI cZ cR r rn q nw v w (nI i) ) (cwV 2 hts gX5_takePlaces_X1_placeOf rfl rfl rfl (by decide +kernel) ⟨Nat.le_of_ble_eq_true rfl, Nat.le_of_ble_eq_true rfl⟩) hK hN hP 1 1 rfl rfl rfl [1, 2] rfl rfl hl.1 rfl (Nat.le_of_ble_eq_true rfl) dX5_takePlaces_24 ⟨Nat.zero_le _, Nat.zero_le _⟩ ?_
        refine wrVv (As := [.int (rg_pb q v (rg_val v w 0) w (nI i).toInt64)]) (rest := []) (wr := [(x, .inr (5, [.ref r, .ref t, .ref im, .int hi, .ref tx, .ref ch, .ref ro, .ref rf, .ref pl, .ref ot, .ref cl])), (r, .inr (1, [.int q, .int nw, .ref rn])), (rn, .inl (cI, 20, .inl v))]) (A := A) ⟨hx, hb, hml, hown, hts⟩ (c_X3_add l D cI cZ cR pl pn zz gg (ms (plK q v w) i) (rg_pb q v (rg_val v w 0) w (nI i).toInt64) hrep (ms_ord _ i) (by omega) H.size) (cwV 1 hts gX5_takePlaces_X3_add rfl rfl rfl (by decide +kernel) ⟨Nat.le_of_ble_eq_true rfl, Nat.le_of_ble_eq_true rfl⟩) hK hN hP hD hS hA 3 3 rfl rfl rfl [3, 4] [0, 1, 2] rfl (by decide) rfl (by decide) (by decide) rfl hl.1 rfl (Nat.le_of_ble_eq_true rfl) dX5_takePlaces_27 ⟨Nat.zero_le _, Nat.zero_le _⟩ (fun u H locs hw hP hD hS => ?_)
        obtain ⟨z_27, f_27⟩ := u
        try dsimp only at hw
        have h1_27 := hw
        have hP : va_P D vwCl [(x, .inr (5, [.ref r, .ref t, .ref im, .int hi, .ref tx, .ref ch, .ref ro, .ref rf, .ref pl, .ref ot, .ref cl])), (r, .inr (1, [.int q, .int nw, .ref rn])), (rn, .inl (cI, 20, .inl v)), (pl, .inr (3, [.int z_27, .ref pn])), (pn, .inl (cI, 200, .inl f_27))] H := hP.sub [0, 1, 2, 3, 4] rfl
        have hD : va_D A [(x, .inr (5, [.ref r, .ref t, .ref im, .int hi, .ref tx, .ref ch, .ref ro, .ref rf, .ref pl, .ref ot, .ref cl])), (r, .inr (1, [.int q, .int nw, .ref rn])), (rn, .inl (cI, 20, .inl v)), (pl, .inr (3, [.int z_27, .ref pn])), (pn, .inl (cI, 200, .inl f_27))] := hD.sub [0, 1, 2, 3, 4] (by decide) rfl
        refine lv_iinc (v := (nI i) + 1) (lv' := [(3, .int ((nI i) + 1)), (0, .ref x), (1, .int w), (2, .int n)]) hx hb dX5_takePlaces_30 hl (k := 0) rfl (by rfl) (by decide) rfl (fun ls hl => ?_)
        refine lv_goto (tgt := 9) hx hb dX5_takePlaces_33 (by decide) ?_
        exact ih_9 (i + 1) z_27 f_27 (by omega) h1_27 (by omega) _ (by first | rfl | exact nI_1 _ | exact nI_0.symm) _ _ (hP.sub [0, 1, 2, 3, 4] rfl) (hD.sub [0, 1, 2, 3, 4] (by decide) rfl) hS ls (lv_sub hl [0, 1, 2, 3] rfl)
  exact loop_9 (n.toNatClampNeg + 1) 0 0 pf (by omega) ⟨nI_0.symm, Nat.zero_le _, fun j hj => absurd hj (Nat.not_lt_zero j)⟩ (by omega) _ (by first | rfl | exact nI_1 _ | exact nI_0.symm) _ _ (hP.sub [0, 1, 2, 3, 4] rfl) (hD.sub [0, 1, 2, 3, 4] (by decide) rfl) hS ls (lv_sub hl [0, 1, 2, 3] rfl)

set_option maxHeartbeats 4000000 in
set_option maxRecDepth 100000 in
theorem c_X5_gapBehind (l : Launch) (D : va_G) (cI cZ cR : ClassId) (x r t im tx ch ro rf pl ot cl : Nat) (hi : Int32) (rn : Nat) (q nw : Int32) (v : Nat → Int32) (pn : Nat) (pz : Int32) (pf : Nat → Int32) (i : Int32) : Met l yX5_gapBehind wsX5_gapBehind ({ frames := 1, cells := 0, slots := 0, locals := 21 }) (PcR D cI cZ cR [.ref x, .int i] [(x, .inr (5, [.ref r, .ref t, .ref im, .int hi, .ref tx, .ref ch, .ref ro, .ref rf, .ref pl, .ref ot, .ref cl])), (r, .inr (1, [.int q, .int nw, .ref rn])), (rn, .inl (cI, 20, .inl v)), (pl, .inr (3, [.int pz, .ref pn])), (pn, .inl (cI, 200, .inl pf))]) (k2_QcV (.int (gp q pz pf i))) 0 0 (fun _ => False) := by
  refine Met.ofW (cc := cX5_gapBehind) (maxL := 2) (ret := (some .int)) (by decide) rfl ?_
  intro p e s m args below meth c s₁ B hml hv
  obtain ⟨rfl, hP, hK, hN⟩ := hv
  have hx := B.exec
  have hb := B.bytes
  have hr := B.returns
  have hts := atoms_spec (ws := wsX5_gapBehind) B.pre
  have hown : s.vm.findClass RX5 = some m.cls := findClass_of_methodNamed B.named
  have hlocks := B.notSynchronized
  have hP : va_P D vwCl [(x, .inr (5, [.ref r, .ref t, .ref im, .int hi, .ref tx, .ref ch, .ref ro, .ref rf, .ref pl, .ref ot, .ref cl])), (r, .inr (1, [.int q, .int nw, .ref rn])), (rn, .inl (cI, 20, .inl v)), (pl, .inr (3, [.int pz, .ref pn])), (pn, .inl (cI, 200, .inl pf))] s.heap := hP
  have hl := lv_entry ([.ref x, .int i]) (n := 2) (Nat.le_of_ble_eq_true rfl)
  rw [lg_entry_eq]
  generalize (lg_sl ([.ref x, .int i]) ++ List.replicate (2 - (lg_sl ([.ref x, .int i])).length) Slot.unset).toArray = ls at hl ⊢
  have hl : lv_has ls 2 [(0, .ref x), (1, .int i)] := hl
  refine lv_iload_n hx hb dX5_gapBehind_0 rfl (lv_at hl 1 rfl) ?_
  refine lv_iconst (v := 1) hx hb dX5_gapBehind_1 (by decide) ?_
  refine lv_iadd hx hb dX5_gapBehind_2 ?_
  refine lv_aload_n hx hb dX5_gapBehind_3 rfl (lv_at hl 0 rfl) ?_
  refine va_get (D := D) (ci := 5) (v := .ref pl) (C := RX5) (T := TX5) (N := 11) hx hb hts (in_X5_gapBehind_X5) hown hK hP 0 rfl rfl 8 (by decide) (hts (.fieldLink RX5 53 "StepsRoundCircle" "places" "LStepsRoundCircle$Sorted;") (by decide +kernel)) (fun _ h9 => h9) rfl dX5_gapBehind_4 ?_
  refine va_get (D := D) (ci := 3) (v := .int pz) (C := RX3) (T := TX3) (N := 2) hx hb hts (in_X5_gapBehind_X3) hown hK hP 3 rfl rfl 0 (by decide) (hts (.fieldLink RX5 150 "StepsRoundCircle$Sorted" "size" "I") (by decide +kernel)) (fun _ h9 => h9) rfl dX5_gapBehind_7 ?_
  refine lv_icmp_ge (tgt := 33) hx hb dX5_gapBehind_10 (by decide) (fun c_10 => ?_) (fun c_10 => ?_)
  · skip
    refine lv_aload_n hx hb dX5_gapBehind_33 rfl (lv_at hl 0 rfl) ?_
    refine va_get (D := D) (ci := 5) (v := .ref pl) (C := RX5) (T := TX5) (N := 11) hx hb hts (in_X5_gapBehind_X5) hown hK hP 0 rfl rfl 8 (by decide) (hts (.fieldLink RX5 53 "StepsRoundCircle" "places" "LStepsRoundCircle$Sorted;") (by decide +kernel)) (fun _ h9 => h9) rfl dX5_gapBehind_34 ?_
    refine lv_iconst (v := 0) hx hb dX5_gapBehind_37 (by decide) ?_
    refine rdV (As := [.int 0]) (rest := []) ⟨hx, hb, hml, hown, hts⟩ (c_X3_get l D cI cZ cR pl pn pz pf 0 ) (cwV 1 hts gX5_gapBehind_X3_get rfl rfl rfl (by decide +kernel) ⟨Nat.le_of_ble_eq_true rfl, Nat.le_of_ble_eq_true rfl⟩) hK hN hP 3 3 rfl rfl rfl [3, 4] rfl rfl hl.1 rfl (Nat.le_of_ble_eq_true rfl) dX5_gapBehind_38 ⟨Nat.zero_le _, Nat.zero_le _⟩ ?_
    refine lv_aload_n hx hb dX5_gapBehind_41 rfl (lv_at hl 0 rfl) ?_
    refine va_get (D := D) (ci := 5) (v := .ref r) (C := RX5) (T := TX5) (N := 11) hx hb hts (in_X5_gapBehind_X5) hown hK hP 0 rfl rfl 0 (by decide) (hts (.fieldLink RX5 10 "StepsRoundCircle" "ring" "LStepsRoundCircle$Ring;") (by decide +kernel)) (fun _ h9 => h9) rfl dX5_gapBehind_42 ?_
    refine va_get (D := D) (ci := 1) (v := .int q) (C := RX1) (T := TX1) (N := 3) hx hb hts (in_X5_gapBehind_X1) hown hK hP 1 rfl rfl 0 (by decide) (hts (.fieldLink RX5 91 "StepsRoundCircle$Ring" "size" "I") (by decide +kernel)) (fun _ h9 => h9) rfl dX5_gapBehind_45 ?_
    refine lv_iadd hx hb dX5_gapBehind_48 ?_
    refine lv_aload_n hx hb dX5_gapBehind_49 rfl (lv_at hl 0 rfl) ?_
    refine va_get (D := D) (ci := 5) (v := .ref pl) (C := RX5) (T := TX5) (N := 11) hx hb hts (in_X5_gapBehind_X5) hown hK hP 0 rfl rfl 8 (by decide) (hts (.fieldLink RX5 53 "StepsRoundCircle" "places" "LStepsRoundCircle$Sorted;") (by decide +kernel)) (fun _ h9 => h9) rfl dX5_gapBehind_50 ?_
    refine lv_iload_n hx hb dX5_gapBehind_53 rfl (lv_at hl 1 rfl) ?_
    refine rdV (As := [.int i]) (rest := [.int ((so_get pz pf 0) + q)]) ⟨hx, hb, hml, hown, hts⟩ (c_X3_get l D cI cZ cR pl pn pz pf i ) (cwV 1 hts gX5_gapBehind_X3_get rfl rfl rfl (by decide +kernel) ⟨Nat.le_of_ble_eq_true rfl, Nat.le_of_ble_eq_true rfl⟩) hK hN hP 3 3 rfl rfl rfl [3, 4] rfl rfl hl.1 rfl (Nat.le_of_ble_eq_true rfl) dX5_gapBehind_54 ⟨Nat.zero_le _, Nat.zero_le _⟩ ?_
    refine lv_isub hx hb dX5_gapBehind_57 ?_
    exact rdI hx hb hr hlocks dX5_gapBehind_58 (by first | rfl | (simp [bi, gp, c_10, Int32.not_lt.mpr c_10]; done))
  · skip
    refine lv_aload_n hx hb dX5_gapBehind_13 rfl (lv_at hl 0 rfl) ?_
    refine va_get (D := D) (ci := 5) (v := .ref pl) (C := RX5) (T := TX5) (N := 11) hx hb hts (in_X5_gapBehind_X5) hown hK hP 0 rfl rfl 8 (by decide) (hts (.fieldLink RX5 53 "StepsRoundCircle" "places" "LStepsRoundCircle$Sorted;") (by decide +kernel)) (fun _ h9 => h9) rfl dX5_gapBehind_14 ?_
    refine lv_iload_n hx hb dX5_gapBehind_17 rfl (lv_at hl 1 rfl) ?_
    refine lv_iconst (v := 1) hx hb dX5_gapBehind_18 (by decide) ?_
    refine lv_iadd hx hb dX5_gapBehind_19 ?_
    refine rdV (As := [.int (i + 1)]) (rest := []) ⟨hx, hb, hml, hown, hts⟩ (c_X3_get l D cI cZ cR pl pn pz pf (i + 1) ) (cwV 1 hts gX5_gapBehind_X3_get rfl rfl rfl (by decide +kernel) ⟨Nat.le_of_ble_eq_true rfl, Nat.le_of_ble_eq_true rfl⟩) hK hN hP 3 3 rfl rfl rfl [3, 4] rfl rfl hl.1 rfl (Nat.le_of_ble_eq_true rfl) dX5_gapBehind_20 ⟨Nat.zero_le _, Nat.zero_le _⟩ ?_
    refine lv_aload_n hx hb dX5_gapBehind_23 rfl (lv_at hl 0 rfl) ?_
    refine va_get (D := D) (ci := 5) (v := .ref pl) (C := RX5) (T := TX5) (N := 11) hx hb hts (in_X5_gapBehind_X5) hown hK hP 0 rfl rfl 8 (by decide) (hts (.fieldLink RX5 53 "StepsRoundCircle" "places" "LStepsRoundCircle$Sorted;") (by decide +kernel)) (fun _ h9 => h9) rfl dX5_gapBehind_24 ?_
    refine lv_iload_n hx hb dX5_gapBehind_27 rfl (lv_at hl 1 rfl) ?_
    refine rdV (As := [.int i]) (rest := [.int (so_get pz pf (i + 1))]) ⟨hx, hb, hml, hown, hts⟩ (c_X3_get l D cI cZ cR pl pn pz pf i ) (cwV 1 hts gX5_gapBehind_X3_get rfl rfl rfl (by decide +kernel) ⟨Nat.le_of_ble_eq_true rfl, Nat.le_of_ble_eq_true rfl⟩) hK hN hP 3 3 rfl rfl rfl [3, 4] rfl rfl hl.1 rfl (Nat.le_of_ble_eq_true rfl) dX5_gapBehind_28 ⟨Nat.zero_le _, Nat.zero_le _⟩ ?_
    refine lv_isub hx hb dX5_gapBehind_31 ?_
    exact rdI hx hb hr hlocks dX5_gapBehind_32 (by first | rfl | (simp [bi, gp, c_10, Int32.not_le.mp c_10]; done))

set_option maxHeartbeats 4000000 in
set_option maxRecDepth 100000 in
theorem c_X5_takeLengths (l : Launch) (D : va_G) (cI cZ cR : ClassId) (x r t im tx ch ro rf pl ot cl : Nat) (hi : Int32) (rn : Nat) (q nw : Int32) (v : Nat → Int32) (pn : Nat) (pz : Int32) (pf : Nat → Int32) (on : Nat) (oz : Int32) (og : Nat → Int32) (w n : Int32) (hn : n.toNatClampNeg ≤ 200) (sz : Nat) : Met l yX5_takeLengths wsX5_takeLengths ({ frames := 5, cells := 0, slots := 0, locals := 127 }) (PcW D cI cZ cR [.ref x, .int w, .int n] [(x, .inr (5, [.ref r, .ref t, .ref im, .int hi, .ref tx, .ref ch, .ref ro, .ref rf, .ref pl, .ref ot, .ref cl])), (r, .inr (1, [.int q, .int nw, .ref rn])), (rn, .inl (cI, 20, .inl v)), (pl, .inr (3, [.int pz, .ref pn])), (pn, .inl (cI, 200, .inl pf)), (ot, .inr (3, [.int oz, .ref on])), (on, .inl (cI, 200, .inl og))] sz) (va_Qv (fun (u : Int32 × (Nat → Int32) × Int32 × (Nat → Int32)) => so_rep (mk (plK q v w) n.toNatClampNeg) u.1 u.2.1 ∧ so_rep (mk (fun j => gp q u.1 u.2.1 (nI j)) (mk (plK q v w) n.toNatClampNeg).length) u.2.2.1 u.2.2.2) (Bw D (fun (u : Int32 × (Nat → Int32) × Int32 × (Nat → Int32)) => [(x, .inr (5, [.ref r, .ref t, .ref im, .int hi, .ref tx, .ref ch, .ref ro, .ref rf, .ref pl, .ref ot, .ref cl])), (r, .inr (1, [.int q, .int nw, .ref rn])), (rn, .inl (cI, 20, .inl v)), (pl, .inr (3, [.int u.1, .ref pn])), (pn, .inl (cI, 200, .inl u.2.1)), (ot, .inr (3, [.int u.2.2.1, .ref on])), (on, .inl (cI, 200, .inl u.2.2.2))]) (va_A [(x, .inr (5, [.ref r, .ref t, .ref im, .int hi, .ref tx, .ref ch, .ref ro, .ref rf, .ref pl, .ref ot, .ref cl])), (r, .inr (1, [.int q, .int nw, .ref rn])), (rn, .inl (cI, 20, .inl v)), (pl, .inr (3, [.int pz, .ref pn])), (pn, .inl (cI, 200, .inl pf)), (ot, .inr (3, [.int oz, .ref on])), (on, .inl (cI, 200, .inl og))] sz)) (va_A [(x, .inr (5, [.ref r, .ref t, .ref im, .int hi, .ref tx, .ref ch, .ref ro, .ref rf, .ref pl, .ref ot, .ref cl])), (r, .inr (1, [.int q, .int nw, .ref rn])), (rn, .inl (cI, 20, .inl v)), (pl, .inr (3, [.int pz, .ref pn])), (pn, .inl (cI, 200, .inl pf)), (ot, .inr (3, [.int oz, .ref on])), (on, .inl (cI, 200, .inl og))] sz)) 0 0 (va_A [(x, .inr (5, [.ref r, .ref t, .ref im, .int hi, .ref tx, .ref ch, .ref ro, .ref rf, .ref pl, .ref ot, .ref cl])), (r, .inr (1, [.int q, .int nw, .ref rn])), (rn, .inl (cI, 20, .inl v)), (pl, .inr (3, [.int pz, .ref pn])), (pn, .inl (cI, 200, .inl pf)), (ot, .inr (3, [.int oz, .ref on])), (on, .inl (cI, 200, .inl og))] sz) := by
  refine Met.ofW (cc := cX5_takeLengths) (maxL := 4) (ret := none) (by decide) rfl ?_
  intro p e s m args below meth c s₁ B hml hv
  obtain ⟨rfl, hsz, hP, hK, hD0, hN⟩ := hv
  have hx := B.exec
  have hb := B.bytes
  have hr := B.returns
  have hts := atoms_spec (ws := wsX5_takeLengths) B.pre
  have hown : s.vm.findClass RX5 = some m.cls := findClass_of_methodNamed B.named
  have hlocks := B.notSynchronized
  subst hsz
  have hD := hD0.self (sz := s.heap.size)
  generalize hAe : va_A [(x, .inr (5, [.ref r, .ref t, .ref im, .int hi, .ref tx, .ref ch, .ref ro, .ref rf, .ref pl, .ref ot, .ref cl])), (r, .inr (1, [.int q, .int nw, .ref rn])), (rn, .inl (cI, 20, .inl v)), (pl, .inr (3, [.int pz, .ref pn])), (pn, .inl (cI, 200, .inl pf)), (ot, .inr (3, [.int oz, .ref on])), (on, .inl (cI, 200, .inl og))] s.heap.size = A at hD ⊢
  have hA : ∀ q : Nat, s.heap.size ≤ q → A q := fun q h => by rw [← hAe]; exact Or.inr h
  have hS : va_S A s.heap s.heap [] := va_S.rf
  have hP : va_P D vwCl [(x, .inr (5, [.ref r, .ref t, .ref im, .int hi, .ref tx, .ref ch, .ref ro, .ref rf, .ref pl, .ref ot, .ref cl])), (r, .inr (1, [.int q, .int nw, .ref rn])), (rn, .inl (cI, 20, .inl v)), (pl, .inr (3, [.int pz, .ref pn])), (pn, .inl (cI, 200, .inl pf)), (ot, .inr (3, [.int oz, .ref on])), (on, .inl (cI, 200, .inl og))] s.heap := hP
  have hl := lv_entry ([.ref x, .int w, .int n]) (n := 4) (Nat.le_of_ble_eq_true rfl)
  rw [lg_entry_eq]
  generalize (lg_sl ([.ref x, .int w, .int n]) ++ List.replicate (4 - (lg_sl ([.ref x, .int w, .int n])).length) Slot.unset).toArray = ls at hl ⊢
  have hl : lv_has ls 4 [(0, .ref x), (1, .int w), (2, .int n)] := hl
  refine lv_aload_n hx hb dX5_takeLengths_0 rfl (lv_at hl 0 rfl) ?_
  refine lv_aload_n hx hb dX5_takeLengths_1 rfl (lv_at hl 0 rfl) ?_
  refine va_get (D := D) (ci := 5) (v := .ref pl) (C := RX5) (T := TX5) (N := 11) hx hb hts (in_X5_takeLengths_X5) hown hK hP 0 rfl rfl 8 (by decide) (hts (.fieldLink RX5 53 "StepsRoundCircle" "places" "LStepsRoundCircle$Sorted;") (by decide +kernel)) (fun _ h9 => h9) rfl dX5_takeLengths_2 ?_
  refine lv_iload_n hx hb dX5_takeLengths_5 rfl (lv_at hl 1 rfl) ?_
  refine lv_iload_n hx hb dX5_takeLengths_6 rfl (lv_at hl 2 rfl) ?_
  refine wrVv (As := [.ref pl, .int w, .int n]) (rest := []) (wr := [(ot, .inr (3, [.int oz, .ref on])), (on, .inl (cI, 200, .inl og))]) (A := A) ⟨hx, hb, hml, hown, hts⟩ (c_X5_takeMarks l D cI cZ cR x r t im tx ch ro rf pl ot cl hi rn q nw v pl pn pz pf w n (by first | assumption | omega) s.heap.size) (cwV 3 hts gX5_takeLengths_X5_takeMarks rfl rfl rfl (by decide +kernel) ⟨Nat.le_of_ble_eq_true rfl, Nat.le_of_ble_eq_true rfl⟩) hK hN hP hD hS hA 0 5 rfl rfl rfl [0, 1, 2, 3, 4] [5, 6] rfl (by decide) rfl (by decide) (by decide) rfl hl.1 rfl (Nat.le_of_ble_eq_true rfl) dX5_takeLengths_7 ⟨Nat.zero_le _, Nat.zero_le _⟩ (fun u H locs hw hP hD hS => ?_)
  obtain ⟨z_7, f_7⟩ := u
  try dsimp only at hw
  have h1_7 := hw
  have hP : va_P D vwCl [(x, .inr (5, [.ref r, .ref t, .ref im, .int hi, .ref tx, .ref ch, .ref ro, .ref rf, .ref pl, .ref ot, .ref cl])), (r, .inr (1, [.int q, .int nw, .ref rn])), (rn, .inl (cI, 20, .inl v)), (pl, .inr (3, [.int z_7, .ref pn])), (pn, .inl (cI, 200, .inl f_7)), (ot, .inr (3, [.int oz, .ref on])), (on, .inl (cI, 200, .inl og))] H := hP.sub [2, 3, 4, 5, 6, 0, 1] rfl
  have hD : va_D A [(x, .inr (5, [.ref r, .ref t, .ref im, .int hi, .ref tx, .ref ch, .ref ro, .ref rf, .ref pl, .ref ot, .ref cl])), (r, .inr (1, [.int q, .int nw, .ref rn])), (rn, .inl (cI, 20, .inl v)), (pl, .inr (3, [.int z_7, .ref pn])), (pn, .inl (cI, 200, .inl f_7)), (ot, .inr (3, [.int oz, .ref on])), (on, .inl (cI, 200, .inl og))] := hD.sub [2, 3, 4, 5, 6, 0, 1] (by decide) rfl
  have hlen7 := h1_7.2.1
  refine lv_aload_n hx hb dX5_takeLengths_10 rfl (lv_at hl 0 rfl) ?_
  refine va_get (D := D) (ci := 5) (v := .ref ot) (C := RX5) (T := TX5) (N := 11) hx hb hts (in_X5_takeLengths_X5) hown hK hP 0 rfl rfl 9 (by decide) (hts (.fieldLink RX5 57 "StepsRoundCircle" "others" "LStepsRoundCircle$Sorted;") (by decide +kernel)) (fun _ h9 => h9) rfl dX5_takeLengths_11 ?_
  refine wrVv (As := []) (rest := []) (wr := [(x, .inr (5, [.ref r, .ref t, .ref im, .int hi, .ref tx, .ref ch, .ref ro, .ref rf, .ref pl, .ref ot, .ref cl])), (r, .inr (1, [.int q, .int nw, .ref rn])), (rn, .inl (cI, 20, .inl v)), (pl, .inr (3, [.int z_7, .ref pn])), (pn, .inl (cI, 200, .inl f_7))]) (A := A) ⟨hx, hb, hml, hown, hts⟩ (c_X3_clear l D cI cZ cR ot on oz og  H.size) (cwV 0 hts gX5_takeLengths_X3_clear rfl rfl rfl (by decide +kernel) ⟨Nat.le_of_ble_eq_true rfl, Nat.le_of_ble_eq_true rfl⟩) hK hN hP hD hS hA 5 3 rfl rfl rfl [5, 6] [0, 1, 2, 3, 4] rfl (by decide) rfl (by decide) (by decide) rfl hl.1 rfl (Nat.le_of_ble_eq_true rfl) dX5_takeLengths_14 ⟨Nat.zero_le _, Nat.zero_le _⟩ (fun u H locs hw hP hD hS => ?_)
  obtain ⟨z_14, rfl⟩ : ∃ z, z = u := ⟨_, rfl⟩
  try dsimp only at hw
  have q1_14 := hw
  have q1_14 := q1_14.symm
  subst q1_14
  have hP : va_P D vwCl [(x, .inr (5, [.ref r, .ref t, .ref im, .int hi, .ref tx, .ref ch, .ref ro, .ref rf, .ref pl, .ref ot, .ref cl])), (r, .inr (1, [.int q, .int nw, .ref rn])), (rn, .inl (cI, 20, .inl v)), (pl, .inr (3, [.int z_7, .ref pn])), (pn, .inl (cI, 200, .inl f_7)), (ot, .inr (3, [.int 0, .ref on])), (on, .inl (cI, 200, .inl og))] H := hP.sub [0, 1, 2, 3, 4, 5, 6] rfl
  have hD : va_D A [(x, .inr (5, [.ref r, .ref t, .ref im, .int hi, .ref tx, .ref ch, .ref ro, .ref rf, .ref pl, .ref ot, .ref cl])), (r, .inr (1, [.int q, .int nw, .ref rn])), (rn, .inl (cI, 20, .inl v)), (pl, .inr (3, [.int z_7, .ref pn])), (pn, .inl (cI, 200, .inl f_7)), (ot, .inr (3, [.int 0, .ref on])), (on, .inl (cI, 200, .inl og))] := hD.sub [0, 1, 2, 3, 4, 5, 6] (by decide) rfl
  refine lv_iconst (v := 0) hx hb dX5_takeLengths_17 (by decide) ?_
  refine lv_istore_n (lv' := [(3, .int 0), (0, .ref x), (1, .int w), (2, .int n)]) hx hb dX5_takeLengths_18 rfl hl (by decide) rfl (fun ls hl => ?_)
  have loop_19 : ∀ (fuel : Nat), ∀ (i : Nat), ∀ (zz : Int32), ∀ (gg : Nat → Int32), (i ≤ (mk (plK q v w) n.toNatClampNeg).length) → (so_rep (mk (fun j => gp q z_7 f_7 (nI j)) i) zz gg) → ((mk (plK q v w) n.toNatClampNeg).length + 1 ≤ i + fuel) → ∀ (y3 : Int32), y3 = nI i → ∀ (H : Heap) (locs : List Loc), va_P D vwCl [(x, .inr (5, [.ref r, .ref t, .ref im, .int hi, .ref tx, .ref ch, .ref ro, .ref rf, .ref pl, .ref ot, .ref cl])), (r, .inr (1, [.int q, .int nw, .ref rn])), (rn, .inl (cI, 20, .inl v)), (pl, .inr (3, [.int z_7, .ref pn])), (pn, .inl (cI, 200, .inl f_7)), (ot, .inr (3, [.int zz, .ref on])), (on, .inl (cI, 200, .inl gg))] H → va_D A [(x, .inr (5, [.ref r, .ref t, .ref im, .int hi, .ref tx, .ref ch, .ref ro, .ref rf, .ref pl, .ref ot, .ref cl])), (r, .inr (1, [.int q, .int nw, .ref rn])), (rn, .inl (cI, 20, .inl v)), (pl, .inr (3, [.int z_7, .ref pn])), (pn, .inl (cI, 200, .inl f_7)), (ot, .inr (3, [.int zz, .ref on])), (on, .inl (cI, 200, .inl gg))] → va_S A s.heap H locs → ∀ (ls : Array Slot), lv_has ls 4 [(3, .int y3), (0, .ref x), (1, .int w), (2, .int n)] → W p l e (headSpec wsX5_takeLengths ({ frames := 5, cells := 0, slots := 0, locals := 127 })).room s m ([.ref x, .int w, .int n] : List Value).toArray below meth c H locs 0 0 (MQ below (va_Qv (fun (u : Int32 × (Nat → Int32) × Int32 × (Nat → Int32)) => so_rep (mk (plK q v w) n.toNatClampNeg) u.1 u.2.1 ∧ so_rep (mk (fun j => gp q u.1 u.2.1 (nI j)) (mk (plK q v w) n.toNatClampNeg).length) u.2.2.1 u.2.2.2) (Bw D (fun (u : Int32 × (Nat → Int32) × Int32 × (Nat → Int32)) => [(x, .inr (5, [.ref r, .ref t, .ref im, .int hi, .ref tx, .ref ch, .ref ro, .ref rf, .ref pl, .ref ot, .ref cl])), (r, .inr (1, [.int q, .int nw, .ref rn])), (rn, .inl (cI, 20, .inl v)), (pl, .inr (3, [.int u.1, .ref pn])), (pn, .inl (cI, 200, .inl u.2.1)), (ot, .inr (3, [.int u.2.2.1, .ref on])), (on, .inl (cI, 200, .inl u.2.2.2))]) A) A) ([.ref x, .int w, .int n] : List Value).toArray s 0 0 A) (F0 m 19 ls []) := by
    intro fuel
    induction fuel with
    | zero =>
      intro i zz gg hi9 hrep hfu
      exact False.elim (by omega)
    | succ fuel ih_19 =>
      intro i zz gg hi9 hrep hfu y3 ey3 H locs hP hD hS ls hl
      subst ey3
      refine lv_iload_n hx hb dX5_takeLengths_19 rfl (lv_at hl 0 rfl) ?_
      refine lv_aload_n hx hb dX5_takeLengths_20 rfl (lv_at hl 1 rfl) ?_
      refine va_get (D := D) (ci := 5) (v := .ref pl) (C := RX5) (T := TX5) (N := 11) hx hb hts (in_X5_takeLengths_X5) hown hK hP 0 rfl rfl 8 (by decide) (hts (.fieldLink RX5 53 "StepsRoundCircle" "places" "LStepsRoundCircle$Sorted;") (by decide +kernel)) (fun _ h9 => h9) rfl dX5_takeLengths_21 ?_
      refine va_get (D := D) (ci := 3) (v := .int z_7) (C := RX3) (T := TX3) (N := 2) hx hb hts (in_X5_takeLengths_X3) hown hK hP 3 rfl rfl 0 (by decide) (hts (.fieldLink RX5 150 "StepsRoundCircle$Sorted" "size" "I") (by decide +kernel)) (fun _ h9 => h9) rfl dX5_takeLengths_24 ?_
      refine lv_topi (fun z_27 hz_27 => ?_)
      have hz_27 : z_27 = nI (mk (plK q v w) n.toNatClampNeg).length := hz_27.trans h1_7.1
      subst hz_27
      refine lv_icmp_ge (tgt := 48) hx hb dX5_takeLengths_27 (by decide) (fun c_27 => ?_) (fun c_27 => ?_)
      · skip
        exact wrV (w1 := (fun (u : Int32 × (Nat → Int32) × Int32 × (Nat → Int32)) => [(x, .inr (5, [.ref r, .ref t, .ref im, .int hi, .ref tx, .ref ch, .ref ro, .ref rf, .ref pl, .ref ot, .ref cl])), (r, .inr (1, [.int q, .int nw, .ref rn])), (rn, .inl (cI, 20, .inl v)), (pl, .inr (3, [.int u.1, .ref pn])), (pn, .inl (cI, 200, .inl u.2.1)), (ot, .inr (3, [.int u.2.2.1, .ref on])), (on, .inl (cI, 200, .inl u.2.2.2))])) (z_7, f_7, zz, gg) hx hb hr hlocks dX5_takeLengths_48 hS (hP.sub [0, 1, 2, 3, 4, 5, 6] rfl) (hD.sub [0, 1, 2, 3, 4, 5, 6] (by decide) rfl) (by have h9 := (nI_leI (by omega) (by omega)).mp c_27; have e9 : i = (mk (plK q v w) n.toNatClampNeg).length := (by omega); refine ⟨h1_7, ?_⟩; show so_rep (mk (fun j => gp q z_7 f_7 (nI j)) (mk (plK q v w) n.toNatClampNeg).length) zz gg; rw [← e9]; exact hrep)
      · skip
        have hiN : i < (mk (plK q v w) n.toNatClampNeg).length := by rcases Nat.lt_or_ge i (mk (plK q v w) n.toNatClampNeg).length with q9 | q9; exact q9; exact absurd (nI_le q9 (by omega)) c_27
        have hml9 := mk_len (fun j => gp q z_7 f_7 (nI j)) i
        refine lv_aload_n hx hb dX5_takeLengths_30 rfl (lv_at hl 1 rfl) ?_
        refine va_get (D := D) (ci := 5) (v := .ref ot) (C := RX5) (T := TX5) (N := 11) hx hb hts (in_X5_takeLengths_X5) hown hK hP 0 rfl rfl 9 (by decide) (hts (.fieldLink RX5 57 "StepsRoundCircle" "others" "LStepsRoundCircle$Sorted;") (by decide +kernel)) (fun _ h9 => h9) rfl dX5_takeLengths_31 ?_
        refine lv_aload_n hx hb dX5_takeLengths_34 rfl (lv_at hl 1 rfl) ?_
        refine lv_iload_n hx hb dX5_takeLengths_35 rfl (lv_at hl 0 rfl) ?_
        refine rdV (As := [.int (nI i)]) (rest := [.ref ot]) ⟨hx, hb, hml, hown, hts⟩ (c_X5_gapBehind l D cI cZ cR x r t im tx ch ro rf pl ot cl hi rn q nw v pn z_7 f_7 (nI i) ) (cwV 1 hts gX5_takeLengths_X5_gapBehind rfl rfl rfl (by decide +kernel) ⟨Nat.le_of_ble_eq_true rfl, Nat.le_of_ble_eq_true rfl⟩) hK hN hP 0 5 rfl rfl rfl [0, 1, 2, 3, 4] rfl rfl hl.1 rfl (Nat.le_of_ble_eq_true rfl) dX5_takeLengths_36 ⟨Nat.zero_le _, Nat.zero_le _⟩ ?_
        refine wrVv (As := [.int (gp q z_7 f_7 (nI i))]) (rest := []) (wr := [(x, .inr (5, [.ref r, .ref t, .ref im, .int hi, .ref tx, .ref ch, .ref ro, .ref rf, .ref pl, .ref ot, .ref cl])), (r, .inr (1, [.int q, .int nw, .ref rn])), (rn, .inl (cI, 20, .inl v)), (pl, .inr (3, [.int z_7, .ref pn])), (pn, .inl (cI, 200, .inl f_7))]) (A := A) ⟨hx, hb, hml, hown, hts⟩ (c_X3_addOnce l D cI cZ cR ot on zz gg (mk (fun j => gp q z_7 f_7 (nI j)) i) (gp q z_7 f_7 (nI i)) hrep (so_str_ord (mk_str _ i)) (by omega) H.size) (cwV 1 hts gX5_takeLengths_X3_addOnce rfl rfl rfl (by decide +kernel) ⟨Nat.le_of_ble_eq_true rfl, Nat.le_of_ble_eq_true rfl⟩) hK hN hP hD hS hA 5 3 rfl rfl rfl [5, 6] [0, 1, 2, 3, 4] rfl (by decide) rfl (by decide) (by decide) rfl hl.1 rfl (Nat.le_of_ble_eq_true rfl) dX5_takeLengths_39 ⟨Nat.zero_le _, Nat.zero_le _⟩ (fun u H locs hw hP hD hS => ?_)
        obtain ⟨z_39, f_39⟩ := u
        try dsimp only at hw
        have h1_39 := hw
        have hP : va_P D vwCl [(x, .inr (5, [.ref r, .ref t, .ref im, .int hi, .ref tx, .ref ch, .ref ro, .ref rf, .ref pl, .ref ot, .ref cl])), (r, .inr (1, [.int q, .int nw, .ref rn])), (rn, .inl (cI, 20, .inl v)), (pl, .inr (3, [.int z_7, .ref pn])), (pn, .inl (cI, 200, .inl f_7)), (ot, .inr (3, [.int z_39, .ref on])), (on, .inl (cI, 200, .inl f_39))] H := hP.sub [0, 1, 2, 3, 4, 5, 6] rfl
        have hD : va_D A [(x, .inr (5, [.ref r, .ref t, .ref im, .int hi, .ref tx, .ref ch, .ref ro, .ref rf, .ref pl, .ref ot, .ref cl])), (r, .inr (1, [.int q, .int nw, .ref rn])), (rn, .inl (cI, 20, .inl v)), (pl, .inr (3, [.int z_7, .ref pn])), (pn, .inl (cI, 200, .inl f_7)), (ot, .inr (3, [.int z_39, .ref on])), (on, .inl (cI, 200, .inl f_39))] := hD.sub [0, 1, 2, 3, 4, 5, 6] (by decide) rfl
        refine lv_iinc (v := (nI i) + 1) (lv' := [(3, .int ((nI i) + 1)), (0, .ref x), (1, .int w), (2, .int n)]) hx hb dX5_takeLengths_42 hl (k := 0) rfl (by rfl) (by decide) rfl (fun ls hl => ?_)
        refine lv_goto (tgt := 19) hx hb dX5_takeLengths_45 (by decide) ?_
        exact ih_19 (i + 1) z_39 f_39 (by omega) h1_39 (by omega) _ (by first | rfl | exact nI_1 _ | exact nI_0.symm) _ _ (hP.sub [0, 1, 2, 3, 4, 5, 6] rfl) (hD.sub [0, 1, 2, 3, 4, 5, 6] (by decide) rfl) hS ls (lv_sub hl [0, 1, 2, 3] rfl)
  exact loop_19 ((mk (plK q v w) n.toNatClampNeg).length + 1) 0 0 og (by omega) ⟨nI_0.symm, Nat.zero_le _, fun j hj => absurd hj (Nat.not_lt_zero j)⟩ (by omega) _ (by first | rfl | exact nI_1 _ | exact nI_0.symm) _ _ (hP.sub [0, 1, 2, 3, 4, 5, 6] rfl) (hD.sub [0, 1, 2, 3, 4, 5, 6] (by decide) rfl) hS ls (lv_sub hl [0, 1, 2, 3] rfl)

set_option maxHeartbeats 4000000 in
set_option maxRecDepth 100000 in
theorem c_X5_gapsOfLength (l : Launch) (D : va_G) (cI cZ cR : ClassId) (x r t im tx ch ro rf pl ot cl : Nat) (hi : Int32) (rn : Nat) (q nw : Int32) (v : Nat → Int32) (pn : Nat) (pz : Int32) (pf : Nat → Int32) (g : Int32) : Met l yX5_gapsOfLength wsX5_gapsOfLength ({ frames := 2, cells := 0, slots := 0, locals := 42 }) (PcR D cI cZ cR [.ref x, .int g] [(x, .inr (5, [.ref r, .ref t, .ref im, .int hi, .ref tx, .ref ch, .ref ro, .ref rf, .ref pl, .ref ot, .ref cl])), (r, .inr (1, [.int q, .int nw, .ref rn])), (rn, .inl (cI, 20, .inl v)), (pl, .inr (3, [.int pz, .ref pn])), (pn, .inl (cI, 200, .inl pf))]) (k2_QcV (.int (nI (fa_cnt (fun j => decide (gp q pz pf (nI j) = g)) pz.toNatClampNeg)))) 0 0 (fun _ => False) := by
  refine Met.ofW (cc := cX5_gapsOfLength) (maxL := 4) (ret := (some .int)) (by decide) rfl ?_
  intro p e s m args below meth c s₁ B hml hv
  obtain ⟨rfl, hP, hK, hN⟩ := hv
  have hx := B.exec
  have hb := B.bytes
  have hr := B.returns
  have hts := atoms_spec (ws := wsX5_gapsOfLength) B.pre
  have hown : s.vm.findClass RX5 = some m.cls := findClass_of_methodNamed B.named
  have hlocks := B.notSynchronized
  have hP : va_P D vwCl [(x, .inr (5, [.ref r, .ref t, .ref im, .int hi, .ref tx, .ref ch, .ref ro, .ref rf, .ref pl, .ref ot, .ref cl])), (r, .inr (1, [.int q, .int nw, .ref rn])), (rn, .inl (cI, 20, .inl v)), (pl, .inr (3, [.int pz, .ref pn])), (pn, .inl (cI, 200, .inl pf))] s.heap := hP
  have hl := lv_entry ([.ref x, .int g]) (n := 4) (Nat.le_of_ble_eq_true rfl)
  rw [lg_entry_eq]
  generalize (lg_sl ([.ref x, .int g]) ++ List.replicate (4 - (lg_sl ([.ref x, .int g])).length) Slot.unset).toArray = ls at hl ⊢
  have hl : lv_has ls 4 [(0, .ref x), (1, .int g)] := hl
  refine lv_iconst (v := 0) hx hb dX5_gapsOfLength_0 (by decide) ?_
  refine lv_istore_n (lv' := [(2, .int 0), (0, .ref x), (1, .int g)]) hx hb dX5_gapsOfLength_1 rfl hl (by decide) rfl (fun ls hl => ?_)
  refine lv_iconst (v := 0) hx hb dX5_gapsOfLength_2 (by decide) ?_
  refine lv_istore_n (lv' := [(3, .int 0), (2, .int 0), (0, .ref x), (1, .int g)]) hx hb dX5_gapsOfLength_3 rfl hl (by decide) rfl (fun ls hl => ?_)
  have loop_4 : ∀ (fuel : Nat), ∀ (i : Nat), (i ≤ pz.toNatClampNeg) → (pz.toNatClampNeg + 1 ≤ i + fuel) → ∀ (y2 : Int32), y2 = nI (fa_cnt (fun j => decide (gp q pz pf (nI j) = g)) i) → ∀ (y3 : Int32), y3 = nI i → ∀ (ls : Array Slot), lv_has ls 4 [(2, .int y2), (3, .int y3), (0, .ref x), (1, .int g)] → W p l e (headSpec wsX5_gapsOfLength ({ frames := 2, cells := 0, slots := 0, locals := 42 })).room s m ([.ref x, .int g] : List Value).toArray below meth c s.heap [] 0 0 (MQ below (k2_QcV (.int (nI (fa_cnt (fun j => decide (gp q pz pf (nI j) = g)) pz.toNatClampNeg)))) ([.ref x, .int g] : List Value).toArray s 0 0 (fun _ => False)) (F0 m 4 ls []) := by
    intro fuel
    induction fuel with
    | zero =>
      intro i hi9 hfu
      exact False.elim (by omega)
    | succ fuel ih_4 =>
      intro i hi9 hfu y2 ey2 y3 ey3 ls hl
      subst ey2
      subst ey3
      refine lv_iload_n hx hb dX5_gapsOfLength_4 rfl (lv_at hl 1 rfl) ?_
      refine lv_aload_n hx hb dX5_gapsOfLength_5 rfl (lv_at hl 2 rfl) ?_
      refine va_get (D := D) (ci := 5) (v := .ref pl) (C := RX5) (T := TX5) (N := 11) hx hb hts (in_X5_gapsOfLength_X5) hown hK hP 0 rfl rfl 8 (by decide) (hts (.fieldLink RX5 53 "StepsRoundCircle" "places" "LStepsRoundCircle$Sorted;") (by decide +kernel)) (fun _ h9 => h9) rfl dX5_gapsOfLength_6 ?_
      refine va_get (D := D) (ci := 3) (v := .int pz) (C := RX3) (T := TX3) (N := 2) hx hb hts (in_X5_gapsOfLength_X3) hown hK hP 3 rfl rfl 0 (by decide) (hts (.fieldLink RX5 150 "StepsRoundCircle$Sorted" "size" "I") (by decide +kernel)) (fun _ h9 => h9) rfl dX5_gapsOfLength_9 ?_
      refine lv_icmp_ge (tgt := 33) hx hb dX5_gapsOfLength_12 (by decide) (fun c_12 => ?_) (fun c_12 => ?_)
      · skip
        refine lv_iload_n hx hb dX5_gapsOfLength_33 rfl (lv_at hl 0 rfl) ?_
        exact rdI hx hb hr hlocks dX5_gapsOfLength_34 (by have h9 := (le_clamp (by have := clamp_lt pz; omega)).mp c_12; have e9 : i = pz.toNatClampNeg := (by omega); rw [e9])
      · skip
        have hiN : i < pz.toNatClampNeg := (lt_clamp (by have := clamp_lt pz; omega)).mp (Int32.not_le.mp c_12)
        refine lv_aload_n hx hb dX5_gapsOfLength_15 rfl (lv_at hl 2 rfl) ?_
        refine lv_iload_n hx hb dX5_gapsOfLength_16 rfl (lv_at hl 1 rfl) ?_
        refine rdV (As := [.int (nI i)]) (rest := []) ⟨hx, hb, hml, hown, hts⟩ (c_X5_gapBehind l D cI cZ cR x r t im tx ch ro rf pl ot cl hi rn q nw v pn pz pf (nI i) ) (cwV 1 hts gX5_gapsOfLength_X5_gapBehind rfl rfl rfl (by decide +kernel) ⟨Nat.le_of_ble_eq_true rfl, Nat.le_of_ble_eq_true rfl⟩) hK hN hP 0 5 rfl rfl rfl [0, 1, 2, 3, 4] rfl rfl hl.1 rfl (Nat.le_of_ble_eq_true rfl) dX5_gapsOfLength_17 ⟨Nat.zero_le _, Nat.zero_le _⟩ ?_
        refine lv_iload_n hx hb dX5_gapsOfLength_20 rfl (lv_at hl 3 rfl) ?_
        refine lv_icmp_ne (tgt := 27) hx hb dX5_gapsOfLength_21 (by decide) (fun c_21 => ?_) (fun c_21 => ?_)
        · skip
          refine lv_iinc (v := (nI i) + 1) (lv' := [(3, .int ((nI i) + 1)), (2, .int (nI (fa_cnt (fun j => decide (gp q pz pf (nI j) = g)) i))), (0, .ref x), (1, .int g)]) hx hb dX5_gapsOfLength_27 hl (k := 1) rfl (by rfl) (by decide) rfl (fun ls hl => ?_)
          refine lv_goto (tgt := 4) hx hb dX5_gapsOfLength_30 (by decide) ?_
          exact ih_4 (i + 1) (by omega) (by omega) _ (by rw [fa_cnt_no (by simpa using c_21)]) _ (by first | rfl | exact nI_1 _ | exact nI_0.symm) ls (lv_sub hl [1, 0, 2, 3] rfl)
        · skip
          refine lv_iinc (v := (nI (fa_cnt (fun j => decide (gp q pz pf (nI j) = g)) i)) + 1) (lv' := [(2, .int ((nI (fa_cnt (fun j => decide (gp q pz pf (nI j) = g)) i)) + 1)), (3, .int (nI i)), (0, .ref x), (1, .int g)]) hx hb dX5_gapsOfLength_24 hl (k := 0) rfl (by rfl) (by decide) rfl (fun ls hl => ?_)
          refine lv_iinc (v := (nI i) + 1) (lv' := [(3, .int ((nI i) + 1)), (2, .int ((nI (fa_cnt (fun j => decide (gp q pz pf (nI j) = g)) i)) + 1)), (0, .ref x), (1, .int g)]) hx hb dX5_gapsOfLength_27 hl (k := 1) rfl (by rfl) (by decide) rfl (fun ls hl => ?_)
          refine lv_goto (tgt := 4) hx hb dX5_gapsOfLength_30 (by decide) ?_
          exact ih_4 (i + 1) (by omega) (by omega) _ (by rw [fa_cnt_yes (by simpa using c_21)]; exact nI_1 _) _ (by first | rfl | exact nI_1 _ | exact nI_0.symm) ls (lv_sub hl [1, 0, 2, 3] rfl)
  exact loop_4 (pz.toNatClampNeg + 1) 0 (by omega) (by omega) _ (by first | rfl | exact nI_1 _ | exact nI_0.symm) _ (by first | rfl | exact nI_1 _ | exact nI_0.symm) ls (lv_sub hl [1, 0, 2, 3] rfl)

set_option maxHeartbeats 4000000 in
set_option maxRecDepth 100000 in
theorem c_X5_farFromStart (l : Launch) (D : va_G) (cI cZ cR : ClassId) (x r t im tx ch ro rf pl ot cl : Nat) (hi : Int32) (rn : Nat) (q nw : Int32) (v : Nat → Int32) (w k : Int32) : Met l yX5_farFromStart wsX5_farFromStart ({ frames := 4, cells := 0, slots := 0, locals := 98 }) (PcR D cI cZ cR [.ref x, .int w, .int k] [(x, .inr (5, [.ref r, .ref t, .ref im, .int hi, .ref tx, .ref ch, .ref ro, .ref rf, .ref pl, .ref ot, .ref cl])), (r, .inr (1, [.int q, .int nw, .ref rn])), (rn, .inl (cI, 20, .inl v))]) (k2_QcV (.int (fars q v w (rg_ar q (rg_pb q v (rg_val v w 0) w k.toInt64 - rg_val v w 2).toInt64)))) 0 0 (fun _ => False) := by
  refine Met.ofW (cc := cX5_farFromStart) (maxL := 4) (ret := (some .int)) (by decide) rfl ?_
  intro p e s m args below meth c s₁ B hml hv
  obtain ⟨rfl, hP, hK, hN⟩ := hv
  have hx := B.exec
  have hb := B.bytes
  have hr := B.returns
  have hts := atoms_spec (ws := wsX5_farFromStart) B.pre
  have hown : s.vm.findClass RX5 = some m.cls := findClass_of_methodNamed B.named
  have hlocks := B.notSynchronized
  have hP : va_P D vwCl [(x, .inr (5, [.ref r, .ref t, .ref im, .int hi, .ref tx, .ref ch, .ref ro, .ref rf, .ref pl, .ref ot, .ref cl])), (r, .inr (1, [.int q, .int nw, .ref rn])), (rn, .inl (cI, 20, .inl v))] s.heap := hP
  have hl := lv_entry ([.ref x, .int w, .int k]) (n := 4) (Nat.le_of_ble_eq_true rfl)
  rw [lg_entry_eq]
  generalize (lg_sl ([.ref x, .int w, .int k]) ++ List.replicate (4 - (lg_sl ([.ref x, .int w, .int k])).length) Slot.unset).toArray = ls at hl ⊢
  have hl : lv_has ls 4 [(0, .ref x), (1, .int w), (2, .int k)] := hl
  refine lv_aload_n hx hb dX5_farFromStart_0 rfl (lv_at hl 0 rfl) ?_
  refine va_get (D := D) (ci := 5) (v := .ref r) (C := RX5) (T := TX5) (N := 11) hx hb hts (in_X5_farFromStart_X5) hown hK hP 0 rfl rfl 0 (by decide) (hts (.fieldLink RX5 10 "StepsRoundCircle" "ring" "LStepsRoundCircle$Ring;") (by decide +kernel)) (fun _ h9 => h9) rfl dX5_farFromStart_1 ?_
  refine lv_aload_n hx hb dX5_farFromStart_4 rfl (lv_at hl 0 rfl) ?_
  refine va_get (D := D) (ci := 5) (v := .ref r) (C := RX5) (T := TX5) (N := 11) hx hb hts (in_X5_farFromStart_X5) hown hK hP 0 rfl rfl 0 (by decide) (hts (.fieldLink RX5 10 "StepsRoundCircle" "ring" "LStepsRoundCircle$Ring;") (by decide +kernel)) (fun _ h9 => h9) rfl dX5_farFromStart_5 ?_
  refine lv_iload_n hx hb dX5_farFromStart_8 rfl (lv_at hl 1 rfl) ?_
  refine lv_iload_n hx hb dX5_farFromStart_9 rfl (lv_at hl 2 rfl) ?_
  refine rdV (As := [.int w, .int k]) (rest := [.ref r]) ⟨hx, hb, hml, hown, hts⟩ (c_X1_placeOf l D cI cZ cR r rn q nw v w k ) (cwV 2 hts gX5_farFromStart_X1_placeOf rfl rfl rfl (by decide +kernel) ⟨Nat.le_of_ble_eq_true rfl, Nat.le_of_ble_eq_true rfl⟩) hK hN hP 1 1 rfl rfl rfl [1, 2] rfl rfl hl.1 rfl (Nat.le_of_ble_eq_true rfl) dX5_farFromStart_10 ⟨Nat.zero_le _, Nat.zero_le _⟩ ?_
  refine lv_aload_n hx hb dX5_farFromStart_13 rfl (lv_at hl 0 rfl) ?_
  refine va_get (D := D) (ci := 5) (v := .ref r) (C := RX5) (T := TX5) (N := 11) hx hb hts (in_X5_farFromStart_X5) hown hK hP 0 rfl rfl 0 (by decide) (hts (.fieldLink RX5 10 "StepsRoundCircle" "ring" "LStepsRoundCircle$Ring;") (by decide +kernel)) (fun _ h9 => h9) rfl dX5_farFromStart_14 ?_
  refine lv_iload_n hx hb dX5_farFromStart_17 rfl (lv_at hl 1 rfl) ?_
  refine lv_iconst (v := 2) hx hb dX5_farFromStart_18 (by decide) ?_
  refine rdV (As := [.int w, .int 2]) (rest := [.int (rg_pb q v (rg_val v w 0) w k.toInt64), .ref r]) ⟨hx, hb, hml, hown, hts⟩ (c_X1_value l D cI cZ cR r rn q nw v w 2 ) (cwV 2 hts gX5_farFromStart_X1_value rfl rfl rfl (by decide +kernel) ⟨Nat.le_of_ble_eq_true rfl, Nat.le_of_ble_eq_true rfl⟩) hK hN hP 1 1 rfl rfl rfl [1, 2] rfl rfl hl.1 rfl (Nat.le_of_ble_eq_true rfl) dX5_farFromStart_19 ⟨Nat.zero_le _, Nat.zero_le _⟩ ?_
  refine lv_isub hx hb dX5_farFromStart_22 ?_
  refine lv_i2l hx hb dX5_farFromStart_23 rfl ?_
  refine rdV (As := [.long (((rg_pb q v (rg_val v w 0) w k.toInt64) - (rg_val v w 2)).toInt64)]) (rest := []) ⟨hx, hb, hml, hown, hts⟩ (c_X1_around l D cI cZ cR r rn q nw v (((rg_pb q v (rg_val v w 0) w k.toInt64) - (rg_val v w 2)).toInt64) ) (cwV 1 hts gX5_farFromStart_X1_around rfl rfl rfl (by decide +kernel) ⟨Nat.le_of_ble_eq_true rfl, Nat.le_of_ble_eq_true rfl⟩) hK hN hP 1 1 rfl rfl rfl [1, 2] rfl rfl hl.1 rfl (Nat.le_of_ble_eq_true rfl) dX5_farFromStart_24 ⟨Nat.zero_le _, Nat.zero_le _⟩ ?_
  refine lv_istore_n (lv' := [(3, .int (rg_ar q (((rg_pb q v (rg_val v w 0) w k.toInt64) - (rg_val v w 2)).toInt64))), (0, .ref x), (1, .int w), (2, .int k)]) hx hb dX5_farFromStart_27 rfl hl (by decide) rfl (fun ls hl => ?_)
  refine lv_iload_n hx hb dX5_farFromStart_28 rfl (lv_at hl 0 rfl) ?_
  refine lv_aload_n hx hb dX5_farFromStart_29 rfl (lv_at hl 1 rfl) ?_
  refine va_get (D := D) (ci := 5) (v := .ref r) (C := RX5) (T := TX5) (N := 11) hx hb hts (in_X5_farFromStart_X5) hown hK hP 0 rfl rfl 0 (by decide) (hts (.fieldLink RX5 10 "StepsRoundCircle" "ring" "LStepsRoundCircle$Ring;") (by decide +kernel)) (fun _ h9 => h9) rfl dX5_farFromStart_30 ?_
  refine va_get (D := D) (ci := 1) (v := .int q) (C := RX1) (T := TX1) (N := 3) hx hb hts (in_X5_farFromStart_X1) hown hK hP 1 rfl rfl 0 (by decide) (hts (.fieldLink RX5 91 "StepsRoundCircle$Ring" "size" "I") (by decide +kernel)) (fun _ h9 => h9) rfl dX5_farFromStart_33 ?_
  refine lv_iload_n hx hb dX5_farFromStart_36 rfl (lv_at hl 0 rfl) ?_
  refine lv_isub hx hb dX5_farFromStart_37 ?_
  refine va_mmin hx hb (hml.trans hl.1.symm) hown (hts (.methodLink RX5 322 Lib.Math.min.name) (by decide +kernel)) (hts (.static Lib.Math.min.name) (by decide +kernel)) (hts (.initialized "java/lang/Math") (by decide +kernel)) (hts (.code Lib.Math.min.name Lib.Math.min.code 2 (some .int)) (by decide +kernel)) (Nat.le_of_ble_eq_true rfl) (Nat.le_of_ble_eq_true rfl) (Nat.zero_le _) (Nat.zero_le _) dX5_farFromStart_38 ?_
  exact rdI hx hb hr hlocks dX5_farFromStart_41 (by first | rfl | (simp [bi, fars]; done))

set_option maxHeartbeats 4000000 in
set_option maxRecDepth 100000 in
theorem c_X5_returnOf (l : Launch) (D : va_G) (cI cZ cR : ClassId) (x r t im tx ch ro rf pl ot cl : Nat) (hi : Int32) (rn : Nat) (q nw : Int32) (v : Nat → Int32) (w : Int32) : Met l yX5_returnOf wsX5_returnOf ({ frames := 4, cells := 0, slots := 0, locals := 98 }) (PcR D cI cZ cR [.ref x, .int w] [(x, .inr (5, [.ref r, .ref t, .ref im, .int hi, .ref tx, .ref ch, .ref ro, .ref rf, .ref pl, .ref ot, .ref cl])), (r, .inr (1, [.int q, .int nw, .ref rn])), (rn, .inl (cI, 20, .inl v))]) (k2_QcV (.int (ffk (fun j => plK q v w j = rg_val v w 2) 1 2000))) 0 0 (fun _ => False) := by
  refine Met.ofW (cc := cX5_returnOf) (maxL := 4) (ret := (some .int)) (by decide) rfl ?_
  intro p e s m args below meth c s₁ B hml hv
  obtain ⟨rfl, hP, hK, hN⟩ := hv
  have hx := B.exec
  have hb := B.bytes
  have hr := B.returns
  have hts := atoms_spec (ws := wsX5_returnOf) B.pre
  have hown : s.vm.findClass RX5 = some m.cls := findClass_of_methodNamed B.named
  have hlocks := B.notSynchronized
  have hP : va_P D vwCl [(x, .inr (5, [.ref r, .ref t, .ref im, .int hi, .ref tx, .ref ch, .ref ro, .ref rf, .ref pl, .ref ot, .ref cl])), (r, .inr (1, [.int q, .int nw, .ref rn])), (rn, .inl (cI, 20, .inl v))] s.heap := hP
  have hl := lv_entry ([.ref x, .int w]) (n := 4) (Nat.le_of_ble_eq_true rfl)
  rw [lg_entry_eq]
  generalize (lg_sl ([.ref x, .int w]) ++ List.replicate (4 - (lg_sl ([.ref x, .int w])).length) Slot.unset).toArray = ls at hl ⊢
  have hl : lv_has ls 4 [(0, .ref x), (1, .int w)] := hl
  refine lv_aload_n hx hb dX5_returnOf_0 rfl (lv_at hl 0 rfl) ?_
  refine va_get (D := D) (ci := 5) (v := .ref r) (C := RX5) (T := TX5) (N := 11) hx hb hts (in_X5_returnOf_X5) hown hK hP 0 rfl rfl 0 (by decide) (hts (.fieldLink RX5 10 "StepsRoundCircle" "ring" "LStepsRoundCircle$Ring;") (by decide +kernel)) (fun _ h9 => h9) rfl dX5_returnOf_1 ?_
  refine lv_iload_n hx hb dX5_returnOf_4 rfl (lv_at hl 1 rfl) ?_
  refine lv_iconst (v := 2) hx hb dX5_returnOf_5 (by decide) ?_
  refine rdV (As := [.int w, .int 2]) (rest := []) ⟨hx, hb, hml, hown, hts⟩ (c_X1_value l D cI cZ cR r rn q nw v w 2 ) (cwV 2 hts gX5_returnOf_X1_value rfl rfl rfl (by decide +kernel) ⟨Nat.le_of_ble_eq_true rfl, Nat.le_of_ble_eq_true rfl⟩) hK hN hP 1 1 rfl rfl rfl [1, 2] rfl rfl hl.1 rfl (Nat.le_of_ble_eq_true rfl) dX5_returnOf_6 ⟨Nat.zero_le _, Nat.zero_le _⟩ ?_
  refine lv_istore_n (lv' := [(2, .int (rg_val v w 2)), (0, .ref x), (1, .int w)]) hx hb dX5_returnOf_9 rfl hl (by decide) rfl (fun ls hl => ?_)
  refine lv_iconst (v := 1) hx hb dX5_returnOf_10 (by decide) ?_
  refine lv_istore_n (lv' := [(3, .int 1), (2, .int (rg_val v w 2)), (0, .ref x), (1, .int w)]) hx hb dX5_returnOf_11 rfl hl (by decide) rfl (fun ls hl => ?_)
  have loop_12 : ∀ (fuel : Nat), ∀ (i : Nat), (1 ≤ i) → (i ≤ 2001) → (ffk (fun j => plK q v w j = rg_val v w 2) 1 2000 = ffk (fun j => plK q v w j = rg_val v w 2) i (2001 - i)) → (2002 ≤ i + fuel) → ∀ (y3 : Int32), y3 = nI i → ∀ (ls : Array Slot), lv_has ls 4 [(3, .int y3), (2, .int (rg_val v w 2)), (0, .ref x), (1, .int w)] → W p l e (headSpec wsX5_returnOf ({ frames := 4, cells := 0, slots := 0, locals := 98 })).room s m ([.ref x, .int w] : List Value).toArray below meth c s.heap [] 0 0 (MQ below (k2_QcV (.int (ffk (fun j => plK q v w j = rg_val v w 2) 1 2000))) ([.ref x, .int w] : List Value).toArray s 0 0 (fun _ => False)) (F0 m 12 ls []) := by
    intro fuel
    induction fuel with
    | zero =>
      intro i h1 h2 hinv hfu
      exact False.elim (by omega)
    | succ fuel ih_12 =>
      intro i h1 h2 hinv hfu y3 ey3 ls hl
      subst ey3
      refine lv_iload_n hx hb dX5_returnOf_12 rfl (lv_at hl 0 rfl) ?_
      refine lv_sipush (v := 2000) hx hb dX5_returnOf_13 (by decide) ?_
      refine lv_icmp_gt (tgt := 40) hx hb dX5_returnOf_16 (by decide) (fun c_16 => ?_) (fun c_16 => ?_)
      · skip
        refine lv_bipush (v := (-9)) hx hb dX5_returnOf_40 (by decide) ?_
        exact rdI hx hb hr hlocks dX5_returnOf_42 (by rw [hinv, show 2001 - i = 0 by have := (nI_ltI (a := 2000) (b := i) (by omega) (by omega)).mp c_16; omega]; rfl)
      · skip
        have hiN : i ≤ 2000 := by rcases Nat.lt_or_ge 2000 i with q9 | q9; exact absurd (nI_lt (a := 2000) q9 (by omega)) c_16; exact q9
        refine lv_aload_n hx hb dX5_returnOf_19 rfl (lv_at hl 2 rfl) ?_
        refine va_get (D := D) (ci := 5) (v := .ref r) (C := RX5) (T := TX5) (N := 11) hx hb hts (in_X5_returnOf_X5) hown hK hP 0 rfl rfl 0 (by decide) (hts (.fieldLink RX5 10 "StepsRoundCircle" "ring" "LStepsRoundCircle$Ring;") (by decide +kernel)) (fun _ h9 => h9) rfl dX5_returnOf_20 ?_
        refine lv_iload_n hx hb dX5_returnOf_23 rfl (lv_at hl 3 rfl) ?_
        refine lv_iload_n hx hb dX5_returnOf_24 rfl (lv_at hl 0 rfl) ?_
        refine rdV (As := [.int w, .int (nI i)]) (rest := []) ⟨hx, hb, hml, hown, hts⟩ (c_X1_placeOf l D cI cZ cR r rn q nw v w (nI i) ) (cwV 2 hts gX5_returnOf_X1_placeOf rfl rfl rfl (by decide +kernel) ⟨Nat.le_of_ble_eq_true rfl, Nat.le_of_ble_eq_true rfl⟩) hK hN hP 1 1 rfl rfl rfl [1, 2] rfl rfl hl.1 rfl (Nat.le_of_ble_eq_true rfl) dX5_returnOf_25 ⟨Nat.zero_le _, Nat.zero_le _⟩ ?_
        refine lv_iload_n hx hb dX5_returnOf_28 rfl (lv_at hl 1 rfl) ?_
        refine lv_icmp_ne (tgt := 34) hx hb dX5_returnOf_29 (by decide) (fun c_29 => ?_) (fun c_29 => ?_)
        · skip
          refine lv_iinc (v := (nI i) + 1) (lv' := [(3, .int ((nI i) + 1)), (2, .int (rg_val v w 2)), (0, .ref x), (1, .int w)]) hx hb dX5_returnOf_34 hl (k := 0) rfl (by rfl) (by decide) rfl (fun ls hl => ?_)
          refine lv_goto (tgt := 12) hx hb dX5_returnOf_37 (by decide) ?_
          exact ih_12 (i + 1) (by omega) (by omega) (by rw [hinv, show 2001 - i = (2000 - i) + 1 by omega, ffk, if_neg (show ¬ plK q v w i = rg_val v w 2 from c_29), show 2001 - (i + 1) = 2000 - i by omega]) (by omega) _ (by first | rfl | exact nI_1 _ | exact nI_0.symm) ls (lv_sub hl [0, 1, 2, 3] rfl)
        · skip
          refine lv_iload_n hx hb dX5_returnOf_32 rfl (lv_at hl 0 rfl) ?_
          exact rdI hx hb hr hlocks dX5_returnOf_33 (by rw [hinv, show 2001 - i = (2000 - i) + 1 by omega, ffk, if_pos (show plK q v w i = rg_val v w 2 from c_29)])
  exact loop_12 2001 1 (by omega) (by omega) rfl (by omega) _ (by first | rfl | exact nI_1 _ | exact nI_0.symm) ls (lv_sub hl [0, 1, 2, 3] rfl)

set_option maxHeartbeats 4000000 in
set_option maxRecDepth 100000 in
theorem c_X5_apart (l : Launch) (D : va_G) (cI cZ cR : ClassId) (x r t im tx ch ro rf pl ot cl : Nat) (hi : Int32) (rn : Nat) (q nw : Int32) (v : Nat → Int32) (h k st : Int32) : Met l yX5_apart wsX5_apart ({ frames := 1, cells := 0, slots := 0, locals := 15 }) (PcR D cI cZ cR [.ref x, .int h, .int k, .int st] [(x, .inr (5, [.ref r, .ref t, .ref im, .int hi, .ref tx, .ref ch, .ref ro, .ref rf, .ref pl, .ref ot, .ref cl])), (r, .inr (1, [.int q, .int nw, .ref rn])), (rn, .inl (cI, 20, .inl v))]) (k2_QcV (.long (if 0 < h.toInt64 * q.toInt64 - k.toInt64 * st.toInt64 then h.toInt64 * q.toInt64 - k.toInt64 * st.toInt64 else -(h.toInt64 * q.toInt64 - k.toInt64 * st.toInt64)))) 0 0 (fun _ => False) := by
  refine Met.ofW (cc := cX5_apart) (maxL := 4) (ret := (some .long)) (by decide) rfl ?_
  intro p e s m args below meth c s₁ B hml hv
  obtain ⟨rfl, hP, hK, hN⟩ := hv
  have hx := B.exec
  have hb := B.bytes
  have hr := B.returns
  have hts := atoms_spec (ws := wsX5_apart) B.pre
  have hown : s.vm.findClass RX5 = some m.cls := findClass_of_methodNamed B.named
  have hlocks := B.notSynchronized
  have hP : va_P D vwCl [(x, .inr (5, [.ref r, .ref t, .ref im, .int hi, .ref tx, .ref ch, .ref ro, .ref rf, .ref pl, .ref ot, .ref cl])), (r, .inr (1, [.int q, .int nw, .ref rn])), (rn, .inl (cI, 20, .inl v))] s.heap := hP
  have hl := lv_entry ([.ref x, .int h, .int k, .int st]) (n := 4) (Nat.le_of_ble_eq_true rfl)
  rw [lg_entry_eq]
  generalize (lg_sl ([.ref x, .int h, .int k, .int st]) ++ List.replicate (4 - (lg_sl ([.ref x, .int h, .int k, .int st])).length) Slot.unset).toArray = ls at hl ⊢
  have hl : lv_has ls 4 [(0, .ref x), (1, .int h), (2, .int k), (3, .int st)] := hl
  refine lv_iload_n hx hb dX5_apart_0 rfl (lv_at hl 1 rfl) ?_
  refine lv_i2l hx hb dX5_apart_1 rfl ?_
  refine lv_aload_n hx hb dX5_apart_2 rfl (lv_at hl 0 rfl) ?_
  refine va_get (D := D) (ci := 5) (v := .ref r) (C := RX5) (T := TX5) (N := 11) hx hb hts (in_X5_apart_X5) hown hK hP 0 rfl rfl 0 (by decide) (hts (.fieldLink RX5 10 "StepsRoundCircle" "ring" "LStepsRoundCircle$Ring;") (by decide +kernel)) (fun _ h9 => h9) rfl dX5_apart_3 ?_
  refine va_get (D := D) (ci := 1) (v := .int q) (C := RX1) (T := TX1) (N := 3) hx hb hts (in_X5_apart_X1) hown hK hP 1 rfl rfl 0 (by decide) (hts (.fieldLink RX5 91 "StepsRoundCircle$Ring" "size" "I") (by decide +kernel)) (fun _ h9 => h9) rfl dX5_apart_6 ?_
  refine lv_i2l hx hb dX5_apart_9 rfl ?_
  refine lv_lmul hx hb dX5_apart_10 ?_
  refine lv_iload_n hx hb dX5_apart_11 rfl (lv_at hl 2 rfl) ?_
  refine lv_i2l hx hb dX5_apart_12 rfl ?_
  refine lv_iload_n hx hb dX5_apart_13 rfl (lv_at hl 3 rfl) ?_
  refine lv_i2l hx hb dX5_apart_14 rfl ?_
  refine lv_lmul hx hb dX5_apart_15 ?_
  refine lv_lsub hx hb dX5_apart_16 ?_
  refine va_mabs_long hx hb (hml.trans hl.1.symm) hown (hts (.methodLink RX5 329 Lib.MathLoose.abs_long.x) (by decide +kernel)) (hts (.static Lib.MathLoose.abs_long.x) (by decide +kernel)) (hts (.initialized "java/lang/Math") (by decide +kernel)) (hts (.code Lib.MathLoose.abs_long.x Lib.MathLoose.abs_long.code 2 (some .long)) (by decide +kernel)) (Nat.le_of_ble_eq_true rfl) (Nat.le_of_ble_eq_true rfl) (Nat.zero_le _) (Nat.zero_le _) dX5_apart_17 ?_
  exact rdL hx hb hr hlocks dX5_apart_20 (by first | rfl | (simp [bi]; done))

set_option maxHeartbeats 4000000 in
set_option maxRecDepth 100000 in
theorem c_X5_sumOfFloors (l : Launch) (D : va_G) (cI cZ cR : ClassId) (st by9 : Int64) (n : Int32) : Met l yX5_sumOfFloors wsX5_sumOfFloors ({ frames := 1, cells := 0, slots := 0, locals := 23 }) (PcR D cI cZ cR [.long st, .long by9, .int n] []) (k2_QcV (.long (lsum (fun k => lq ((nI k).toInt64 * st) by9) n.toNatClampNeg))) 0 0 (fun _ => False) := by
  refine Met.ofW (cc := cX5_sumOfFloors) (maxL := 8) (ret := (some .long)) (by decide) rfl ?_
  intro p e s m args below meth c s₁ B hml hv
  obtain ⟨rfl, hP, hK, hN⟩ := hv
  have hx := B.exec
  have hb := B.bytes
  have hr := B.returns
  have hts := atoms_spec (ws := wsX5_sumOfFloors) B.pre
  have hown : s.vm.findClass RX5 = some m.cls := findClass_of_methodNamed B.named
  have hlocks := B.notSynchronized
  have hP : va_P D vwCl [] s.heap := hP
  have hl := lv_entry ([.long st, .long by9, .int n]) (n := 8) (Nat.le_of_ble_eq_true rfl)
  rw [lg_entry_eq]
  generalize (lg_sl ([.long st, .long by9, .int n]) ++ List.replicate (8 - (lg_sl ([.long st, .long by9, .int n])).length) Slot.unset).toArray = ls at hl ⊢
  have hl : lv_has ls 8 [(0, .long st), (2, .long by9), (4, .int n)] := hl
  refine lv_lconst (v := 0) hx hb dX5_sumOfFloors_0 (by decide) ?_
  refine lv_lstore (lv' := [(5, .long 0), (0, .long st), (2, .long by9), (4, .int n)]) hx hb dX5_sumOfFloors_1 hl (by decide) rfl (fun ls hl => ?_)
  refine lv_iconst (v := 0) hx hb dX5_sumOfFloors_3 (by decide) ?_
  refine lv_istore (lv' := [(7, .int 0), (5, .long 0), (0, .long st), (2, .long by9), (4, .int n)]) hx hb dX5_sumOfFloors_4 hl (by decide) rfl (fun ls hl => ?_)
  have loop_6 : ∀ (fuel : Nat), ∀ (i : Nat), (i ≤ n.toNatClampNeg) → (n.toNatClampNeg + 1 ≤ i + fuel) → ∀ (y5 : Int64), y5 = lsum (fun k => lq ((nI k).toInt64 * st) by9) i → ∀ (y7 : Int32), y7 = nI i → ∀ (ls : Array Slot), lv_has ls 8 [(5, .long y5), (7, .int y7), (0, .long st), (2, .long by9), (4, .int n)] → W p l e (headSpec wsX5_sumOfFloors ({ frames := 1, cells := 0, slots := 0, locals := 23 })).room s m ([.long st, .long by9, .int n] : List Value).toArray below meth c s.heap [] 0 0 (MQ below (k2_QcV (.long (lsum (fun k => lq ((nI k).toInt64 * st) by9) n.toNatClampNeg))) ([.long st, .long by9, .int n] : List Value).toArray s 0 0 (fun _ => False)) (F0 m 6 ls []) := by
    intro fuel
    induction fuel with
    | zero =>
      intro i hi9 hfu
      exact False.elim (by omega)
    | succ fuel ih_6 =>
      intro i hi9 hfu y5 ey5 y7 ey7 ls hl
      subst ey5
      subst ey7
      refine lv_iload hx hb dX5_sumOfFloors_6 (lv_at hl 1 rfl) ?_
      refine lv_iload hx hb dX5_sumOfFloors_8 (lv_at hl 4 rfl) ?_
      refine lv_icmp_ge (tgt := 33) hx hb dX5_sumOfFloors_10 (by decide) (fun c_10 => ?_) (fun c_10 => ?_)
      · skip
        refine lv_lload hx hb dX5_sumOfFloors_33 (lv_at hl 0 rfl) ?_
        exact rdL hx hb hr hlocks dX5_sumOfFloors_35 (by have h9 := (le_clamp (by have := clamp_lt n; omega)).mp c_10; have e9 : i = n.toNatClampNeg := (by omega); rw [e9])
      · skip
        have hiN : i < n.toNatClampNeg := (lt_clamp (by have := clamp_lt n; omega)).mp (Int32.not_le.mp c_10)
        refine lv_lload hx hb dX5_sumOfFloors_13 (lv_at hl 0 rfl) ?_
        refine lv_iload hx hb dX5_sumOfFloors_15 (lv_at hl 1 rfl) ?_
        refine lv_i2l hx hb dX5_sumOfFloors_17 rfl ?_
        refine lv_lload_n hx hb dX5_sumOfFloors_18 rfl (lv_at hl 2 rfl) ?_
        refine lv_lmul hx hb dX5_sumOfFloors_19 ?_
        refine lv_lload_n hx hb dX5_sumOfFloors_20 rfl (lv_at hl 3 rfl) ?_
        refine rdS (As := [.long (((nI i).toInt64) * st), .long by9]) (rest := [.long (lsum (fun k => lq ((nI k).toInt64 * st) by9) i)]) ⟨hx, hb, hml, hown, hts⟩ (c_X5_quotient l D cI cZ cR (((nI i).toInt64) * st) by9 ) (va_cwS 2 hts gX5_sumOfFloors_X5_quotient rfl rfl rfl (by decide +kernel) ⟨Nat.le_of_ble_eq_true rfl, Nat.le_of_ble_eq_true rfl⟩) hK hN hP [] rfl rfl hl.1 rfl (Nat.le_of_ble_eq_true rfl) dX5_sumOfFloors_21 ⟨Nat.zero_le _, Nat.zero_le _⟩ ?_
        refine lv_ladd hx hb dX5_sumOfFloors_24 ?_
        refine lv_lstore (lv' := [(5, .long ((lsum (fun k => lq ((nI k).toInt64 * st) by9) i) + (lq (((nI i).toInt64) * st) by9))), (7, .int (nI i)), (0, .long st), (2, .long by9), (4, .int n)]) hx hb dX5_sumOfFloors_25 hl (by decide) rfl (fun ls hl => ?_)
        refine lv_iinc (v := (nI i) + 1) (lv' := [(7, .int ((nI i) + 1)), (5, .long ((lsum (fun k => lq ((nI k).toInt64 * st) by9) i) + (lq (((nI i).toInt64) * st) by9))), (0, .long st), (2, .long by9), (4, .int n)]) hx hb dX5_sumOfFloors_27 hl (k := 1) rfl (by rfl) (by decide) rfl (fun ls hl => ?_)
        refine lv_goto (tgt := 6) hx hb dX5_sumOfFloors_30 (by decide) ?_
        exact ih_6 (i + 1) (by omega) (by omega) _ rfl _ (by first | rfl | exact nI_1 _ | exact nI_0.symm) ls (lv_sub hl [1, 0, 2, 3, 4] rfl)
  exact loop_6 (n.toNatClampNeg + 1) 0 (by omega) (by omega) _ (by first | rfl | exact nI_1 _ | exact nI_0.symm) _ (by first | rfl | exact nI_1 _ | exact nI_0.symm) ls (lv_sub hl [1, 0, 2, 3, 4] rfl)

set_option maxHeartbeats 4000000 in
set_option maxRecDepth 100000 in
theorem c_X5_nextSeed (l : Launch) (D : va_G) (cI cZ cR : ClassId) (x : Int32) : Met l yX5_nextSeed wsX5_nextSeed ({ frames := 0, cells := 0, slots := 0, locals := 0 }) (PcR D cI cZ cR [.int x] []) (k2_QcV (.int (fseed x))) 0 0 (fun _ => False) := by
  refine Met.ofW (cc := cX5_nextSeed) (maxL := 1) (ret := (some .int)) (by decide) rfl ?_
  intro p e s m args below meth c s₁ B hml hv
  obtain ⟨rfl, hP, hK, hN⟩ := hv
  have hx := B.exec
  have hb := B.bytes
  have hr := B.returns
  have hts := atoms_spec (ws := wsX5_nextSeed) B.pre
  have hown : s.vm.findClass RX5 = some m.cls := findClass_of_methodNamed B.named
  have hlocks := B.notSynchronized
  have hP : va_P D vwCl [] s.heap := hP
  have hl := lv_entry ([.int x]) (n := 1) (Nat.le_of_ble_eq_true rfl)
  rw [lg_entry_eq]
  generalize (lg_sl ([.int x]) ++ List.replicate (1 - (lg_sl ([.int x])).length) Slot.unset).toArray = ls at hl ⊢
  have hl : lv_has ls 1 [(0, .int x)] := hl
  refine lv_iload_n hx hb dX5_nextSeed_0 rfl (lv_at hl 0 rfl) ?_
  refine lv_ldcw (v := 1664525) hx hb hown (hts (.constant RX5 333 1664525) (by decide +kernel)) dX5_nextSeed_1 ?_
  refine lv_imul hx hb dX5_nextSeed_4 ?_
  refine lv_ldcw (v := 1013904223) hx hb hown (hts (.constant RX5 334 1013904223) (by decide +kernel)) dX5_nextSeed_5 ?_
  refine lv_iadd hx hb dX5_nextSeed_8 ?_
  exact rdI hx hb hr hlocks dX5_nextSeed_9 (by first | rfl | (simp [bi, fseed]; done))

set_option maxHeartbeats 4000000 in
set_option maxRecDepth 100000 in
theorem c_X5_drawn (l : Launch) (D : va_G) (cI cZ cR : ClassId) (x b : Int32) : Met l yX5_drawn wsX5_drawn ({ frames := 1, cells := 0, slots := 0, locals := 23 }) (PcR D cI cZ cR [.int x, .int b] []) (k2_QcV (.int (fdraw x b))) 0 0 (fun _ => False) := by
  refine Met.ofW (cc := cX5_drawn) (maxL := 2) (ret := (some .int)) (by decide) rfl ?_
  intro p e s m args below meth c s₁ B hml hv
  obtain ⟨rfl, hP, hK, hN⟩ := hv
  have hx := B.exec
  have hb := B.bytes
  have hr := B.returns
  have hts := atoms_spec (ws := wsX5_drawn) B.pre
  have hown : s.vm.findClass RX5 = some m.cls := findClass_of_methodNamed B.named
  have hlocks := B.notSynchronized
  have hP : va_P D vwCl [] s.heap := hP
  have hl := lv_entry ([.int x, .int b]) (n := 2) (Nat.le_of_ble_eq_true rfl)
  rw [lg_entry_eq]
  generalize (lg_sl ([.int x, .int b]) ++ List.replicate (2 - (lg_sl ([.int x, .int b])).length) Slot.unset).toArray = ls at hl ⊢
  have hl : lv_has ls 2 [(0, .int x), (1, .int b)] := hl
  refine lv_iload_n hx hb dX5_drawn_0 rfl (lv_at hl 0 rfl) ?_
  refine lv_ldcw (v := 2147483647) hx hb hown (hts (.constant RX5 335 2147483647) (by decide +kernel)) dX5_drawn_1 ?_
  refine lv_iand hx hb dX5_drawn_4 ?_
  refine lv_sipush (v := 256) hx hb dX5_drawn_5 (by decide) ?_
  refine lv_idiv hx hb dX5_drawn_8 (by decide) ?_
  refine lv_i2l hx hb dX5_drawn_9 rfl ?_
  refine lv_iload_n hx hb dX5_drawn_10 rfl (lv_at hl 1 rfl) ?_
  refine lv_i2l hx hb dX5_drawn_11 rfl ?_
  refine rdS (As := [.long (((x &&& 2147483647) / 256).toInt64), .long b.toInt64]) (rest := []) ⟨hx, hb, hml, hown, hts⟩ (c_X5_rest l D cI cZ cR (((x &&& 2147483647) / 256).toInt64) b.toInt64 ) (va_cwS 2 hts gX5_drawn_X5_rest rfl rfl rfl (by decide +kernel) ⟨Nat.le_of_ble_eq_true rfl, Nat.le_of_ble_eq_true rfl⟩) hK hN hP [] rfl rfl hl.1 rfl (Nat.le_of_ble_eq_true rfl) dX5_drawn_12 ⟨Nat.zero_le _, Nat.zero_le _⟩ ?_
  refine lv_l2i hx hb dX5_drawn_15 rfl ?_
  exact rdI hx hb hr hlocks dX5_drawn_16 (by first | rfl | (simp [bi, fdraw]; done))
